section
-- ===== PART A: goes FIRST, ahead of the names: the tables' words, and 'selects' of the private methods out of them =====
/-- a private method of a class that the tables say can be made, by its rows of tables_1 -/
def lw_okq (q : MethodName × Nat) : Prop := (q.1.cls ≠ "java/lang/invoke/MethodHandle" ∧ q.1.cls ≠ "java/lang/invoke/VarHandle") ∧ Cond.instantiable q.1.cls q.2 ∈ tables_1 ∧ Cond.privateMethod q.1 ∈ tables_1 ∧ Cond.instanceMethod q.1 ∈ tables_1
theorem lw_p0 : lw_okq (⟨"TwinVaults", "storeOf", "(I)LTwinVaults$Store;"⟩, 10) := ⟨⟨by decide +kernel, by decide +kernel⟩, List.mem_of_getElem? (i := 23) (by decide +kernel), List.mem_of_getElem? (i := 370) (by decide +kernel), List.mem_of_getElem? (i := 371) (by decide +kernel)⟩
theorem lw_p1 : lw_okq (⟨"TwinVaults", "writeOne", "(LTwinVaults$Store;II)I"⟩, 10) := ⟨⟨by decide +kernel, by decide +kernel⟩, List.mem_of_getElem? (i := 23) (by decide +kernel), List.mem_of_getElem? (i := 381) (by decide +kernel), List.mem_of_getElem? (i := 382) (by decide +kernel)⟩
theorem lw_p2 : lw_okq (⟨"TwinVaults", "flushed", "(LTwinVaults$Store;)Z"⟩, 10) := ⟨⟨by decide +kernel, by decide +kernel⟩, List.mem_of_getElem? (i := 23) (by decide +kernel), List.mem_of_getElem? (i := 393) (by decide +kernel), List.mem_of_getElem? (i := 394) (by decide +kernel)⟩
theorem lw_p3 : lw_okq (⟨"TwinVaults", "checkpointed", "(LTwinVaults$Store;)Z"⟩, 10) := ⟨⟨by decide +kernel, by decide +kernel⟩, List.mem_of_getElem? (i := 23) (by decide +kernel), List.mem_of_getElem? (i := 401) (by decide +kernel), List.mem_of_getElem? (i := 402) (by decide +kernel)⟩
theorem lw_p4 : lw_okq (⟨"TwinVaults$Vault", "latestLine", "()I"⟩, 11) := ⟨⟨by decide +kernel, by decide +kernel⟩, List.mem_of_getElem? (i := 173) (by decide +kernel), List.mem_of_getElem? (i := 437) (by decide +kernel), List.mem_of_getElem? (i := 438) (by decide +kernel)⟩
theorem lw_p5 : lw_okq (⟨"TwinVaults", "freeBlocks", "(LTwinVaults$Site;)I"⟩, 10) := ⟨⟨by decide +kernel, by decide +kernel⟩, List.mem_of_getElem? (i := 23) (by decide +kernel), List.mem_of_getElem? (i := 451) (by decide +kernel), List.mem_of_getElem? (i := 452) (by decide +kernel)⟩
theorem lw_p6 : lw_okq (⟨"TwinVaults$Writes", "grow", "(I)V"⟩, 7) := ⟨⟨by decide +kernel, by decide +kernel⟩, List.mem_of_getElem? (i := 63) (by decide +kernel), List.mem_of_getElem? (i := 467) (by decide +kernel), List.mem_of_getElem? (i := 468) (by decide +kernel)⟩
theorem lw_p7 : lw_okq (⟨"TwinVaults", "tookSnapshot", "(LTwinVaults$Store;)Z"⟩, 10) := ⟨⟨by decide +kernel, by decide +kernel⟩, List.mem_of_getElem? (i := 23) (by decide +kernel), List.mem_of_getElem? (i := 507) (by decide +kernel), List.mem_of_getElem? (i := 508) (by decide +kernel)⟩
theorem lw_p8 : lw_okq (⟨"TwinVaults$Store", "isPinned", "(I)Z"⟩, 20) := ⟨⟨by decide +kernel, by decide +kernel⟩, List.mem_of_getElem? (i := 171) (by decide +kernel), List.mem_of_getElem? (i := 519) (by decide +kernel), List.mem_of_getElem? (i := 520) (by decide +kernel)⟩
theorem lw_p9 : lw_okq (⟨"TwinVaults", "sendHello", "(LTwinVaults$Store;)V"⟩, 10) := ⟨⟨by decide +kernel, by decide +kernel⟩, List.mem_of_getElem? (i := 23) (by decide +kernel), List.mem_of_getElem? (i := 572) (by decide +kernel), List.mem_of_getElem? (i := 573) (by decide +kernel)⟩
theorem lw_p10 : lw_okq (⟨"TwinVaults", "tickOf", "(LTwinVaults$Store;)V"⟩, 10) := ⟨⟨by decide +kernel, by decide +kernel⟩, List.mem_of_getElem? (i := 23) (by decide +kernel), List.mem_of_getElem? (i := 634) (by decide +kernel), List.mem_of_getElem? (i := 635) (by decide +kernel)⟩
theorem lw_p11 : lw_okq (⟨"TwinVaults", "sendForward", "(LTwinVaults$Store;)V"⟩, 10) := ⟨⟨by decide +kernel, by decide +kernel⟩, List.mem_of_getElem? (i := 23) (by decide +kernel), List.mem_of_getElem? (i := 642) (by decide +kernel), List.mem_of_getElem? (i := 643) (by decide +kernel)⟩
theorem lw_p12 : lw_okq (⟨"TwinVaults", "sendOffer", "(LTwinVaults$Store;)V"⟩, 10) := ⟨⟨by decide +kernel, by decide +kernel⟩, List.mem_of_getElem? (i := 23) (by decide +kernel), List.mem_of_getElem? (i := 650) (by decide +kernel), List.mem_of_getElem? (i := 651) (by decide +kernel)⟩
theorem lw_p13 : lw_okq (⟨"TwinVaults$Row", "sink", "([III)V"⟩, 4) := ⟨⟨by decide +kernel, by decide +kernel⟩, List.mem_of_getElem? (i := 261) (by decide +kernel), List.mem_of_getElem? (i := 688) (by decide +kernel), List.mem_of_getElem? (i := 689) (by decide +kernel)⟩
theorem lw_p14 : lw_okq (⟨"TwinVaults", "handOver", "(LTwinVaults$Store;)V"⟩, 10) := ⟨⟨by decide +kernel, by decide +kernel⟩, List.mem_of_getElem? (i := 23) (by decide +kernel), List.mem_of_getElem? (i := 692) (by decide +kernel), List.mem_of_getElem? (i := 693) (by decide +kernel)⟩
theorem lw_p15 : lw_okq (⟨"TwinVaults", "sendGive", "(LTwinVaults$Store;)V"⟩, 10) := ⟨⟨by decide +kernel, by decide +kernel⟩, List.mem_of_getElem? (i := 23) (by decide +kernel), List.mem_of_getElem? (i := 696) (by decide +kernel), List.mem_of_getElem? (i := 697) (by decide +kernel)⟩
def lw_privs_1 : List (MethodName × Nat) := [(⟨"TwinVaults", "storeOf", "(I)LTwinVaults$Store;"⟩, 10), (⟨"TwinVaults", "writeOne", "(LTwinVaults$Store;II)I"⟩, 10), (⟨"TwinVaults", "flushed", "(LTwinVaults$Store;)Z"⟩, 10), (⟨"TwinVaults", "checkpointed", "(LTwinVaults$Store;)Z"⟩, 10), (⟨"TwinVaults$Vault", "latestLine", "()I"⟩, 11), (⟨"TwinVaults", "freeBlocks", "(LTwinVaults$Site;)I"⟩, 10), (⟨"TwinVaults$Writes", "grow", "(I)V"⟩, 7), (⟨"TwinVaults", "tookSnapshot", "(LTwinVaults$Store;)Z"⟩, 10), (⟨"TwinVaults$Store", "isPinned", "(I)Z"⟩, 20), (⟨"TwinVaults", "sendHello", "(LTwinVaults$Store;)V"⟩, 10), (⟨"TwinVaults", "tickOf", "(LTwinVaults$Store;)V"⟩, 10), (⟨"TwinVaults", "sendForward", "(LTwinVaults$Store;)V"⟩, 10), (⟨"TwinVaults", "sendOffer", "(LTwinVaults$Store;)V"⟩, 10), (⟨"TwinVaults$Row", "sink", "([III)V"⟩, 4), (⟨"TwinVaults", "handOver", "(LTwinVaults$Store;)V"⟩, 10), (⟨"TwinVaults", "sendGive", "(LTwinVaults$Store;)V"⟩, 10)]
theorem lw_r1 : ∀ q ∈ lw_privs_1, lw_okq q := List.forall_mem_cons.mpr ⟨lw_p0, List.forall_mem_cons.mpr ⟨lw_p1, List.forall_mem_cons.mpr ⟨lw_p2, List.forall_mem_cons.mpr ⟨lw_p3, List.forall_mem_cons.mpr ⟨lw_p4, List.forall_mem_cons.mpr ⟨lw_p5, List.forall_mem_cons.mpr ⟨lw_p6, List.forall_mem_cons.mpr ⟨lw_p7, List.forall_mem_cons.mpr ⟨lw_p8, List.forall_mem_cons.mpr ⟨lw_p9, List.forall_mem_cons.mpr ⟨lw_p10, List.forall_mem_cons.mpr ⟨lw_p11, List.forall_mem_cons.mpr ⟨lw_p12, List.forall_mem_cons.mpr ⟨lw_p13, List.forall_mem_cons.mpr ⟨lw_p14, List.forall_mem_cons.mpr ⟨lw_p15, fun _ h => absurd h List.not_mem_nil⟩⟩⟩⟩⟩⟩⟩⟩⟩⟩⟩⟩⟩⟩⟩⟩
theorem lw_p16 : lw_okq (⟨"TwinVaults$Vault", "rewind", "(I)V"⟩, 11) := ⟨⟨by decide +kernel, by decide +kernel⟩, List.mem_of_getElem? (i := 173) (by decide +kernel), List.mem_of_getElem? (i := 723) (by decide +kernel), List.mem_of_getElem? (i := 724) (by decide +kernel)⟩
theorem lw_p17 : lw_okq (⟨"TwinVaults", "receive", "(LTwinVaults$Message;)V"⟩, 10) := ⟨⟨by decide +kernel, by decide +kernel⟩, List.mem_of_getElem? (i := 23) (by decide +kernel), List.mem_of_getElem? (i := 739) (by decide +kernel), List.mem_of_getElem? (i := 740) (by decide +kernel)⟩
theorem lw_p18 : lw_okq (⟨"TwinVaults", "send", "(LTwinVaults$Store;II)V"⟩, 10) := ⟨⟨by decide +kernel, by decide +kernel⟩, List.mem_of_getElem? (i := 23) (by decide +kernel), List.mem_of_getElem? (i := 743) (by decide +kernel), List.mem_of_getElem? (i := 744) (by decide +kernel)⟩
theorem lw_p19 : lw_okq (⟨"TwinVaults", "onOffer", "(LTwinVaults$Store;LTwinVaults$Message;)V"⟩, 10) := ⟨⟨by decide +kernel, by decide +kernel⟩, List.mem_of_getElem? (i := 23) (by decide +kernel), List.mem_of_getElem? (i := 757) (by decide +kernel), List.mem_of_getElem? (i := 758) (by decide +kernel)⟩
theorem lw_p20 : lw_okq (⟨"TwinVaults", "commit", "(LTwinVaults$Store;)V"⟩, 10) := ⟨⟨by decide +kernel, by decide +kernel⟩, List.mem_of_getElem? (i := 23) (by decide +kernel), List.mem_of_getElem? (i := 774) (by decide +kernel), List.mem_of_getElem? (i := 775) (by decide +kernel)⟩
theorem lw_p21 : lw_okq (⟨"TwinVaults$Vault", "advance", "(I)V"⟩, 11) := ⟨⟨by decide +kernel, by decide +kernel⟩, List.mem_of_getElem? (i := 173) (by decide +kernel), List.mem_of_getElem? (i := 783) (by decide +kernel), List.mem_of_getElem? (i := 784) (by decide +kernel)⟩
theorem lw_p22 : lw_okq (⟨"TwinVaults", "sendProgress", "(LTwinVaults$Store;I)V"⟩, 10) := ⟨⟨by decide +kernel, by decide +kernel⟩, List.mem_of_getElem? (i := 23) (by decide +kernel), List.mem_of_getElem? (i := 789) (by decide +kernel), List.mem_of_getElem? (i := 790) (by decide +kernel)⟩
theorem lw_p23 : lw_okq (⟨"TwinVaults", "onAccept", "(LTwinVaults$Store;LTwinVaults$Message;)V"⟩, 10) := ⟨⟨by decide +kernel, by decide +kernel⟩, List.mem_of_getElem? (i := 23) (by decide +kernel), List.mem_of_getElem? (i := 793) (by decide +kernel), List.mem_of_getElem? (i := 794) (by decide +kernel)⟩
theorem lw_p24 : lw_okq (⟨"TwinVaults", "sendOn", "(LTwinVaults$Store;)V"⟩, 10) := ⟨⟨by decide +kernel, by decide +kernel⟩, List.mem_of_getElem? (i := 23) (by decide +kernel), List.mem_of_getElem? (i := 801) (by decide +kernel), List.mem_of_getElem? (i := 802) (by decide +kernel)⟩
theorem lw_p25 : lw_okq (⟨"TwinVaults", "sendData", "(LTwinVaults$Store;I)V"⟩, 10) := ⟨⟨by decide +kernel, by decide +kernel⟩, List.mem_of_getElem? (i := 23) (by decide +kernel), List.mem_of_getElem? (i := 805) (by decide +kernel), List.mem_of_getElem? (i := 806) (by decide +kernel)⟩
theorem lw_p26 : lw_okq (⟨"TwinVaults", "onData", "(LTwinVaults$Store;LTwinVaults$Message;)V"⟩, 10) := ⟨⟨by decide +kernel, by decide +kernel⟩, List.mem_of_getElem? (i := 23) (by decide +kernel), List.mem_of_getElem? (i := 813) (by decide +kernel), List.mem_of_getElem? (i := 814) (by decide +kernel)⟩
theorem lw_p27 : lw_okq (⟨"TwinVaults", "onAck", "(LTwinVaults$Store;LTwinVaults$Message;)V"⟩, 10) := ⟨⟨by decide +kernel, by decide +kernel⟩, List.mem_of_getElem? (i := 23) (by decide +kernel), List.mem_of_getElem? (i := 825) (by decide +kernel), List.mem_of_getElem? (i := 826) (by decide +kernel)⟩
theorem lw_p28 : lw_okq (⟨"TwinVaults", "onHave", "(LTwinVaults$Store;LTwinVaults$Message;)V"⟩, 10) := ⟨⟨by decide +kernel, by decide +kernel⟩, List.mem_of_getElem? (i := 23) (by decide +kernel), List.mem_of_getElem? (i := 829) (by decide +kernel), List.mem_of_getElem? (i := 830) (by decide +kernel)⟩
theorem lw_p29 : lw_okq (⟨"TwinVaults", "onLack", "(LTwinVaults$Store;LTwinVaults$Message;)V"⟩, 10) := ⟨⟨by decide +kernel, by decide +kernel⟩, List.mem_of_getElem? (i := 23) (by decide +kernel), List.mem_of_getElem? (i := 833) (by decide +kernel), List.mem_of_getElem? (i := 834) (by decide +kernel)⟩
theorem lw_p30 : lw_okq (⟨"TwinVaults", "onGive", "(LTwinVaults$Store;LTwinVaults$Message;)V"⟩, 10) := ⟨⟨by decide +kernel, by decide +kernel⟩, List.mem_of_getElem? (i := 23) (by decide +kernel), List.mem_of_getElem? (i := 838) (by decide +kernel), List.mem_of_getElem? (i := 839) (by decide +kernel)⟩
theorem lw_p31 : lw_okq (⟨"TwinVaults", "onHello", "(LTwinVaults$Store;LTwinVaults$Message;)V"⟩, 10) := ⟨⟨by decide +kernel, by decide +kernel⟩, List.mem_of_getElem? (i := 23) (by decide +kernel), List.mem_of_getElem? (i := 842) (by decide +kernel), List.mem_of_getElem? (i := 843) (by decide +kernel)⟩
def lw_privs_2 : List (MethodName × Nat) := [(⟨"TwinVaults$Vault", "rewind", "(I)V"⟩, 11), (⟨"TwinVaults", "receive", "(LTwinVaults$Message;)V"⟩, 10), (⟨"TwinVaults", "send", "(LTwinVaults$Store;II)V"⟩, 10), (⟨"TwinVaults", "onOffer", "(LTwinVaults$Store;LTwinVaults$Message;)V"⟩, 10), (⟨"TwinVaults", "commit", "(LTwinVaults$Store;)V"⟩, 10), (⟨"TwinVaults$Vault", "advance", "(I)V"⟩, 11), (⟨"TwinVaults", "sendProgress", "(LTwinVaults$Store;I)V"⟩, 10), (⟨"TwinVaults", "onAccept", "(LTwinVaults$Store;LTwinVaults$Message;)V"⟩, 10), (⟨"TwinVaults", "sendOn", "(LTwinVaults$Store;)V"⟩, 10), (⟨"TwinVaults", "sendData", "(LTwinVaults$Store;I)V"⟩, 10), (⟨"TwinVaults", "onData", "(LTwinVaults$Store;LTwinVaults$Message;)V"⟩, 10), (⟨"TwinVaults", "onAck", "(LTwinVaults$Store;LTwinVaults$Message;)V"⟩, 10), (⟨"TwinVaults", "onHave", "(LTwinVaults$Store;LTwinVaults$Message;)V"⟩, 10), (⟨"TwinVaults", "onLack", "(LTwinVaults$Store;LTwinVaults$Message;)V"⟩, 10), (⟨"TwinVaults", "onGive", "(LTwinVaults$Store;LTwinVaults$Message;)V"⟩, 10), (⟨"TwinVaults", "onHello", "(LTwinVaults$Store;LTwinVaults$Message;)V"⟩, 10)]
theorem lw_r2 : ∀ q ∈ lw_privs_2, lw_okq q := List.forall_mem_cons.mpr ⟨lw_p16, List.forall_mem_cons.mpr ⟨lw_p17, List.forall_mem_cons.mpr ⟨lw_p18, List.forall_mem_cons.mpr ⟨lw_p19, List.forall_mem_cons.mpr ⟨lw_p20, List.forall_mem_cons.mpr ⟨lw_p21, List.forall_mem_cons.mpr ⟨lw_p22, List.forall_mem_cons.mpr ⟨lw_p23, List.forall_mem_cons.mpr ⟨lw_p24, List.forall_mem_cons.mpr ⟨lw_p25, List.forall_mem_cons.mpr ⟨lw_p26, List.forall_mem_cons.mpr ⟨lw_p27, List.forall_mem_cons.mpr ⟨lw_p28, List.forall_mem_cons.mpr ⟨lw_p29, List.forall_mem_cons.mpr ⟨lw_p30, List.forall_mem_cons.mpr ⟨lw_p31, fun _ h => absurd h List.not_mem_nil⟩⟩⟩⟩⟩⟩⟩⟩⟩⟩⟩⟩⟩⟩⟩⟩
theorem lw_p32 : lw_okq (⟨"TwinVaults", "onCommon", "(LTwinVaults$Store;LTwinVaults$Message;)V"⟩, 10) := ⟨⟨by decide +kernel, by decide +kernel⟩, List.mem_of_getElem? (i := 23) (by decide +kernel), List.mem_of_getElem? (i := 846) (by decide +kernel), List.mem_of_getElem? (i := 847) (by decide +kernel)⟩
theorem lw_p33 : lw_okq (⟨"TwinVaults", "totalOf", "(LTwinVaults$Site;I)I"⟩, 10) := ⟨⟨by decide +kernel, by decide +kernel⟩, List.mem_of_getElem? (i := 23) (by decide +kernel), List.mem_of_getElem? (i := 876) (by decide +kernel), List.mem_of_getElem? (i := 877) (by decide +kernel)⟩
theorem lw_p34 : lw_okq (⟨"java/lang/Throwable", "fillInStackTrace", "(I)Ljava/lang/Throwable;"⟩, 6) := ⟨⟨by decide +kernel, by decide +kernel⟩, List.mem_of_getElem? (i := 928) (by decide +kernel), List.mem_of_getElem? (i := 926) (by decide +kernel), List.mem_of_getElem? (i := 927) (by decide +kernel)⟩
theorem lw_p35 : lw_okq (⟨"TwinVaultsModel", "of", "(I)LTwinVaultsModel$Store;"⟩, 39) := ⟨⟨by decide +kernel, by decide +kernel⟩, List.mem_of_getElem? (i := 1029) (by decide +kernel), List.mem_of_getElem? (i := 1343) (by decide +kernel), List.mem_of_getElem? (i := 1344) (by decide +kernel)⟩
theorem lw_p36 : lw_okq (⟨"TwinVaultsModel", "isPlace", "(LTwinVaultsModel$Store;II)Z"⟩, 39) := ⟨⟨by decide +kernel, by decide +kernel⟩, List.mem_of_getElem? (i := 1029) (by decide +kernel), List.mem_of_getElem? (i := 1347) (by decide +kernel), List.mem_of_getElem? (i := 1348) (by decide +kernel)⟩
theorem lw_p37 : lw_okq (⟨"TwinVaultsModel", "writes", "(LTwinVaultsModel$Store;III)I"⟩, 39) := ⟨⟨by decide +kernel, by decide +kernel⟩, List.mem_of_getElem? (i := 1029) (by decide +kernel), List.mem_of_getElem? (i := 1351) (by decide +kernel), List.mem_of_getElem? (i := 1352) (by decide +kernel)⟩
theorem lw_p38 : lw_okq (⟨"TwinVaultsModel", "flushes", "(LTwinVaultsModel$Store;)Z"⟩, 39) := ⟨⟨by decide +kernel, by decide +kernel⟩, List.mem_of_getElem? (i := 1029) (by decide +kernel), List.mem_of_getElem? (i := 1356) (by decide +kernel), List.mem_of_getElem? (i := 1357) (by decide +kernel)⟩
theorem lw_p39 : lw_okq (⟨"TwinVaultsModel", "checks", "(LTwinVaultsModel$Store;)I"⟩, 39) := ⟨⟨by decide +kernel, by decide +kernel⟩, List.mem_of_getElem? (i := 1029) (by decide +kernel), List.mem_of_getElem? (i := 1360) (by decide +kernel), List.mem_of_getElem? (i := 1361) (by decide +kernel)⟩
theorem lw_p40 : lw_okq (⟨"TwinVaultsModel", "nodes", "(III)I"⟩, 39) := ⟨⟨by decide +kernel, by decide +kernel⟩, List.mem_of_getElem? (i := 1029) (by decide +kernel), List.mem_of_getElem? (i := 1364) (by decide +kernel), List.mem_of_getElem? (i := 1365) (by decide +kernel)⟩
theorem lw_p41 : lw_okq (⟨"TwinVaultsModel", "path", "(II)I"⟩, 39) := ⟨⟨by decide +kernel, by decide +kernel⟩, List.mem_of_getElem? (i := 1029) (by decide +kernel), List.mem_of_getElem? (i := 1368) (by decide +kernel), List.mem_of_getElem? (i := 1369) (by decide +kernel)⟩
theorem lw_p42 : lw_okq (⟨"TwinVaultsModel", "acts", "(II)Z"⟩, 39) := ⟨⟨by decide +kernel, by decide +kernel⟩, List.mem_of_getElem? (i := 1029) (by decide +kernel), List.mem_of_getElem? (i := 1372) (by decide +kernel), List.mem_of_getElem? (i := 1373) (by decide +kernel)⟩
theorem lw_p43 : lw_okq (⟨"TwinVaultsModel", "act", "(I)Z"⟩, 39) := ⟨⟨by decide +kernel, by decide +kernel⟩, List.mem_of_getElem? (i := 1029) (by decide +kernel), List.mem_of_getElem? (i := 1376) (by decide +kernel), List.mem_of_getElem? (i := 1377) (by decide +kernel)⟩
theorem lw_p44 : lw_okq (⟨"TwinVaultsModel", "goesDown", "(I)V"⟩, 39) := ⟨⟨by decide +kernel, by decide +kernel⟩, List.mem_of_getElem? (i := 1029) (by decide +kernel), List.mem_of_getElem? (i := 1380) (by decide +kernel), List.mem_of_getElem? (i := 1381) (by decide +kernel)⟩
theorem lw_p45 : lw_okq (⟨"TwinVaultsModel", "cut", "(II)I"⟩, 39) := ⟨⟨by decide +kernel, by decide +kernel⟩, List.mem_of_getElem? (i := 1029) (by decide +kernel), List.mem_of_getElem? (i := 1384) (by decide +kernel), List.mem_of_getElem? (i := 1385) (by decide +kernel)⟩
theorem lw_p46 : lw_okq (⟨"TwinVaultsModel", "free", "(I)I"⟩, 39) := ⟨⟨by decide +kernel, by decide +kernel⟩, List.mem_of_getElem? (i := 1029) (by decide +kernel), List.mem_of_getElem? (i := 1388) (by decide +kernel), List.mem_of_getElem? (i := 1389) (by decide +kernel)⟩
theorem lw_p47 : lw_okq (⟨"TwinVaultsModel", "needs", "(LTwinVaultsModel$Store;)I"⟩, 39) := ⟨⟨by decide +kernel, by decide +kernel⟩, List.mem_of_getElem? (i := 1029) (by decide +kernel), List.mem_of_getElem? (i := 1392) (by decide +kernel), List.mem_of_getElem? (i := 1393) (by decide +kernel)⟩
def lw_privs_3 : List (MethodName × Nat) := [(⟨"TwinVaults", "onCommon", "(LTwinVaults$Store;LTwinVaults$Message;)V"⟩, 10), (⟨"TwinVaults", "totalOf", "(LTwinVaults$Site;I)I"⟩, 10), (⟨"java/lang/Throwable", "fillInStackTrace", "(I)Ljava/lang/Throwable;"⟩, 6), (⟨"TwinVaultsModel", "of", "(I)LTwinVaultsModel$Store;"⟩, 39), (⟨"TwinVaultsModel", "isPlace", "(LTwinVaultsModel$Store;II)Z"⟩, 39), (⟨"TwinVaultsModel", "writes", "(LTwinVaultsModel$Store;III)I"⟩, 39), (⟨"TwinVaultsModel", "flushes", "(LTwinVaultsModel$Store;)Z"⟩, 39), (⟨"TwinVaultsModel", "checks", "(LTwinVaultsModel$Store;)I"⟩, 39), (⟨"TwinVaultsModel", "nodes", "(III)I"⟩, 39), (⟨"TwinVaultsModel", "path", "(II)I"⟩, 39), (⟨"TwinVaultsModel", "acts", "(II)Z"⟩, 39), (⟨"TwinVaultsModel", "act", "(I)Z"⟩, 39), (⟨"TwinVaultsModel", "goesDown", "(I)V"⟩, 39), (⟨"TwinVaultsModel", "cut", "(II)I"⟩, 39), (⟨"TwinVaultsModel", "free", "(I)I"⟩, 39), (⟨"TwinVaultsModel", "needs", "(LTwinVaultsModel$Store;)I"⟩, 39)]
theorem lw_r3 : ∀ q ∈ lw_privs_3, lw_okq q := List.forall_mem_cons.mpr ⟨lw_p32, List.forall_mem_cons.mpr ⟨lw_p33, List.forall_mem_cons.mpr ⟨lw_p34, List.forall_mem_cons.mpr ⟨lw_p35, List.forall_mem_cons.mpr ⟨lw_p36, List.forall_mem_cons.mpr ⟨lw_p37, List.forall_mem_cons.mpr ⟨lw_p38, List.forall_mem_cons.mpr ⟨lw_p39, List.forall_mem_cons.mpr ⟨lw_p40, List.forall_mem_cons.mpr ⟨lw_p41, List.forall_mem_cons.mpr ⟨lw_p42, List.forall_mem_cons.mpr ⟨lw_p43, List.forall_mem_cons.mpr ⟨lw_p44, List.forall_mem_cons.mpr ⟨lw_p45, List.forall_mem_cons.mpr ⟨lw_p46, List.forall_mem_cons.mpr ⟨lw_p47, fun _ h => absurd h List.not_mem_nil⟩⟩⟩⟩⟩⟩⟩⟩⟩⟩⟩⟩⟩⟩⟩⟩
theorem lw_p48 : lw_okq (⟨"TwinVaultsModel", "know", "(LTwinVaultsModel$Store;)V"⟩, 39) := ⟨⟨by decide +kernel, by decide +kernel⟩, List.mem_of_getElem? (i := 1029) (by decide +kernel), List.mem_of_getElem? (i := 1397) (by decide +kernel), List.mem_of_getElem? (i := 1398) (by decide +kernel)⟩
theorem lw_p49 : lw_okq (⟨"TwinVaultsModel", "against", "(LTwinVaultsModel$Store;II)I"⟩, 39) := ⟨⟨by decide +kernel, by decide +kernel⟩, List.mem_of_getElem? (i := 1029) (by decide +kernel), List.mem_of_getElem? (i := 1417) (by decide +kernel), List.mem_of_getElem? (i := 1418) (by decide +kernel)⟩
theorem lw_p50 : lw_okq (⟨"TwinVaultsModel", "takes", "(LTwinVaultsModel$Store;)Z"⟩, 39) := ⟨⟨by decide +kernel, by decide +kernel⟩, List.mem_of_getElem? (i := 1029) (by decide +kernel), List.mem_of_getElem? (i := 1425) (by decide +kernel), List.mem_of_getElem? (i := 1426) (by decide +kernel)⟩
theorem lw_p51 : lw_okq (⟨"TwinVaultsModel", "isTaken", "(III)V"⟩, 39) := ⟨⟨by decide +kernel, by decide +kernel⟩, List.mem_of_getElem? (i := 1029) (by decide +kernel), List.mem_of_getElem? (i := 1437) (by decide +kernel), List.mem_of_getElem? (i := 1438) (by decide +kernel)⟩
theorem lw_p52 : lw_okq (⟨"TwinVaultsModel", "begins", "(LTwinVaultsModel$Store;I)V"⟩, 39) := ⟨⟨by decide +kernel, by decide +kernel⟩, List.mem_of_getElem? (i := 1029) (by decide +kernel), List.mem_of_getElem? (i := 1473) (by decide +kernel), List.mem_of_getElem? (i := 1474) (by decide +kernel)⟩
theorem lw_p53 : lw_okq (⟨"TwinVaultsModel", "send", "(LTwinVaultsModel$Store;IIIII)V"⟩, 39) := ⟨⟨by decide +kernel, by decide +kernel⟩, List.mem_of_getElem? (i := 1029) (by decide +kernel), List.mem_of_getElem? (i := 1481) (by decide +kernel), List.mem_of_getElem? (i := 1482) (by decide +kernel)⟩
theorem lw_p54 : lw_okq (⟨"TwinVaultsModel", "piece", "(LTwinVaultsModel$Message;)V"⟩, 39) := ⟨⟨by decide +kernel, by decide +kernel⟩, List.mem_of_getElem? (i := 1029) (by decide +kernel), List.mem_of_getElem? (i := 1485) (by decide +kernel), List.mem_of_getElem? (i := 1486) (by decide +kernel)⟩
theorem lw_p55 : lw_okq (⟨"TwinVaultsModel", "ticks", "(LTwinVaultsModel$Store;)V"⟩, 39) := ⟨⟨by decide +kernel, by decide +kernel⟩, List.mem_of_getElem? (i := 1029) (by decide +kernel), List.mem_of_getElem? (i := 1497) (by decide +kernel), List.mem_of_getElem? (i := 1498) (by decide +kernel)⟩
theorem lw_p56 : lw_okq (⟨"TwinVaultsModel", "copies", "(LTwinVaultsModel$Store;)V"⟩, 39) := ⟨⟨by decide +kernel, by decide +kernel⟩, List.mem_of_getElem? (i := 1029) (by decide +kernel), List.mem_of_getElem? (i := 1501) (by decide +kernel), List.mem_of_getElem? (i := 1502) (by decide +kernel)⟩
theorem lw_p57 : lw_okq (⟨"TwinVaultsModel", "offers", "(LTwinVaultsModel$Store;)V"⟩, 39) := ⟨⟨by decide +kernel, by decide +kernel⟩, List.mem_of_getElem? (i := 1029) (by decide +kernel), List.mem_of_getElem? (i := 1505) (by decide +kernel), List.mem_of_getElem? (i := 1506) (by decide +kernel)⟩
theorem lw_p58 : lw_okq (⟨"TwinVaultsModel", "spanOf", "(LTwinVaultsModel$Store;)V"⟩, 39) := ⟨⟨by decide +kernel, by decide +kernel⟩, List.mem_of_getElem? (i := 1029) (by decide +kernel), List.mem_of_getElem? (i := 1509) (by decide +kernel), List.mem_of_getElem? (i := 1510) (by decide +kernel)⟩
theorem lw_p59 : lw_okq (⟨"TwinVaultsModel", "lineOf", "(II)I"⟩, 39) := ⟨⟨by decide +kernel, by decide +kernel⟩, List.mem_of_getElem? (i := 1029) (by decide +kernel), List.mem_of_getElem? (i := 1513) (by decide +kernel), List.mem_of_getElem? (i := 1514) (by decide +kernel)⟩
theorem lw_p60 : lw_okq (⟨"TwinVaultsModel", "span", "(III)V"⟩, 39) := ⟨⟨by decide +kernel, by decide +kernel⟩, List.mem_of_getElem? (i := 1029) (by decide +kernel), List.mem_of_getElem? (i := 1517) (by decide +kernel), List.mem_of_getElem? (i := 1518) (by decide +kernel)⟩
theorem lw_p61 : lw_okq (⟨"TwinVaultsModel", "flies", "(I)LTwinVaultsModel$Message;"⟩, 39) := ⟨⟨by decide +kernel, by decide +kernel⟩, List.mem_of_getElem? (i := 1029) (by decide +kernel), List.mem_of_getElem? (i := 1541) (by decide +kernel), List.mem_of_getElem? (i := 1542) (by decide +kernel)⟩
theorem lw_p62 : lw_okq (⟨"TwinVaultsModel", "receive", "(LTwinVaultsModel$Message;)V"⟩, 39) := ⟨⟨by decide +kernel, by decide +kernel⟩, List.mem_of_getElem? (i := 1029) (by decide +kernel), List.mem_of_getElem? (i := 1545) (by decide +kernel), List.mem_of_getElem? (i := 1546) (by decide +kernel)⟩
theorem lw_p63 : lw_okq (⟨"TwinVaultsModel", "other", "(LTwinVaultsModel$Store;)LTwinVaultsModel$Store;"⟩, 39) := ⟨⟨by decide +kernel, by decide +kernel⟩, List.mem_of_getElem? (i := 1029) (by decide +kernel), List.mem_of_getElem? (i := 1549) (by decide +kernel), List.mem_of_getElem? (i := 1550) (by decide +kernel)⟩
def lw_privs_4 : List (MethodName × Nat) := [(⟨"TwinVaultsModel", "know", "(LTwinVaultsModel$Store;)V"⟩, 39), (⟨"TwinVaultsModel", "against", "(LTwinVaultsModel$Store;II)I"⟩, 39), (⟨"TwinVaultsModel", "takes", "(LTwinVaultsModel$Store;)Z"⟩, 39), (⟨"TwinVaultsModel", "isTaken", "(III)V"⟩, 39), (⟨"TwinVaultsModel", "begins", "(LTwinVaultsModel$Store;I)V"⟩, 39), (⟨"TwinVaultsModel", "send", "(LTwinVaultsModel$Store;IIIII)V"⟩, 39), (⟨"TwinVaultsModel", "piece", "(LTwinVaultsModel$Message;)V"⟩, 39), (⟨"TwinVaultsModel", "ticks", "(LTwinVaultsModel$Store;)V"⟩, 39), (⟨"TwinVaultsModel", "copies", "(LTwinVaultsModel$Store;)V"⟩, 39), (⟨"TwinVaultsModel", "offers", "(LTwinVaultsModel$Store;)V"⟩, 39), (⟨"TwinVaultsModel", "spanOf", "(LTwinVaultsModel$Store;)V"⟩, 39), (⟨"TwinVaultsModel", "lineOf", "(II)I"⟩, 39), (⟨"TwinVaultsModel", "span", "(III)V"⟩, 39), (⟨"TwinVaultsModel", "flies", "(I)LTwinVaultsModel$Message;"⟩, 39), (⟨"TwinVaultsModel", "receive", "(LTwinVaultsModel$Message;)V"⟩, 39), (⟨"TwinVaultsModel", "other", "(LTwinVaultsModel$Store;)LTwinVaultsModel$Store;"⟩, 39)]
theorem lw_r4 : ∀ q ∈ lw_privs_4, lw_okq q := List.forall_mem_cons.mpr ⟨lw_p48, List.forall_mem_cons.mpr ⟨lw_p49, List.forall_mem_cons.mpr ⟨lw_p50, List.forall_mem_cons.mpr ⟨lw_p51, List.forall_mem_cons.mpr ⟨lw_p52, List.forall_mem_cons.mpr ⟨lw_p53, List.forall_mem_cons.mpr ⟨lw_p54, List.forall_mem_cons.mpr ⟨lw_p55, List.forall_mem_cons.mpr ⟨lw_p56, List.forall_mem_cons.mpr ⟨lw_p57, List.forall_mem_cons.mpr ⟨lw_p58, List.forall_mem_cons.mpr ⟨lw_p59, List.forall_mem_cons.mpr ⟨lw_p60, List.forall_mem_cons.mpr ⟨lw_p61, List.forall_mem_cons.mpr ⟨lw_p62, List.forall_mem_cons.mpr ⟨lw_p63, fun _ h => absurd h List.not_mem_nil⟩⟩⟩⟩⟩⟩⟩⟩⟩⟩⟩⟩⟩⟩⟩⟩
theorem lw_p64 : lw_okq (⟨"TwinVaultsModel", "follows", "(LTwinVaultsModel$Store;I)Z"⟩, 39) := ⟨⟨by decide +kernel, by decide +kernel⟩, List.mem_of_getElem? (i := 1029) (by decide +kernel), List.mem_of_getElem? (i := 1553) (by decide +kernel), List.mem_of_getElem? (i := 1554) (by decide +kernel)⟩
theorem lw_p65 : lw_okq (⟨"TwinVaultsModel", "offered", "(LTwinVaultsModel$Store;LTwinVaultsModel$Message;)V"⟩, 39) := ⟨⟨by decide +kernel, by decide +kernel⟩, List.mem_of_getElem? (i := 1029) (by decide +kernel), List.mem_of_getElem? (i := 1557) (by decide +kernel), List.mem_of_getElem? (i := 1558) (by decide +kernel)⟩
theorem lw_p66 : lw_okq (⟨"TwinVaultsModel", "staged", "(LTwinVaultsModel$Store;I)V"⟩, 39) := ⟨⟨by decide +kernel, by decide +kernel⟩, List.mem_of_getElem? (i := 1029) (by decide +kernel), List.mem_of_getElem? (i := 1564) (by decide +kernel), List.mem_of_getElem? (i := 1565) (by decide +kernel)⟩
theorem lw_p67 : lw_okq (⟨"TwinVaultsModel", "data", "(LTwinVaultsModel$Store;LTwinVaultsModel$Message;)V"⟩, 39) := ⟨⟨by decide +kernel, by decide +kernel⟩, List.mem_of_getElem? (i := 1029) (by decide +kernel), List.mem_of_getElem? (i := 1572) (by decide +kernel), List.mem_of_getElem? (i := 1573) (by decide +kernel)⟩
theorem lw_p68 : lw_okq (⟨"TwinVaultsModel", "accepted", "(LTwinVaultsModel$Store;I)V"⟩, 39) := ⟨⟨by decide +kernel, by decide +kernel⟩, List.mem_of_getElem? (i := 1029) (by decide +kernel), List.mem_of_getElem? (i := 1576) (by decide +kernel), List.mem_of_getElem? (i := 1577) (by decide +kernel)⟩
theorem lw_p69 : lw_okq (⟨"TwinVaultsModel", "sendsOn", "(LTwinVaultsModel$Store;)V"⟩, 39) := ⟨⟨by decide +kernel, by decide +kernel⟩, List.mem_of_getElem? (i := 1029) (by decide +kernel), List.mem_of_getElem? (i := 1580) (by decide +kernel), List.mem_of_getElem? (i := 1581) (by decide +kernel)⟩
theorem lw_p70 : lw_okq (⟨"TwinVaultsModel", "acknowledged", "(LTwinVaultsModel$Store;I)V"⟩, 39) := ⟨⟨by decide +kernel, by decide +kernel⟩, List.mem_of_getElem? (i := 1029) (by decide +kernel), List.mem_of_getElem? (i := 1584) (by decide +kernel), List.mem_of_getElem? (i := 1585) (by decide +kernel)⟩
theorem lw_p71 : lw_okq (⟨"TwinVaultsModel", "had", "(LTwinVaultsModel$Store;)V"⟩, 39) := ⟨⟨by decide +kernel, by decide +kernel⟩, List.mem_of_getElem? (i := 1029) (by decide +kernel), List.mem_of_getElem? (i := 1588) (by decide +kernel), List.mem_of_getElem? (i := 1589) (by decide +kernel)⟩
theorem lw_p72 : lw_okq (⟨"TwinVaultsModel", "lacked", "(LTwinVaultsModel$Store;I)V"⟩, 39) := ⟨⟨by decide +kernel, by decide +kernel⟩, List.mem_of_getElem? (i := 1029) (by decide +kernel), List.mem_of_getElem? (i := 1592) (by decide +kernel), List.mem_of_getElem? (i := 1593) (by decide +kernel)⟩
theorem lw_p73 : lw_okq (⟨"TwinVaultsModel", "given", "(LTwinVaultsModel$Store;LTwinVaultsModel$Message;)V"⟩, 39) := ⟨⟨by decide +kernel, by decide +kernel⟩, List.mem_of_getElem? (i := 1029) (by decide +kernel), List.mem_of_getElem? (i := 1600) (by decide +kernel), List.mem_of_getElem? (i := 1601) (by decide +kernel)⟩
theorem lw_p74 : lw_okq (⟨"TwinVaultsModel", "greeted", "(LTwinVaultsModel$Store;LTwinVaultsModel$Message;)V"⟩, 39) := ⟨⟨by decide +kernel, by decide +kernel⟩, List.mem_of_getElem? (i := 1029) (by decide +kernel), List.mem_of_getElem? (i := 1604) (by decide +kernel), List.mem_of_getElem? (i := 1605) (by decide +kernel)⟩
theorem lw_p75 : lw_okq (⟨"TwinVaultsModel", "goesBack", "(LTwinVaultsModel$Store;I)V"⟩, 39) := ⟨⟨by decide +kernel, by decide +kernel⟩, List.mem_of_getElem? (i := 1029) (by decide +kernel), List.mem_of_getElem? (i := 1608) (by decide +kernel), List.mem_of_getElem? (i := 1609) (by decide +kernel)⟩
theorem lw_p76 : lw_okq (⟨"TwinVaultsModel", "fails", "(I)I"⟩, 39) := ⟨⟨by decide +kernel, by decide +kernel⟩, List.mem_of_getElem? (i := 1029) (by decide +kernel), List.mem_of_getElem? (i := 1620) (by decide +kernel), List.mem_of_getElem? (i := 1621) (by decide +kernel)⟩
theorem lw_p77 : lw_okq (⟨"TwinVaultsModel", "different", "(III)I"⟩, 39) := ⟨⟨by decide +kernel, by decide +kernel⟩, List.mem_of_getElem? (i := 1029) (by decide +kernel), List.mem_of_getElem? (i := 1640) (by decide +kernel), List.mem_of_getElem? (i := 1641) (by decide +kernel)⟩
def lw_privs_5 : List (MethodName × Nat) := [(⟨"TwinVaultsModel", "follows", "(LTwinVaultsModel$Store;I)Z"⟩, 39), (⟨"TwinVaultsModel", "offered", "(LTwinVaultsModel$Store;LTwinVaultsModel$Message;)V"⟩, 39), (⟨"TwinVaultsModel", "staged", "(LTwinVaultsModel$Store;I)V"⟩, 39), (⟨"TwinVaultsModel", "data", "(LTwinVaultsModel$Store;LTwinVaultsModel$Message;)V"⟩, 39), (⟨"TwinVaultsModel", "accepted", "(LTwinVaultsModel$Store;I)V"⟩, 39), (⟨"TwinVaultsModel", "sendsOn", "(LTwinVaultsModel$Store;)V"⟩, 39), (⟨"TwinVaultsModel", "acknowledged", "(LTwinVaultsModel$Store;I)V"⟩, 39), (⟨"TwinVaultsModel", "had", "(LTwinVaultsModel$Store;)V"⟩, 39), (⟨"TwinVaultsModel", "lacked", "(LTwinVaultsModel$Store;I)V"⟩, 39), (⟨"TwinVaultsModel", "given", "(LTwinVaultsModel$Store;LTwinVaultsModel$Message;)V"⟩, 39), (⟨"TwinVaultsModel", "greeted", "(LTwinVaultsModel$Store;LTwinVaultsModel$Message;)V"⟩, 39), (⟨"TwinVaultsModel", "goesBack", "(LTwinVaultsModel$Store;I)V"⟩, 39), (⟨"TwinVaultsModel", "fails", "(I)I"⟩, 39), (⟨"TwinVaultsModel", "different", "(III)I"⟩, 39)]
theorem lw_r5 : ∀ q ∈ lw_privs_5, lw_okq q := List.forall_mem_cons.mpr ⟨lw_p64, List.forall_mem_cons.mpr ⟨lw_p65, List.forall_mem_cons.mpr ⟨lw_p66, List.forall_mem_cons.mpr ⟨lw_p67, List.forall_mem_cons.mpr ⟨lw_p68, List.forall_mem_cons.mpr ⟨lw_p69, List.forall_mem_cons.mpr ⟨lw_p70, List.forall_mem_cons.mpr ⟨lw_p71, List.forall_mem_cons.mpr ⟨lw_p72, List.forall_mem_cons.mpr ⟨lw_p73, List.forall_mem_cons.mpr ⟨lw_p74, List.forall_mem_cons.mpr ⟨lw_p75, List.forall_mem_cons.mpr ⟨lw_p76, List.forall_mem_cons.mpr ⟨lw_p77, fun _ h => absurd h List.not_mem_nil⟩⟩⟩⟩⟩⟩⟩⟩⟩⟩⟩⟩⟩⟩
def lw_privs : List (MethodName × Nat) := lw_privs_1 ++ (lw_privs_2 ++ (lw_privs_3 ++ (lw_privs_4 ++ (lw_privs_5))))
def lw_tbl : List Cond := k2_sels lw_privs ++ tables_1
theorem lw_privs_ok : ∀ q ∈ lw_privs, lw_okq q := by
  show ∀ q ∈ lw_privs_1 ++ (lw_privs_2 ++ (lw_privs_3 ++ (lw_privs_4 ++ (lw_privs_5)))), lw_okq q
  exact List.forall_mem_append.mpr ⟨lw_r1, List.forall_mem_append.mpr ⟨lw_r2, List.forall_mem_append.mpr ⟨lw_r3, List.forall_mem_append.mpr ⟨lw_r4, lw_r5⟩⟩⟩⟩
end
section
def RX0 : String := "TwinVaults$Link"
def TX0 : u_T := fun k => match k with
  | 0 => ("TwinVaults$Link", "flight", "[LTwinVaults$Message;", true)
  | 1 => ("TwinVaults$Link", "count", "I", false)
  | 2 => ("TwinVaults$Link", "sent", "I", false)
  | _ => ("TwinVaults$Link", "dropped", "I", false)
def tyX0 : Nat → FieldType := fun k => match k with
  | 0 => .array (.object "TwinVaults$Message")
  | 1 => .int
  | 2 => .int
  | _ => .int
theorem nmX0 : ∀ a, a < 4 → ∀ b, b < 4 → a ≠ b → (TX0 a).2.1 ≠ (TX0 b).2.1 := by decide +kernel
theorem tyX0_ok : ∀ k, k < 4 → parseFieldDescriptor (TX0 k).2.2.1 = some (tyX0 k) := by decide +kernel
abbrev cX0_init : ByteArray := prog_2_method_1_code
def yX0_init : MethodName := ⟨RX0, "<init>", "()V"⟩
abbrev cX0_at : ByteArray := prog_2_method_2_code
def yX0_at : MethodName := ⟨RX0, "at", "(I)LTwinVaults$Message;"⟩
abbrev cX0_add : ByteArray := prog_2_method_3_code
def yX0_add : MethodName := ⟨RX0, "add", "(LTwinVaults$Message;)V"⟩
abbrev cX0_drop : ByteArray := prog_2_method_4_code
def yX0_drop : MethodName := ⟨RX0, "drop", "(I)V"⟩
def RX1 : String := "TwinVaults$Marks"
def TX1 : u_T := fun k => match k with
  | 0 => ("TwinVaults$Marks", "rounds", "[I", true)
  | _ => ("TwinVaults$Marks", "round", "I", false)
def tyX1 : Nat → FieldType := fun k => match k with
  | 0 => .array .int
  | _ => .int
theorem nmX1 : ∀ a, a < 2 → ∀ b, b < 2 → a ≠ b → (TX1 a).2.1 ≠ (TX1 b).2.1 := by decide +kernel
theorem tyX1_ok : ∀ k, k < 2 → parseFieldDescriptor (TX1 k).2.2.1 = some (tyX1 k) := by decide +kernel
abbrev cX1_init : ByteArray := prog_3_method_1_code
def yX1_init : MethodName := ⟨RX1, "<init>", "(I)V"⟩
abbrev cX1_begin : ByteArray := prog_3_method_2_code
def yX1_begin : MethodName := ⟨RX1, "begin", "()V"⟩
abbrev cX1_mark : ByteArray := prog_3_method_3_code
def yX1_mark : MethodName := ⟨RX1, "mark", "(I)I"⟩
def RX2 : String := "TwinVaults$Message"
def TX2 : u_T := fun k => match k with
  | 0 => ("TwinVaults$Message", "kind", "I", true)
  | 1 => ("TwinVaults$Message", "sender", "I", true)
  | 2 => ("TwinVaults$Message", "epoch", "I", true)
  | 3 => ("TwinVaults$Message", "a", "I", true)
  | 4 => ("TwinVaults$Message", "b", "I", true)
  | 5 => ("TwinVaults$Message", "c", "I", false)
  | 6 => ("TwinVaults$Message", "d", "I", false)
  | 7 => ("TwinVaults$Message", "line", "I", false)
  | _ => ("TwinVaults$Message", "items", "[I", false)
def tyX2 : Nat → FieldType := fun k => match k with
  | 0 => .int
  | 1 => .int
  | 2 => .int
  | 3 => .int
  | 4 => .int
  | 5 => .int
  | 6 => .int
  | 7 => .int
  | _ => .array .int
theorem nmX2 : ∀ a, a < 9 → ∀ b, b < 9 → a ≠ b → (TX2 a).2.1 ≠ (TX2 b).2.1 := by decide +kernel
theorem tyX2_ok : ∀ k, k < 9 → parseFieldDescriptor (TX2 k).2.2.1 = some (tyX2 k) := by decide +kernel
abbrev cX2_init : ByteArray := prog_4_method_1_code
def yX2_init : MethodName := ⟨RX2, "<init>", "(LTwinVaults$Store;III)V"⟩
abbrev cX2_itemCount : ByteArray := prog_4_method_2_code
def yX2_itemCount : MethodName := ⟨RX2, "itemCount", "()I"⟩
def RX3 : String := "TwinVaults$Row"
def TX3 : u_T := fun k => match k with
  | 0 => ("TwinVaults$Row", "line", "I", false)
  | 1 => ("TwinVaults$Row", "from", "I", false)
  | 2 => ("TwinVaults$Row", "list", "[I", false)
  | _ => ("TwinVaults$Row", "count", "I", false)
def tyX3 : Nat → FieldType := fun k => match k with
  | 0 => .int
  | 1 => .int
  | 2 => .array .int
  | _ => .int
theorem nmX3 : ∀ a, a < 4 → ∀ b, b < 4 → a ≠ b → (TX3 a).2.1 ≠ (TX3 b).2.1 := by decide +kernel
theorem tyX3_ok : ∀ k, k < 4 → parseFieldDescriptor (TX3 k).2.2.1 = some (tyX3 k) := by decide +kernel
abbrev cX3_init : ByteArray := prog_5_method_1_code
def yX3_init : MethodName := ⟨RX3, "<init>", "()V"⟩
abbrev cX3_begin : ByteArray := prog_5_method_2_code
def yX3_begin : MethodName := ⟨RX3, "begin", "(III)V"⟩
abbrev cX3_add : ByteArray := prog_5_method_3_code
def yX3_add : MethodName := ⟨RX3, "add", "(I)V"⟩
abbrev cX3_sort : ByteArray := prog_5_method_4_code
def yX3_sort : MethodName := ⟨RX3, "sort", "([I)V"⟩
abbrev cX3_sink : ByteArray := prog_5_method_5_code
def yX3_sink : MethodName := ⟨RX3, "sink", "([III)V"⟩
def RX4 : String := "TwinVaults$Site"
def TX4 : u_T := fun k => match k with
  | 0 => ("TwinVaults$Site", "number", "I", true)
  | 1 => ("TwinVaults$Site", "up", "Z", false)
  | 2 => ("TwinVaults$Site", "acts", "I", false)
  | _ => ("TwinVaults$Site", "left", "I", false)
def tyX4 : Nat → FieldType := fun k => match k with
  | 0 => .int
  | 1 => .boolean
  | 2 => .int
  | _ => .int
theorem nmX4 : ∀ a, a < 4 → ∀ b, b < 4 → a ≠ b → (TX4 a).2.1 ≠ (TX4 b).2.1 := by decide +kernel
theorem tyX4_ok : ∀ k, k < 4 → parseFieldDescriptor (TX4 k).2.2.1 = some (tyX4 k) := by decide +kernel
abbrev cX4_init : ByteArray := prog_6_method_1_code
def yX4_init : MethodName := ⟨RX4, "<init>", "(I)V"⟩
abbrev cX4_act : ByteArray := prog_6_method_2_code
def yX4_act : MethodName := ⟨RX4, "act", "()Z"⟩
abbrev cX4_act_ : ByteArray := prog_6_method_3_code
def yX4_act_ : MethodName := ⟨RX4, "act", "(I)Z"⟩
abbrev cX4_fail : ByteArray := prog_6_method_4_code
def yX4_fail : MethodName := ⟨RX4, "fail", "()V"⟩
def RX5 : String := "TwinVaults$Staging"
def TX5 : u_T := fun k => match k with
  | 0 => ("TwinVaults$Staging", "base", "I", false)
  | 1 => ("TwinVaults$Staging", "id", "I", false)
  | 2 => ("TwinVaults$Staging", "line", "I", false)
  | 3 => ("TwinVaults$Staging", "wanted", "I", false)
  | 4 => ("TwinVaults$Staging", "chunks", "I", false)
  | 5 => ("TwinVaults$Staging", "items", "I", false)
  | _ => ("TwinVaults$Staging", "refused", "I", false)
def tyX5 : Nat → FieldType := fun k => match k with
  | 0 => .int
  | 1 => .int
  | 2 => .int
  | 3 => .int
  | 4 => .int
  | 5 => .int
  | _ => .int
theorem nmX5 : ∀ a, a < 7 → ∀ b, b < 7 → a ≠ b → (TX5 a).2.1 ≠ (TX5 b).2.1 := by decide +kernel
theorem tyX5_ok : ∀ k, k < 7 → parseFieldDescriptor (TX5 k).2.2.1 = some (tyX5 k) := by decide +kernel
abbrev cX5_init : ByteArray := prog_7_method_1_code
def yX5_init : MethodName := ⟨RX5, "<init>", "()V"⟩
abbrev cX5_isOf : ByteArray := prog_7_method_2_code
def yX5_isOf : MethodName := ⟨RX5, "isOf", "(II)Z"⟩
abbrev cX5_hasAll : ByteArray := prog_7_method_3_code
def yX5_hasAll : MethodName := ⟨RX5, "hasAll", "()Z"⟩
abbrev cX5_begin : ByteArray := prog_7_method_4_code
def yX5_begin : MethodName := ⟨RX5, "begin", "(LTwinVaults$Message;)V"⟩
abbrev cX5_add : ByteArray := prog_7_method_5_code
def yX5_add : MethodName := ⟨RX5, "add", "(I)V"⟩
abbrev cX5_clear : ByteArray := prog_7_method_6_code
def yX5_clear : MethodName := ⟨RX5, "clear", "()V"⟩
def RX6 : String := "TwinVaults$Store"
def TX6 : u_T := fun k => match k with
  | 0 => ("TwinVaults$Store", "number", "I", true)
  | 1 => ("TwinVaults$Store", "site", "LTwinVaults$Site;", true)
  | 2 => ("TwinVaults$Store", "vault", "LTwinVaults$Vault;", true)
  | 3 => ("TwinVaults$Store", "staging", "LTwinVaults$Staging;", true)
  | 4 => ("TwinVaults$Store", "plan", "LTwinVaults$Row;", true)
  | 5 => ("TwinVaults$Store", "gone", "LTwinVaults$Row;", true)
  | 6 => ("TwinVaults$Store", "role", "I", false)
  | 7 => ("TwinVaults$Store", "epoch", "I", false)
  | 8 => ("TwinVaults$Store", "taken", "I", false)
  | 9 => ("TwinVaults$Store", "acked", "I", false)
  | 10 => ("TwinVaults$Store", "target", "I", false)
  | 11 => ("TwinVaults$Store", "held", "I", false)
  | 12 => ("TwinVaults$Store", "heldToo", "I", false)
  | 13 => ("TwinVaults$Store", "gift", "I", false)
  | 14 => ("TwinVaults$Store", "base", "I", false)
  | 15 => ("TwinVaults$Store", "phase", "I", false)
  | 16 => ("TwinVaults$Store", "chunks", "I", false)
  | 17 => ("TwinVaults$Store", "next", "I", false)
  | 18 => ("TwinVaults$Store", "waited", "I", false)
  | _ => ("TwinVaults$Store", "returning", "Z", false)
def tyX6 : Nat → FieldType := fun k => match k with
  | 0 => .int
  | 1 => .object "TwinVaults$Site"
  | 2 => .object "TwinVaults$Vault"
  | 3 => .object "TwinVaults$Staging"
  | 4 => .object "TwinVaults$Row"
  | 5 => .object "TwinVaults$Row"
  | 6 => .int
  | 7 => .int
  | 8 => .int
  | 9 => .int
  | 10 => .int
  | 11 => .int
  | 12 => .int
  | 13 => .int
  | 14 => .int
  | 15 => .int
  | 16 => .int
  | 17 => .int
  | 18 => .int
  | _ => .boolean
theorem nmX6 : ∀ a, a < 20 → ∀ b, b < 20 → a ≠ b → (TX6 a).2.1 ≠ (TX6 b).2.1 := by decide +kernel
theorem tyX6_ok : ∀ k, k < 20 → parseFieldDescriptor (TX6 k).2.2.1 = some (tyX6 k) := by decide +kernel
abbrev cX6_init : ByteArray := prog_8_method_1_code
def yX6_init : MethodName := ⟨RX6, "<init>", "(ILTwinVaults$Site;ILTwinVaults$Vault;)V"⟩
abbrev cX6_blocks : ByteArray := prog_8_method_2_code
def yX6_blocks : MethodName := ⟨RX6, "blocks", "()I"⟩
abbrev cX6_isSource : ByteArray := prog_8_method_3_code
def yX6_isSource : MethodName := ⟨RX6, "isSource", "()Z"⟩
abbrev cX6_sends : ByteArray := prog_8_method_4_code
def yX6_sends : MethodName := ⟨RX6, "sends", "(LTwinVaults$Message;I)Z"⟩
abbrev cX6_waitedEnough : ByteArray := prog_8_method_5_code
def yX6_waitedEnough : MethodName := ⟨RX6, "waitedEnough", "()Z"⟩
abbrev cX6_hold : ByteArray := prog_8_method_6_code
def yX6_hold : MethodName := ⟨RX6, "hold", "(II)V"⟩
abbrev cX6_forgetOther : ByteArray := prog_8_method_7_code
def yX6_forgetOther : MethodName := ⟨RX6, "forgetOther", "()V"⟩
abbrev cX6_isPinned : ByteArray := prog_8_method_8_code
def yX6_isPinned : MethodName := ⟨RX6, "isPinned", "(I)Z"⟩
abbrev cX6_thin : ByteArray := prog_8_method_9_code
def yX6_thin : MethodName := ⟨RX6, "thin", "(I)V"⟩
abbrev cX6_beginEpoch : ByteArray := prog_8_method_10_code
def yX6_beginEpoch : MethodName := ⟨RX6, "beginEpoch", "(II)V"⟩
abbrev cX6_learnEpoch : ByteArray := prog_8_method_11_code
def yX6_learnEpoch : MethodName := ⟨RX6, "learnEpoch", "(I)V"⟩
abbrev cX6_wake : ByteArray := prog_8_method_12_code
def yX6_wake : MethodName := ⟨RX6, "wake", "()I"⟩
def RX7 : String := "TwinVaults$Vault"
def TX7 : u_T := fun k => match k with
  | 0 => ("TwinVaults$Vault", "writes", "LTwinVaults$Writes;", true)
  | 1 => ("TwinVaults$Vault", "volumes", "I", true)
  | 2 => ("TwinVaults$Vault", "places", "I", true)
  | 3 => ("TwinVaults$Vault", "newest", "[I", true)
  | 4 => ("TwinVaults$Vault", "now", "I", false)
  | 5 => ("TwinVaults$Vault", "safe", "I", false)
  | 6 => ("TwinVaults$Vault", "kept", "I", false)
  | 7 => ("TwinVaults$Vault", "ids", "[I", true)
  | 8 => ("TwinVaults$Vault", "lines", "[I", true)
  | 9 => ("TwinVaults$Vault", "count", "I", false)
  | _ => ("TwinVaults$Vault", "blocks", "I", false)
def tyX7 : Nat → FieldType := fun k => match k with
  | 0 => .object "TwinVaults$Writes"
  | 1 => .int
  | 2 => .int
  | 3 => .array .int
  | 4 => .int
  | 5 => .int
  | 6 => .int
  | 7 => .array .int
  | 8 => .array .int
  | 9 => .int
  | _ => .int
theorem nmX7 : ∀ a, a < 11 → ∀ b, b < 11 → a ≠ b → (TX7 a).2.1 ≠ (TX7 b).2.1 := by decide +kernel
theorem tyX7_ok : ∀ k, k < 11 → parseFieldDescriptor (TX7 k).2.2.1 = some (tyX7 k) := by decide +kernel
abbrev cX7_init : ByteArray := prog_9_method_1_code
def yX7_init : MethodName := ⟨RX7, "<init>", "(LTwinVaults$Writes;II)V"⟩
abbrev cX7_hasPlace : ByteArray := prog_9_method_2_code
def yX7_hasPlace : MethodName := ⟨RX7, "hasPlace", "(II)Z"⟩
abbrev cX7_hasSnapshot : ByteArray := prog_9_method_3_code
def yX7_hasSnapshot : MethodName := ⟨RX7, "hasSnapshot", "(I)Z"⟩
abbrev cX7_pending : ByteArray := prog_9_method_4_code
def yX7_pending : MethodName := ⟨RX7, "pending", "()I"⟩
abbrev cX7_journal : ByteArray := prog_9_method_5_code
def yX7_journal : MethodName := ⟨RX7, "journal", "()I"⟩
abbrev cX7_latest : ByteArray := prog_9_method_6_code
def yX7_latest : MethodName := ⟨RX7, "latest", "()I"⟩
abbrev cX7_latestLine : ByteArray := prog_9_method_7_code
def yX7_latestLine : MethodName := ⟨RX7, "latestLine", "()I"⟩
abbrev cX7_latestLength : ByteArray := prog_9_method_8_code
def yX7_latestLength : MethodName := ⟨RX7, "latestLength", "()I"⟩
abbrev cX7_nowIsLatest : ByteArray := prog_9_method_9_code
def yX7_nowIsLatest : MethodName := ⟨RX7, "nowIsLatest", "()Z"⟩
abbrev cX7_lengthOf : ByteArray := prog_9_method_10_code
def yX7_lengthOf : MethodName := ⟨RX7, "lengthOf", "(I)I"⟩
abbrev cX7_find : ByteArray := prog_9_method_11_code
def yX7_find : MethodName := ⟨RX7, "find", "(I)I"⟩
abbrev cX7_lineOf : ByteArray := prog_9_method_12_code
def yX7_lineOf : MethodName := ⟨RX7, "lineOf", "(I)I"⟩
abbrev cX7_lengthOfId : ByteArray := prog_9_method_13_code
def yX7_lengthOfId : MethodName := ⟨RX7, "lengthOfId", "(I)I"⟩
abbrev cX7_numberAt : ByteArray := prog_9_method_14_code
def yX7_numberAt : MethodName := ⟨RX7, "numberAt", "(I)I"⟩
abbrev cX7_oldNumberAt : ByteArray := prog_9_method_15_code
def yX7_oldNumberAt : MethodName := ⟨RX7, "oldNumberAt", "(II)I"⟩
abbrev cX7_put : ByteArray := prog_9_method_16_code
def yX7_put : MethodName := ⟨RX7, "put", "(II)V"⟩
abbrev cX7_save : ByteArray := prog_9_method_17_code
def yX7_save : MethodName := ⟨RX7, "save", "(I)V"⟩
abbrev cX7_keepNow : ByteArray := prog_9_method_18_code
def yX7_keepNow : MethodName := ⟨RX7, "keepNow", "()V"⟩
abbrev cX7_shelve : ByteArray := prog_9_method_19_code
def yX7_shelve : MethodName := ⟨RX7, "shelve", "(I)V"⟩
abbrev cX7_drop : ByteArray := prog_9_method_20_code
def yX7_drop : MethodName := ⟨RX7, "drop", "(I)V"⟩
abbrev cX7_losePending : ByteArray := prog_9_method_21_code
def yX7_losePending : MethodName := ⟨RX7, "losePending", "()I"⟩
abbrev cX7_adopt : ByteArray := prog_9_method_22_code
def yX7_adopt : MethodName := ⟨RX7, "adopt", "(IIZ)V"⟩
abbrev cX7_returnTo : ByteArray := prog_9_method_23_code
def yX7_returnTo : MethodName := ⟨RX7, "returnTo", "(I)V"⟩
abbrev cX7_rewind : ByteArray := prog_9_method_24_code
def yX7_rewind : MethodName := ⟨RX7, "rewind", "(I)V"⟩
abbrev cX7_advance : ByteArray := prog_9_method_25_code
def yX7_advance : MethodName := ⟨RX7, "advance", "(I)V"⟩
def RX8 : String := "TwinVaults$Writes"
def TX8 : u_T := fun k => match k with
  | 0 => ("TwinVaults$Writes", "made", "I", false)
  | 1 => ("TwinVaults$Writes", "spot", "[I", false)
  | 2 => ("TwinVaults$Writes", "number", "[I", false)
  | 3 => ("TwinVaults$Writes", "before", "[I", false)
  | 4 => ("TwinVaults$Writes", "earlier", "[I", false)
  | 5 => ("TwinVaults$Writes", "length", "[I", false)
  | _ => ("TwinVaults$Writes", "seen", "LTwinVaults$Marks;", true)
def tyX8 : Nat → FieldType := fun k => match k with
  | 0 => .int
  | 1 => .array .int
  | 2 => .array .int
  | 3 => .array .int
  | 4 => .array .int
  | 5 => .array .int
  | _ => .object "TwinVaults$Marks"
theorem nmX8 : ∀ a, a < 7 → ∀ b, b < 7 → a ≠ b → (TX8 a).2.1 ≠ (TX8 b).2.1 := by decide +kernel
theorem tyX8_ok : ∀ k, k < 7 → parseFieldDescriptor (TX8 k).2.2.1 = some (tyX8 k) := by decide +kernel
abbrev cX8_init : ByteArray := prog_10_method_1_code
def yX8_init : MethodName := ⟨RX8, "<init>", "()V"⟩
abbrev cX8_extend : ByteArray := prog_10_method_2_code
def yX8_extend : MethodName := ⟨RX8, "extend", "(IIII)I"⟩
abbrev cX8_grow : ByteArray := prog_10_method_3_code
def yX8_grow : MethodName := ⟨RX8, "grow", "(I)V"⟩
abbrev cX8_told : ByteArray := prog_10_method_4_code
def yX8_told : MethodName := ⟨RX8, "told", "(II)I"⟩
abbrev cX8_placesBehind : ByteArray := prog_10_method_5_code
def yX8_placesBehind : MethodName := ⟨RX8, "placesBehind", "(II)I"⟩
abbrev cX8_placesInBoth : ByteArray := prog_10_method_6_code
def yX8_placesInBoth : MethodName := ⟨RX8, "placesInBoth", "(III)I"⟩
abbrev cX8_nodesBehind : ByteArray := prog_10_method_7_code
def yX8_nodesBehind : MethodName := ⟨RX8, "nodesBehind", "(II)I"⟩
abbrev cX8_collect : ByteArray := prog_10_method_8_code
def yX8_collect : MethodName := ⟨RX8, "collect", "(LTwinVaults$Row;II)V"⟩
def RX9 : String := "TwinVaults"
def TX9 : u_T := fun k => match k with
  | 0 => ("TwinVaults", "pool", "I", true)
  | 1 => ("TwinVaults", "keep", "I", true)
  | 2 => ("TwinVaults", "window", "I", true)
  | 3 => ("TwinVaults", "sites", "[LTwinVaults$Site;", true)
  | 4 => ("TwinVaults", "stores", "[LTwinVaults$Store;", true)
  | 5 => ("TwinVaults", "writes", "LTwinVaults$Writes;", true)
  | 6 => ("TwinVaults", "link", "LTwinVaults$Link;", true)
  | 7 => ("TwinVaults", "groups", "I", false)
  | 8 => ("TwinVaults", "time", "I", false)
  | _ => ("TwinVaults", "every", "I", false)
def tyX9 : Nat → FieldType := fun k => match k with
  | 0 => .int
  | 1 => .int
  | 2 => .int
  | 3 => .array (.object "TwinVaults$Site")
  | 4 => .array (.object "TwinVaults$Store")
  | 5 => .object "TwinVaults$Writes"
  | 6 => .object "TwinVaults$Link"
  | 7 => .int
  | 8 => .int
  | _ => .int
theorem nmX9 : ∀ a, a < 10 → ∀ b, b < 10 → a ≠ b → (TX9 a).2.1 ≠ (TX9 b).2.1 := by decide +kernel
theorem tyX9_ok : ∀ k, k < 10 → parseFieldDescriptor (TX9 k).2.2.1 = some (tyX9 k) := by decide +kernel
abbrev cX9_init : ByteArray := prog_1_method_1_code
def yX9_init : MethodName := ⟨RX9, "<init>", "(III)V"⟩
abbrev cX9_group : ByteArray := prog_1_method_2_code
def yX9_group : MethodName := ⟨RX9, "group", "(II)I"⟩
abbrev cX9_write : ByteArray := prog_1_method_3_code
def yX9_write : MethodName := ⟨RX9, "write", "(IIII)I"⟩
abbrev cX9_fill : ByteArray := prog_1_method_4_code
def yX9_fill : MethodName := ⟨RX9, "fill", "(IIIII)I"⟩
abbrev cX9_flush : ByteArray := prog_1_method_5_code
def yX9_flush : MethodName := ⟨RX9, "flush", "(I)I"⟩
abbrev cX9_checkpoint : ByteArray := prog_1_method_6_code
def yX9_checkpoint : MethodName := ⟨RX9, "checkpoint", "(I)I"⟩
abbrev cX9_snapshot : ByteArray := prog_1_method_7_code
def yX9_snapshot : MethodName := ⟨RX9, "snapshot", "(I)I"⟩
abbrev cX9_leave : ByteArray := prog_1_method_8_code
def yX9_leave : MethodName := ⟨RX9, "leave", "(I)I"⟩
abbrev cX9_stay : ByteArray := prog_1_method_9_code
def yX9_stay : MethodName := ⟨RX9, "stay", "(I)I"⟩
abbrev cX9_force : ByteArray := prog_1_method_10_code
def yX9_force : MethodName := ⟨RX9, "force", "(I)I"⟩
abbrev cX9_back : ByteArray := prog_1_method_11_code
def yX9_back : MethodName := ⟨RX9, "back", "(I)I"⟩
abbrev cX9_period : ByteArray := prog_1_method_12_code
def yX9_period : MethodName := ⟨RX9, "period", "(I)Z"⟩
abbrev cX9_tick : ByteArray := prog_1_method_13_code
def yX9_tick : MethodName := ⟨RX9, "tick", "()I"⟩
abbrev cX9_power : ByteArray := prog_1_method_14_code
def yX9_power : MethodName := ⟨RX9, "power", "(II)Z"⟩
abbrev cX9_crash : ByteArray := prog_1_method_15_code
def yX9_crash : MethodName := ⟨RX9, "crash", "(I)Z"⟩
abbrev cX9_up : ByteArray := prog_1_method_16_code
def yX9_up : MethodName := ⟨RX9, "up", "(I)I"⟩
abbrev cX9_pass : ByteArray := prog_1_method_17_code
def yX9_pass : MethodName := ⟨RX9, "pass", "(II)I"⟩
abbrev cX9_message : ByteArray := prog_1_method_18_code
def yX9_message : MethodName := ⟨RX9, "message", "(II)I"⟩
abbrev cX9_item : ByteArray := prog_1_method_19_code
def yX9_item : MethodName := ⟨RX9, "item", "(III)I"⟩
abbrev cX9_read : ByteArray := prog_1_method_20_code
def yX9_read : MethodName := ⟨RX9, "read", "(III)I"⟩
abbrev cX9_old : ByteArray := prog_1_method_21_code
def yX9_old : MethodName := ⟨RX9, "old", "(IIII)I"⟩
abbrev cX9_sum : ByteArray := prog_1_method_22_code
def yX9_sum : MethodName := ⟨RX9, "sum", "(II)I"⟩
abbrev cX9_differ : ByteArray := prog_1_method_23_code
def yX9_differ : MethodName := ⟨RX9, "differ", "(III)I"⟩
abbrev cX9_state : ByteArray := prog_1_method_24_code
def yX9_state : MethodName := ⟨RX9, "state", "(II)I"⟩
abbrev cX9_snap : ByteArray := prog_1_method_25_code
def yX9_snap : MethodName := ⟨RX9, "snap", "(III)I"⟩
abbrev cX9_lost : ByteArray := prog_1_method_26_code
def yX9_lost : MethodName := ⟨RX9, "lost", "(III)I"⟩
abbrev cX9_total : ByteArray := prog_1_method_27_code
def yX9_total : MethodName := ⟨RX9, "total", "(I)I"⟩
abbrev cX9_totalOf : ByteArray := prog_1_method_28_code
def yX9_totalOf : MethodName := ⟨RX9, "totalOf", "(LTwinVaults$Site;I)I"⟩
abbrev cX9_storeOf : ByteArray := prog_1_method_29_code
def yX9_storeOf : MethodName := ⟨RX9, "storeOf", "(I)LTwinVaults$Store;"⟩
abbrev cX9_spotOf : ByteArray := prog_1_method_30_code
def yX9_spotOf : MethodName := ⟨RX9, "spotOf", "(II)I"⟩
abbrev cX9_refusalOf : ByteArray := prog_1_method_31_code
def yX9_refusalOf : MethodName := ⟨RX9, "refusalOf", "(LTwinVaults$Store;I)I"⟩
abbrev cX9_freeBlocks : ByteArray := prog_1_method_32_code
def yX9_freeBlocks : MethodName := ⟨RX9, "freeBlocks", "(LTwinVaults$Site;)I"⟩
abbrev cX9_nextEpoch : ByteArray := prog_1_method_33_code
def yX9_nextEpoch : MethodName := ⟨RX9, "nextEpoch", "(II)I"⟩
abbrev cX9_writeOne : ByteArray := prog_1_method_34_code
def yX9_writeOne : MethodName := ⟨RX9, "writeOne", "(LTwinVaults$Store;II)I"⟩
abbrev cX9_flushed : ByteArray := prog_1_method_35_code
def yX9_flushed : MethodName := ⟨RX9, "flushed", "(LTwinVaults$Store;)Z"⟩
abbrev cX9_checkpointed : ByteArray := prog_1_method_36_code
def yX9_checkpointed : MethodName := ⟨RX9, "checkpointed", "(LTwinVaults$Store;)Z"⟩
abbrev cX9_tookSnapshot : ByteArray := prog_1_method_37_code
def yX9_tookSnapshot : MethodName := ⟨RX9, "tookSnapshot", "(LTwinVaults$Store;)Z"⟩
abbrev cX9_tickOf : ByteArray := prog_1_method_38_code
def yX9_tickOf : MethodName := ⟨RX9, "tickOf", "(LTwinVaults$Store;)V"⟩
abbrev cX9_sendForward : ByteArray := prog_1_method_39_code
def yX9_sendForward : MethodName := ⟨RX9, "sendForward", "(LTwinVaults$Store;)V"⟩
abbrev cX9_handOver : ByteArray := prog_1_method_40_code
def yX9_handOver : MethodName := ⟨RX9, "handOver", "(LTwinVaults$Store;)V"⟩
abbrev cX9_send : ByteArray := prog_1_method_41_code
def yX9_send : MethodName := ⟨RX9, "send", "(LTwinVaults$Store;II)V"⟩
abbrev cX9_sendOffer : ByteArray := prog_1_method_42_code
def yX9_sendOffer : MethodName := ⟨RX9, "sendOffer", "(LTwinVaults$Store;)V"⟩
abbrev cX9_sendGive : ByteArray := prog_1_method_43_code
def yX9_sendGive : MethodName := ⟨RX9, "sendGive", "(LTwinVaults$Store;)V"⟩
abbrev cX9_sendHello : ByteArray := prog_1_method_44_code
def yX9_sendHello : MethodName := ⟨RX9, "sendHello", "(LTwinVaults$Store;)V"⟩
abbrev cX9_sendProgress : ByteArray := prog_1_method_45_code
def yX9_sendProgress : MethodName := ⟨RX9, "sendProgress", "(LTwinVaults$Store;I)V"⟩
abbrev cX9_sendData : ByteArray := prog_1_method_46_code
def yX9_sendData : MethodName := ⟨RX9, "sendData", "(LTwinVaults$Store;I)V"⟩
abbrev cX9_sendOn : ByteArray := prog_1_method_47_code
def yX9_sendOn : MethodName := ⟨RX9, "sendOn", "(LTwinVaults$Store;)V"⟩
abbrev cX9_receive : ByteArray := prog_1_method_48_code
def yX9_receive : MethodName := ⟨RX9, "receive", "(LTwinVaults$Message;)V"⟩
abbrev cX9_onOffer : ByteArray := prog_1_method_49_code
def yX9_onOffer : MethodName := ⟨RX9, "onOffer", "(LTwinVaults$Store;LTwinVaults$Message;)V"⟩
abbrev cX9_onData : ByteArray := prog_1_method_50_code
def yX9_onData : MethodName := ⟨RX9, "onData", "(LTwinVaults$Store;LTwinVaults$Message;)V"⟩
abbrev cX9_commit : ByteArray := prog_1_method_51_code
def yX9_commit : MethodName := ⟨RX9, "commit", "(LTwinVaults$Store;)V"⟩
abbrev cX9_onGive : ByteArray := prog_1_method_52_code
def yX9_onGive : MethodName := ⟨RX9, "onGive", "(LTwinVaults$Store;LTwinVaults$Message;)V"⟩
abbrev cX9_onCommon : ByteArray := prog_1_method_53_code
def yX9_onCommon : MethodName := ⟨RX9, "onCommon", "(LTwinVaults$Store;LTwinVaults$Message;)V"⟩
abbrev cX9_onAccept : ByteArray := prog_1_method_54_code
def yX9_onAccept : MethodName := ⟨RX9, "onAccept", "(LTwinVaults$Store;LTwinVaults$Message;)V"⟩
abbrev cX9_onAck : ByteArray := prog_1_method_55_code
def yX9_onAck : MethodName := ⟨RX9, "onAck", "(LTwinVaults$Store;LTwinVaults$Message;)V"⟩
abbrev cX9_onHave : ByteArray := prog_1_method_56_code
def yX9_onHave : MethodName := ⟨RX9, "onHave", "(LTwinVaults$Store;LTwinVaults$Message;)V"⟩
abbrev cX9_onLack : ByteArray := prog_1_method_57_code
def yX9_onLack : MethodName := ⟨RX9, "onLack", "(LTwinVaults$Store;LTwinVaults$Message;)V"⟩
abbrev cX9_onHello : ByteArray := prog_1_method_58_code
def yX9_onHello : MethodName := ⟨RX9, "onHello", "(LTwinVaults$Store;LTwinVaults$Message;)V"⟩
def RX10 : String := "TwinVaultsModel$Message"
def TX10 : u_T := fun k => match k with
  | 0 => ("TwinVaultsModel$Message", "from", "LTwinVaultsModel$Store;", false)
  | 1 => ("TwinVaultsModel$Message", "epoch", "I", false)
  | 2 => ("TwinVaultsModel$Message", "kind", "I", false)
  | 3 => ("TwinVaultsModel$Message", "a", "I", false)
  | 4 => ("TwinVaultsModel$Message", "b", "I", false)
  | 5 => ("TwinVaultsModel$Message", "c", "I", false)
  | 6 => ("TwinVaultsModel$Message", "d", "I", false)
  | 7 => ("TwinVaultsModel$Message", "count", "I", false)
  | 8 => ("TwinVaultsModel$Message", "first", "[I", true)
  | 9 => ("TwinVaultsModel$Message", "second", "[I", true)
  | _ => ("TwinVaultsModel$Message", "third", "[I", true)
def tyX10 : Nat → FieldType := fun k => match k with
  | 0 => .object "TwinVaultsModel$Store"
  | 1 => .int
  | 2 => .int
  | 3 => .int
  | 4 => .int
  | 5 => .int
  | 6 => .int
  | 7 => .int
  | 8 => .array .int
  | 9 => .array .int
  | _ => .array .int
theorem nmX10 : ∀ a, a < 11 → ∀ b, b < 11 → a ≠ b → (TX10 a).2.1 ≠ (TX10 b).2.1 := by decide +kernel
theorem tyX10_ok : ∀ k, k < 11 → parseFieldDescriptor (TX10 k).2.2.1 = some (tyX10 k) := by decide +kernel
abbrev cX10_init : ByteArray := prog_13_method_1_code
def yX10_init : MethodName := ⟨RX10, "<init>", "()V"⟩
def RX11 : String := "TwinVaultsModel$Store"
def TX11 : u_T := fun k => match k with
  | 0 => ("TwinVaultsModel$Store", "group", "I", false)
  | 1 => ("TwinVaultsModel$Store", "site", "I", false)
  | 2 => ("TwinVaultsModel$Store", "role", "I", false)
  | 3 => ("TwinVaultsModel$Store", "epoch", "I", false)
  | 4 => ("TwinVaultsModel$Store", "now", "I", false)
  | 5 => ("TwinVaultsModel$Store", "safe", "I", false)
  | 6 => ("TwinVaultsModel$Store", "kept", "I", false)
  | 7 => ("TwinVaultsModel$Store", "count", "I", false)
  | 8 => ("TwinVaultsModel$Store", "acked", "I", false)
  | 9 => ("TwinVaultsModel$Store", "target", "I", false)
  | 10 => ("TwinVaultsModel$Store", "held0", "I", false)
  | 11 => ("TwinVaultsModel$Store", "held1", "I", false)
  | 12 => ("TwinVaultsModel$Store", "gift", "I", false)
  | 13 => ("TwinVaultsModel$Store", "taken", "I", false)
  | 14 => ("TwinVaultsModel$Store", "ids", "[I", true)
  | 15 => ("TwinVaultsModel$Store", "lines", "[I", true)
  | 16 => ("TwinVaultsModel$Store", "base", "I", false)
  | 17 => ("TwinVaultsModel$Store", "phase", "I", false)
  | 18 => ("TwinVaultsModel$Store", "chunks", "I", false)
  | 19 => ("TwinVaultsModel$Store", "next", "I", false)
  | 20 => ("TwinVaultsModel$Store", "wait", "I", false)
  | 21 => ("TwinVaultsModel$Store", "returns", "Z", false)
  | 22 => ("TwinVaultsModel$Store", "stages", "Z", false)
  | 23 => ("TwinVaultsModel$Store", "stagedBase", "I", false)
  | 24 => ("TwinVaultsModel$Store", "stagedId", "I", false)
  | 25 => ("TwinVaultsModel$Store", "stagedAll", "I", false)
  | 26 => ("TwinVaultsModel$Store", "stagedChunks", "I", false)
  | 27 => ("TwinVaultsModel$Store", "stagedItems", "I", false)
  | 28 => ("TwinVaultsModel$Store", "refused", "I", false)
  | 29 => ("TwinVaultsModel$Store", "lostWhere", "[I", false)
  | 30 => ("TwinVaultsModel$Store", "lostWhat", "[I", false)
  | 31 => ("TwinVaultsModel$Store", "last", "[I", false)
  | 32 => ("TwinVaultsModel$Store", "isKnown", "Z", false)
  | 33 => ("TwinVaultsModel$Store", "isCounted", "Z", false)
  | _ => ("TwinVaultsModel$Store", "needs", "I", false)
def tyX11 : Nat → FieldType := fun k => match k with
  | 0 => .int
  | 1 => .int
  | 2 => .int
  | 3 => .int
  | 4 => .int
  | 5 => .int
  | 6 => .int
  | 7 => .int
  | 8 => .int
  | 9 => .int
  | 10 => .int
  | 11 => .int
  | 12 => .int
  | 13 => .int
  | 14 => .array .int
  | 15 => .array .int
  | 16 => .int
  | 17 => .int
  | 18 => .int
  | 19 => .int
  | 20 => .int
  | 21 => .boolean
  | 22 => .boolean
  | 23 => .int
  | 24 => .int
  | 25 => .int
  | 26 => .int
  | 27 => .int
  | 28 => .int
  | 29 => .array .int
  | 30 => .array .int
  | 31 => .array .int
  | 32 => .boolean
  | 33 => .boolean
  | _ => .int
theorem nmX11 : ∀ a, a < 35 → ∀ b, b < 35 → a ≠ b → (TX11 a).2.1 ≠ (TX11 b).2.1 := by decide +kernel
theorem tyX11_ok : ∀ k, k < 35 → parseFieldDescriptor (TX11 k).2.2.1 = some (tyX11 k) := by decide +kernel
abbrev cX11_init : ByteArray := prog_14_method_1_code
def yX11_init : MethodName := ⟨RX11, "<init>", "()V"⟩
abbrev cX11_latest : ByteArray := prog_14_method_2_code
def yX11_latest : MethodName := ⟨RX11, "latest", "()I"⟩
abbrev cX11_latestLine : ByteArray := prog_14_method_3_code
def yX11_latestLine : MethodName := ⟨RX11, "latestLine", "()I"⟩
abbrev cX11_find : ByteArray := prog_14_method_4_code
def yX11_find : MethodName := ⟨RX11, "find", "(I)I"⟩
abbrev cX11_drop : ByteArray := prog_14_method_5_code
def yX11_drop : MethodName := ⟨RX11, "drop", "(I)V"⟩
abbrev cX11_isPinned : ByteArray := prog_14_method_6_code
def yX11_isPinned : MethodName := ⟨RX11, "isPinned", "(I)Z"⟩
abbrev cX11_thins : ByteArray := prog_14_method_7_code
def yX11_thins : MethodName := ⟨RX11, "thins", "(I)V"⟩
abbrev cX11_snaps : ByteArray := prog_14_method_8_code
def yX11_snaps : MethodName := ⟨RX11, "snaps", "(II)V"⟩
abbrev cX11_stagesNothing : ByteArray := prog_14_method_9_code
def yX11_stagesNothing : MethodName := ⟨RX11, "stagesNothing", "()V"⟩
abbrev cX11_hasAll : ByteArray := prog_14_method_10_code
def yX11_hasAll : MethodName := ⟨RX11, "hasAll", "()Z"⟩
def RX12 : String := "TwinVaultsModel"
def TX12 : u_T := fun k => match k with
  | 0 => ("TwinVaultsModel", "thrown", "I", false)
  | 1 => ("TwinVaultsModel", "pool", "I", true)
  | 2 => ("TwinVaultsModel", "keep", "I", true)
  | 3 => ("TwinVaultsModel", "window", "I", true)
  | 4 => ("TwinVaultsModel", "period", "I", false)
  | 5 => ("TwinVaultsModel", "time", "I", false)
  | 6 => ("TwinVaultsModel", "groups", "I", false)
  | 7 => ("TwinVaultsModel", "sent", "I", false)
  | 8 => ("TwinVaultsModel", "strayed", "I", false)
  | 9 => ("TwinVaultsModel", "isUp", "[Z", true)
  | 10 => ("TwinVaultsModel", "acts", "[I", true)
  | 11 => ("TwinVaultsModel", "left", "[I", true)
  | 12 => ("TwinVaultsModel", "volumes", "[I", true)
  | 13 => ("TwinVaultsModel", "places", "[I", true)
  | 14 => ("TwinVaultsModel", "writes", "I", false)
  | 15 => ("TwinVaultsModel", "before", "[I", true)
  | 16 => ("TwinVaultsModel", "where", "[I", true)
  | 17 => ("TwinVaultsModel", "what", "[I", true)
  | 18 => ("TwinVaultsModel", "length", "[I", true)
  | 19 => ("TwinVaultsModel", "mark", "[I", true)
  | 20 => ("TwinVaultsModel", "seen", "[I", true)
  | 21 => ("TwinVaultsModel", "leaf", "[I", true)
  | 22 => ("TwinVaultsModel", "branch", "[I", true)
  | 23 => ("TwinVaultsModel", "root", "[I", true)
  | 24 => ("TwinVaultsModel", "marks", "I", false)
  | 25 => ("TwinVaultsModel", "spanFrom", "I", false)
  | 26 => ("TwinVaultsModel", "spanTo", "I", false)
  | 27 => ("TwinVaultsModel", "spanGroup", "I", false)
  | 28 => ("TwinVaultsModel", "spanned", "I", false)
  | 29 => ("TwinVaultsModel", "spanWhere", "[I", true)
  | 30 => ("TwinVaultsModel", "spanWhat", "[I", true)
  | 31 => ("TwinVaultsModel", "takenIds", "[[I", true)
  | 32 => ("TwinVaultsModel", "takenLines", "[[I", true)
  | 33 => ("TwinVaultsModel", "takens", "[I", true)
  | 34 => ("TwinVaultsModel", "stores", "[LTwinVaultsModel$Store;", true)
  | 35 => ("TwinVaultsModel", "flight", "[LTwinVaultsModel$Message;", true)
  | 36 => ("TwinVaultsModel", "spare", "[LTwinVaultsModel$Message;", true)
  | 37 => ("TwinVaultsModel", "flying", "I", false)
  | _ => ("TwinVaultsModel", "spares", "I", false)
def tyX12 : Nat → FieldType := fun k => match k with
  | 0 => .int
  | 1 => .int
  | 2 => .int
  | 3 => .int
  | 4 => .int
  | 5 => .int
  | 6 => .int
  | 7 => .int
  | 8 => .int
  | 9 => .array .boolean
  | 10 => .array .int
  | 11 => .array .int
  | 12 => .array .int
  | 13 => .array .int
  | 14 => .int
  | 15 => .array .int
  | 16 => .array .int
  | 17 => .array .int
  | 18 => .array .int
  | 19 => .array .int
  | 20 => .array .int
  | 21 => .array .int
  | 22 => .array .int
  | 23 => .array .int
  | 24 => .int
  | 25 => .int
  | 26 => .int
  | 27 => .int
  | 28 => .int
  | 29 => .array .int
  | 30 => .array .int
  | 31 => .array (.array .int)
  | 32 => .array (.array .int)
  | 33 => .array .int
  | 34 => .array (.object "TwinVaultsModel$Store")
  | 35 => .array (.object "TwinVaultsModel$Message")
  | 36 => .array (.object "TwinVaultsModel$Message")
  | 37 => .int
  | _ => .int
theorem nmX12 : ∀ a, a < 39 → ∀ b, b < 39 → a ≠ b → (TX12 a).2.1 ≠ (TX12 b).2.1 := by decide +kernel
theorem tyX12_ok : ∀ k, k < 39 → parseFieldDescriptor (TX12 k).2.2.1 = some (tyX12 k) := by decide +kernel
abbrev cX12_thrown : ByteArray := prog_12_method_1_code
def yX12_thrown : MethodName := ⟨RX12, "thrown", "()I"⟩
abbrev cX12_init : ByteArray := prog_12_method_2_code
def yX12_init : MethodName := ⟨RX12, "<init>", "(III)V"⟩
abbrev cX12_cut : ByteArray := prog_12_method_3_code
def yX12_cut : MethodName := ⟨RX12, "cut", "(II)I"⟩
abbrev cX12_nodes : ByteArray := prog_12_method_4_code
def yX12_nodes : MethodName := ⟨RX12, "nodes", "(III)I"⟩
abbrev cX12_path : ByteArray := prog_12_method_5_code
def yX12_path : MethodName := ⟨RX12, "path", "(II)I"⟩
abbrev cX12_span : ByteArray := prog_12_method_6_code
def yX12_span : MethodName := ⟨RX12, "span", "(III)V"⟩
abbrev cX12_different : ByteArray := prog_12_method_7_code
def yX12_different : MethodName := ⟨RX12, "different", "(III)I"⟩
abbrev cX12_isTaken : ByteArray := prog_12_method_8_code
def yX12_isTaken : MethodName := ⟨RX12, "isTaken", "(III)V"⟩
abbrev cX12_lineOf : ByteArray := prog_12_method_9_code
def yX12_lineOf : MethodName := ⟨RX12, "lineOf", "(II)I"⟩
abbrev cX12_of : ByteArray := prog_12_method_10_code
def yX12_of : MethodName := ⟨RX12, "of", "(I)LTwinVaultsModel$Store;"⟩
abbrev cX12_other : ByteArray := prog_12_method_11_code
def yX12_other : MethodName := ⟨RX12, "other", "(LTwinVaultsModel$Store;)LTwinVaultsModel$Store;"⟩
abbrev cX12_know : ByteArray := prog_12_method_12_code
def yX12_know : MethodName := ⟨RX12, "know", "(LTwinVaultsModel$Store;)V"⟩
abbrev cX12_needs : ByteArray := prog_12_method_13_code
def yX12_needs : MethodName := ⟨RX12, "needs", "(LTwinVaultsModel$Store;)I"⟩
abbrev cX12_free : ByteArray := prog_12_method_14_code
def yX12_free : MethodName := ⟨RX12, "free", "(I)I"⟩
abbrev cX12_act : ByteArray := prog_12_method_15_code
def yX12_act : MethodName := ⟨RX12, "act", "(I)Z"⟩
abbrev cX12_acts : ByteArray := prog_12_method_16_code
def yX12_acts : MethodName := ⟨RX12, "acts", "(II)Z"⟩
abbrev cX12_goesDown : ByteArray := prog_12_method_17_code
def yX12_goesDown : MethodName := ⟨RX12, "goesDown", "(I)V"⟩
abbrev cX12_flushes : ByteArray := prog_12_method_18_code
def yX12_flushes : MethodName := ⟨RX12, "flushes", "(LTwinVaultsModel$Store;)Z"⟩
abbrev cX12_checks : ByteArray := prog_12_method_19_code
def yX12_checks : MethodName := ⟨RX12, "checks", "(LTwinVaultsModel$Store;)I"⟩
abbrev cX12_takes : ByteArray := prog_12_method_20_code
def yX12_takes : MethodName := ⟨RX12, "takes", "(LTwinVaultsModel$Store;)Z"⟩
abbrev cX12_begins : ByteArray := prog_12_method_21_code
def yX12_begins : MethodName := ⟨RX12, "begins", "(LTwinVaultsModel$Store;I)V"⟩
abbrev cX12_after : ByteArray := prog_12_method_22_code
def yX12_after : MethodName := ⟨RX12, "after", "(II)I"⟩
abbrev cX12_send : ByteArray := prog_12_method_23_code
def yX12_send : MethodName := ⟨RX12, "send", "(LTwinVaultsModel$Store;IIIII)V"⟩
abbrev cX12_piece : ByteArray := prog_12_method_24_code
def yX12_piece : MethodName := ⟨RX12, "piece", "(LTwinVaultsModel$Message;)V"⟩
abbrev cX12_spanOf : ByteArray := prog_12_method_25_code
def yX12_spanOf : MethodName := ⟨RX12, "spanOf", "(LTwinVaultsModel$Store;)V"⟩
abbrev cX12_offers : ByteArray := prog_12_method_26_code
def yX12_offers : MethodName := ⟨RX12, "offers", "(LTwinVaultsModel$Store;)V"⟩
abbrev cX12_sendsOn : ByteArray := prog_12_method_27_code
def yX12_sendsOn : MethodName := ⟨RX12, "sendsOn", "(LTwinVaultsModel$Store;)V"⟩
abbrev cX12_receive : ByteArray := prog_12_method_28_code
def yX12_receive : MethodName := ⟨RX12, "receive", "(LTwinVaultsModel$Message;)V"⟩
abbrev cX12_follows : ByteArray := prog_12_method_29_code
def yX12_follows : MethodName := ⟨RX12, "follows", "(LTwinVaultsModel$Store;I)Z"⟩
abbrev cX12_stagesJust : ByteArray := prog_12_method_30_code
def yX12_stagesJust : MethodName := ⟨RX12, "stagesJust", "(LTwinVaultsModel$Store;LTwinVaultsModel$Message;)Z"⟩
abbrev cX12_offered : ByteArray := prog_12_method_31_code
def yX12_offered : MethodName := ⟨RX12, "offered", "(LTwinVaultsModel$Store;LTwinVaultsModel$Message;)V"⟩
abbrev cX12_staged : ByteArray := prog_12_method_32_code
def yX12_staged : MethodName := ⟨RX12, "staged", "(LTwinVaultsModel$Store;I)V"⟩
abbrev cX12_data : ByteArray := prog_12_method_33_code
def yX12_data : MethodName := ⟨RX12, "data", "(LTwinVaultsModel$Store;LTwinVaultsModel$Message;)V"⟩
abbrev cX12_accepted : ByteArray := prog_12_method_34_code
def yX12_accepted : MethodName := ⟨RX12, "accepted", "(LTwinVaultsModel$Store;I)V"⟩
abbrev cX12_acknowledged : ByteArray := prog_12_method_35_code
def yX12_acknowledged : MethodName := ⟨RX12, "acknowledged", "(LTwinVaultsModel$Store;I)V"⟩
abbrev cX12_had : ByteArray := prog_12_method_36_code
def yX12_had : MethodName := ⟨RX12, "had", "(LTwinVaultsModel$Store;)V"⟩
abbrev cX12_lacked : ByteArray := prog_12_method_37_code
def yX12_lacked : MethodName := ⟨RX12, "lacked", "(LTwinVaultsModel$Store;I)V"⟩
abbrev cX12_given : ByteArray := prog_12_method_38_code
def yX12_given : MethodName := ⟨RX12, "given", "(LTwinVaultsModel$Store;LTwinVaultsModel$Message;)V"⟩
abbrev cX12_greeted : ByteArray := prog_12_method_39_code
def yX12_greeted : MethodName := ⟨RX12, "greeted", "(LTwinVaultsModel$Store;LTwinVaultsModel$Message;)V"⟩
abbrev cX12_goesBack : ByteArray := prog_12_method_40_code
def yX12_goesBack : MethodName := ⟨RX12, "goesBack", "(LTwinVaultsModel$Store;I)V"⟩
abbrev cX12_group : ByteArray := prog_12_method_41_code
def yX12_group : MethodName := ⟨RX12, "group", "(II)I"⟩
abbrev cX12_isPlace : ByteArray := prog_12_method_42_code
def yX12_isPlace : MethodName := ⟨RX12, "isPlace", "(LTwinVaultsModel$Store;II)Z"⟩
abbrev cX12_write : ByteArray := prog_12_method_43_code
def yX12_write : MethodName := ⟨RX12, "write", "(IIII)I"⟩
abbrev cX12_writes : ByteArray := prog_12_method_44_code
def yX12_writes : MethodName := ⟨RX12, "writes", "(LTwinVaultsModel$Store;III)I"⟩
abbrev cX12_fill : ByteArray := prog_12_method_45_code
def yX12_fill : MethodName := ⟨RX12, "fill", "(IIIII)I"⟩
abbrev cX12_flush : ByteArray := prog_12_method_46_code
def yX12_flush : MethodName := ⟨RX12, "flush", "(I)I"⟩
abbrev cX12_checkpoint : ByteArray := prog_12_method_47_code
def yX12_checkpoint : MethodName := ⟨RX12, "checkpoint", "(I)I"⟩
abbrev cX12_against : ByteArray := prog_12_method_48_code
def yX12_against : MethodName := ⟨RX12, "against", "(LTwinVaultsModel$Store;II)I"⟩
abbrev cX12_snapshot : ByteArray := prog_12_method_49_code
def yX12_snapshot : MethodName := ⟨RX12, "snapshot", "(I)I"⟩
abbrev cX12_leave : ByteArray := prog_12_method_50_code
def yX12_leave : MethodName := ⟨RX12, "leave", "(I)I"⟩
abbrev cX12_stay : ByteArray := prog_12_method_51_code
def yX12_stay : MethodName := ⟨RX12, "stay", "(I)I"⟩
abbrev cX12_force : ByteArray := prog_12_method_52_code
def yX12_force : MethodName := ⟨RX12, "force", "(I)I"⟩
abbrev cX12_back : ByteArray := prog_12_method_53_code
def yX12_back : MethodName := ⟨RX12, "back", "(I)I"⟩
abbrev cX12_period : ByteArray := prog_12_method_54_code
def yX12_period : MethodName := ⟨RX12, "period", "(I)Z"⟩
abbrev cX12_tick : ByteArray := prog_12_method_55_code
def yX12_tick : MethodName := ⟨RX12, "tick", "()I"⟩
abbrev cX12_ticks : ByteArray := prog_12_method_56_code
def yX12_ticks : MethodName := ⟨RX12, "ticks", "(LTwinVaultsModel$Store;)V"⟩
abbrev cX12_copies : ByteArray := prog_12_method_57_code
def yX12_copies : MethodName := ⟨RX12, "copies", "(LTwinVaultsModel$Store;)V"⟩
abbrev cX12_isSite : ByteArray := prog_12_method_58_code
def yX12_isSite : MethodName := ⟨RX12, "isSite", "(I)Z"⟩
abbrev cX12_power : ByteArray := prog_12_method_59_code
def yX12_power : MethodName := ⟨RX12, "power", "(II)Z"⟩
abbrev cX12_crash : ByteArray := prog_12_method_60_code
def yX12_crash : MethodName := ⟨RX12, "crash", "(I)Z"⟩
abbrev cX12_up : ByteArray := prog_12_method_61_code
def yX12_up : MethodName := ⟨RX12, "up", "(I)I"⟩
abbrev cX12_flies : ByteArray := prog_12_method_62_code
def yX12_flies : MethodName := ⟨RX12, "flies", "(I)LTwinVaultsModel$Message;"⟩
abbrev cX12_pass : ByteArray := prog_12_method_63_code
def yX12_pass : MethodName := ⟨RX12, "pass", "(II)I"⟩
abbrev cX12_message : ByteArray := prog_12_method_64_code
def yX12_message : MethodName := ⟨RX12, "message", "(II)I"⟩
abbrev cX12_fails : ByteArray := prog_12_method_65_code
def yX12_fails : MethodName := ⟨RX12, "fails", "(I)I"⟩
abbrev cX12_item : ByteArray := prog_12_method_66_code
def yX12_item : MethodName := ⟨RX12, "item", "(III)I"⟩
abbrev cX12_read : ByteArray := prog_12_method_67_code
def yX12_read : MethodName := ⟨RX12, "read", "(III)I"⟩
abbrev cX12_old : ByteArray := prog_12_method_68_code
def yX12_old : MethodName := ⟨RX12, "old", "(IIII)I"⟩
abbrev cX12_sum : ByteArray := prog_12_method_69_code
def yX12_sum : MethodName := ⟨RX12, "sum", "(II)I"⟩
abbrev cX12_differ : ByteArray := prog_12_method_70_code
def yX12_differ : MethodName := ⟨RX12, "differ", "(III)I"⟩
abbrev cX12_state : ByteArray := prog_12_method_71_code
def yX12_state : MethodName := ⟨RX12, "state", "(II)I"⟩
abbrev cX12_snap : ByteArray := prog_12_method_72_code
def yX12_snap : MethodName := ⟨RX12, "snap", "(III)I"⟩
abbrev cX12_lost : ByteArray := prog_12_method_73_code
def yX12_lost : MethodName := ⟨RX12, "lost", "(III)I"⟩
abbrev cX12_total : ByteArray := prog_12_method_74_code
def yX12_total : MethodName := ⟨RX12, "total", "(I)I"⟩
def RJx8e188 : String := "java/lang/Cloneable"
def TJx8e188 : u_T := fun k => match k with
  | _ => ("", "", "", false)
def RJ9 : String := "java/lang/Math"
def TJ9 : u_T := fun k => match k with
  | _ => ("", "", "", false)
abbrev cJ9_floorMod_7cf53 : ByteArray := prog_19_method_50_code
def yJ9_floorMod_7cf53 : MethodName := ⟨RJ9, "floorMod", "(II)I"⟩
abbrev cJ9_max_7cf53 : ByteArray := prog_19_method_65_code
def yJ9_max_7cf53 : MethodName := ⟨RJ9, "max", "(II)I"⟩
abbrev cJ9_min_7cf53 : ByteArray := prog_19_method_69_code
def yJ9_min_7cf53 : MethodName := ⟨RJ9, "min", "(II)I"⟩
def RJ0 : String := "java/lang/String"
def TJ0 : u_T := fun k => match k with
  | _ => ("", "", "", false)
def RJ10 : String := "java/lang/System"
def TJ10 : u_T := fun k => match k with
  | _ => ("", "", "", false)
def RJ7 : String := "java/util/Arrays"
def TJ7 : u_T := fun k => match k with
  | _ => ("", "", "", false)
abbrev cJ7_copyOf_59c91 : ByteArray := prog_24_method_123_code
def yJ7_copyOf_59c91 : MethodName := ⟨RJ7, "copyOf", "([II)[I"⟩
def RL : String := "TwinVaultsLaw"
abbrev cL_cell : ByteArray := method_2_code
def yL_cell : MethodName := ⟨RL, "cell", "([II)I"⟩
abbrev cL_item : ByteArray := method_3_code
def yL_item : MethodName := ⟨RL, "item", "(LTwinVaults;III[J)I"⟩
abbrev cL_read : ByteArray := method_4_code
def yL_read : MethodName := ⟨RL, "read", "(LTwinVaults;III[J)I"⟩
abbrev cL_old : ByteArray := method_5_code
def yL_old : MethodName := ⟨RL, "old", "(LTwinVaults;IIII[J)I"⟩
abbrev cL_sum : ByteArray := method_6_code
def yL_sum : MethodName := ⟨RL, "sum", "(LTwinVaults;II[J)I"⟩
abbrev cL_differ : ByteArray := method_7_code
def yL_differ : MethodName := ⟨RL, "differ", "(LTwinVaults;III[J)I"⟩
abbrev cL_lost : ByteArray := method_8_code
def yL_lost : MethodName := ⟨RL, "lost", "(LTwinVaults;III[J)I"⟩
abbrev cL_law : ByteArray := code
def yL_law : MethodName := ⟨RL, "law", "([I)Z"⟩
abbrev vwCl : List vw_C := [(RX0, TX0, 4), (RX1, TX1, 2), (RX2, TX2, 9), (RX3, TX3, 4), (RX4, TX4, 4), (RX5, TX5, 7), (RX6, TX6, 20), (RX7, TX7, 11), (RX8, TX8, 7), (RX9, TX9, 10), (RX10, TX10, 11), (RX11, TX11, 35), (RX12, TX12, 39)]
end
section
/-! ===== BEGIN exceptions that leave a method, and their catching by the caller (launches without stack traces) ===== -/
section VXA
/-! The laws vx_back, vx_callV, vx_callS, vx_callSW, vx_throw0, vx_throwS follow proofs of the library, with one case more: JvmDerived/Free/Laws.lean (Back.of_free), Shelf42/LK1.lean (callV, callS), Shelf/KitTraced.lean (throwNew0V, throwNewS). -/
/-- where a method has thrown q: the class by its name, the cell, what was written, the world -/
def vx_T (XC : String → State → State → Prop) (st : State) (q : Addr) (t : State) (mc ms : Nat) (free : Addr → Prop) : Prop :=
  ∃ (E : String) (ce : Cell) (L : List Loc), XC E st t ∧ t.heap[q]? = some ce ∧ ce.vm = .none ∧ st.vm.findClass E = some ce.cls ∧ st.WarmedH t.vm ∧ st.sameButNew ({ t with vm := st.vm } : State) L mc ms ∧ ∀ z ∈ L, free z.base
def vx_Q (Qc : Array Value → State → Outcome → State → Prop) (XC : String → State → State → Prop) (mc ms : Nat) (free : Addr → Prop) : Array Value → State → Outcome → State → Prop := fun a st o t =>
  (Qc a st o t ∧ ∃ L, FrameEnd st o t L mc ms ∧ ∀ q ∈ L, free q.base) ∨ ∃ q, o = .threw q ∧ vx_T XC st q t mc ms free
/-- a callee that returns or throws -/
def vx_Met (l : Launch) (y : MethodName) (ws : List Cond) (rm : Room) (Pc : Array Value → State → Prop) (Qc : Array Value → State → Outcome → State → Prop) (XC : String → State → State → Prop) (mc ms : Nat) (free : Addr → Prop) : Prop :=
  MetFree l y (headSpec ws rm) Pc (fun _ _ _ _ _ => True) (vx_Q Qc XC mc ms free)
def vx_Post (XC : String → State → State → Prop) (mc ms : Nat) (free : Addr → Prop) : Pt → Array Value → Addr → Pt → Prop := fun A a q B =>
  ∃ (g : JFrame) (mk : MethodId) (t : State) (L : List Loc) (E : String) (ce : Cell), B.U.heap = t.heap ∧ B.U.vm = t.vm ∧ XC E (A.U.calling g mk a) t ∧ t.heap[q]? = some ce ∧ ce.vm = .none ∧ A.U.vm.findClass E = some ce.cls ∧ B.locs = A.locs ++ L ∧ (∀ z ∈ L, free z.base) ∧ B.cells = A.cells + mc ∧ B.slots = A.slots + ms
def vx_Back (l : Launch) (R : Room) (p : Program) (e : Env) (below : List Frame) (s : State) (sargs : Array Value) (y : MethodName) (len W9 : Nat)
    (Pre : Pt → Array Value → Prop) (Post : Pt → Array Value → Option Value → Pt → Prop) (PostX : Pt → Array Value → Addr → Pt → Prop) : Prop :=
  ∀ (m : MethodId) (meth : Method) (c : Code) (A : Pt) (g : JFrame) (ig : Instr) (mk : MethodId) (a : Array Value),
    Stand p l e R s m sargs below meth c A.U A.locs A.cells A.slots → g.method = m → g.locals.size = c.maxLocals → decode c.code g.pc = .ok (ig, len) →
    2 * g.monitorRoom + (g.stack.map fun v => v.category).sum ≤ W9 → A.U.methodNamed? y = some mk → Pre A a →
    (∃ (v : Option Value) (B : Pt), Stand p l e R s m sargs below meth c B.U B.locs B.cells B.slots ∧ Post A a v B ∧
      Steps p.tables e below (doInvoke e (A.U.setTop g) [] mk a).1 (B.U.setTop { g with pc := g.pc + len, stack := v.toList ++ g.stack })) ∨
    (∃ (q : Addr) (B : Pt), Stand p l e R s m sargs below meth c B.U B.locs B.cells B.slots ∧ PostX A a q B ∧
      Steps p.tables e below (doInvoke e (A.U.setTop g) [] mk a).1 ((B.U.setTop g).pushFrame (.throwing q)))
section Payer
variable {l : Launch} {R : Room} {p : Program} {e : Env} {below : List Frame} {s : State} {sargs : Array Value} {y : MethodName} {len W9 : Nat}
theorem vx_back {ws : List Cond} {rm : Room} {Pc : Array Value → State → Prop} {Qc : Array Value → State → Outcome → State → Prop} {XC : String → State → State → Prop} {mc ms : Nat} {free : Addr → Prop} {bytes : ByteArray} {maxL : Nat} {ret : Option FieldType}
    (hM : vx_Met l y ws rm Pc Qc XC mc ms free) (hblind : FrameBlind Pc) (hrc : rm.cells = mc) (hrs : rm.slots = ms)
    (hframes : rm.frames + 1 ≤ R.frames) (hlocals : W9 + (maxL + 11) + rm.locals ≤ R.locals)
    (hws : ∀ w ∈ ws, ∀ a' U, s.WarmedH U.vm → w.before a' U = true) (hcode : Cond.code y bytes maxL ret ∈ ws) (hinit : ∀ a' U, s.WarmedH U.vm → (Cond.initialized y.cls).before a' U = true) :
    vx_Back l R p e below s sargs y len W9 (PreOf R mc ms Pc) (PostOf Qc mc ms free) (vx_Post XC mc ms free) := by
  intro m meth c A g ig mk a X hg hsize hdg hW hn hp
  have h1 : (headSpec ws rm).pre.before a A.U = true := atoms_intro fun w hw => hws w hw _ _ X.warmed
  have h2 : (Cond.code y bytes maxL ret).before a A.U = true := hws _ hcode _ _ X.warmed
  have h3 : (Cond.initialized y.cls).before a A.U = true := hinit _ _ X.warmed
  have h4 : A.cells + (headSpec ws rm).room.cells ≤ R.cells := by rw [show (headSpec ws rm).room.cells = mc from hrc]; exact hp.1
  have h5 : A.slots + (headSpec ws rm).room.slots ≤ R.slots := by rw [show (headSpec ws rm).room.slots = ms from hrs]; exact hp.2.1
  have hPc : Pc a (A.U.calling g mk a) := hblind _ _ _ _ hp.2.2
  obtain ⟨U, Ls, c0, s0⟩ := A
  dsimp only [Pt.U, Pt.locs, Pt.cells, Pt.slots] at h1 h2 h3 h4 h5 X hn hPc ⊢
  obtain ⟨methY, cY, hmY, hcY, -, hlY, -, -, -, -⟩ := Cond.code_spec hn h2
  obtain ⟨kY, hkY, -⟩ := className_of_methodNamed hn
  have hinitY : kY.init = .initialized := Cond.initialized_spec (findClass_of_methodNamed hn) hkY h3
  have h : At U g.method c below := by rw [hg]; exact X.here
  have hlocals9 : W9 + (maxL + 11) + (headSpec ws rm).room.locals ≤ R.locals := hlocals
  have happ : (headSpec ws rm).appliesLoose y e.platform (U.calling g mk a) = true :=
    Spec.appliesLoose_calling (g := g) h hdg hn hkY hinitY
      (X.room_calling (g := g) (R' := (headSpec ws rm).room) hsize hmY hcY hframes (by rw [hlY]; omega) h4 h5) h1
  obtain ⟨mid, hmid⟩ := h.above
  have hfr : (U.setTop g).frames = (.java g :: mid) ++ below := by rw [State.frames_setTop' g h.top, hmid]; rfl
  obtain ⟨o, s₂, hsteps, -, hend, hq⟩ := Steps.callFree hM p X.admits X.cas X.clock (acts := []) hfr happ hPc trivial
  have hq' : vx_Q Qc XC mc ms free a (U.calling g mk a) o s₂ := hq
  rw [State.frames_setTop' g h.top] at hend
  obtain ⟨g₀, hg0⟩ := Option.isSome_iff_exists.mp h.top
  obtain ⟨r, hr⟩ := State.topJava?_eq_some.mp hg0
  have hr' : (({ U with heap := s₂.heap, slotsUsed := s₂.slotsUsed } : State).setVm s₂.vm).frames = .java g₀ :: r := hr
  rcases hq' with ⟨hqc, L, hfe, hL⟩ | ⟨q, rfl, E, ce, L, hx, hce, hcv, hcl, hW₂, hsm, hL⟩
  · obtain ⟨⟨v, rfl⟩, hW₂, e2, q2, q3, q4, q5, q6⟩ := id hfe
    have e3 : s₂ = ({ (U.calling g mk a).setFrames s₂.frames with heap := s₂.heap, slotsUsed := s₂.slotsUsed } : State).setVm s₂.vm := by
      have : s₂ = ({ s₂ with vm := (U.calling g mk a).vm } : State).setVm s₂.vm := rfl
      rw [e2] at this
      exact this
    obtain ⟨c₂, i₂, len₂, hc₂, hd₂, hf₂⟩ := hend
    have hW' : U.WarmedH s₂.vm := hW₂
    have hcc : c₂ = c := by
      have h1 : s₂.code? g.method = U.code? g.method := by
        rw [State.code?_eq, State.code?_eq, hW'.alike.method?]
      exact Option.some.inj (hc₂.symm.trans (h1.trans h.code))
    subst hcc
    have hlen : len₂ = len := by rw [hdg] at hd₂; cases hd₂; rfl
    subst hlen
    have hs₂ : s₂ = (({ U with heap := s₂.heap, slotsUsed := s₂.slotsUsed } : State).setVm s₂.vm).setTop { g with pc := g.pc + len₂, stack := v.toList ++ g.stack } := by
      refine e3.trans ?_
      rw [hf₂, State.calling_eq h.top, State.setFrames_setFrames, State.setTop_of_frames _ hr', hr]
      rfl
    have hsame : U.sameButNew ({ U with heap := s₂.heap, slotsUsed := s₂.slotsUsed } : State) L mc ms := by
      refine ⟨?_, q2, q3, q4, q5, q6⟩
      obtain ⟨t, ht, -⟩ := State.frames_cons hr
      show ({ U with heap := s₂.heap, slotsUsed := s₂.slotsUsed } : State) = { U.setFrames U.frames with heap := s₂.heap, slotsUsed := s₂.slotsUsed }
      rw [State.setFrames_self ht]
    subst hg
    refine Or.inl ⟨v, ⟨(({ U with heap := s₂.heap, slotsUsed := s₂.slotsUsed } : State).setVm s₂.vm), Ls ++ L, c0 + mc, s0 + ms⟩,
      ⟨X.admits, X.cas, X.clock, X.frames, X.room, X.hears, X.method, X.code, (X.here.setHeapUsed s₂.heap s₂.slotsUsed).setVm hW'.alike, X.tail, State.WarmedH.trans X.warmed hW', X.limits, X.bytes, X.same.trans (hsame.setVm s.vm)⟩,
      ⟨g, mk, s₂, L, rfl, rfl, hqc, rfl, hL, rfl, rfl⟩, ?_⟩
    show Steps p.tables e below _ ((({ U with heap := s₂.heap, slotsUsed := s₂.slotsUsed } : State).setVm s₂.vm).setTop { g with pc := g.pc + len₂, stack := v.toList ++ g.stack })
    rw [← hs₂]
    exact hsteps
  · obtain ⟨e2, q2, q3, q4, q5, q6⟩ := id hsm
    have e3 : s₂ = ({ (U.calling g mk a).setFrames s₂.frames with heap := s₂.heap, slotsUsed := s₂.slotsUsed } : State).setVm s₂.vm := by
      have : s₂ = ({ s₂ with vm := (U.calling g mk a).vm } : State).setVm s₂.vm := rfl
      rw [e2] at this
      exact this
    have hf₂ : s₂.frames = .throwing q :: .java g :: U.frames.tail := hend
    have hW' : U.WarmedH s₂.vm := hW₂
    have hs₂ : s₂ = ((({ U with heap := s₂.heap, slotsUsed := s₂.slotsUsed } : State).setVm s₂.vm).setTop g).pushFrame (.throwing q) := by
      refine e3.trans ?_
      rw [hf₂, State.calling_eq h.top, State.setFrames_setFrames, State.pushFrame, State.frames_setTop _ hr', State.setTop_of_frames _ hr', State.setFrames_setFrames, hr]
      rfl
    have hsame : U.sameButNew ({ U with heap := s₂.heap, slotsUsed := s₂.slotsUsed } : State) L mc ms := by
      refine ⟨?_, q2, q3, q4, q5, q6⟩
      obtain ⟨t, ht, -⟩ := State.frames_cons hr
      show ({ U with heap := s₂.heap, slotsUsed := s₂.slotsUsed } : State) = { U.setFrames U.frames with heap := s₂.heap, slotsUsed := s₂.slotsUsed }
      rw [State.setFrames_self ht]
    subst hg
    refine Or.inr ⟨q, ⟨(({ U with heap := s₂.heap, slotsUsed := s₂.slotsUsed } : State).setVm s₂.vm), Ls ++ L, c0 + mc, s0 + ms⟩,
      ⟨X.admits, X.cas, X.clock, X.frames, X.room, X.hears, X.method, X.code, (X.here.setHeapUsed s₂.heap s₂.slotsUsed).setVm hW'.alike, X.tail, State.WarmedH.trans X.warmed hW', X.limits, X.bytes, X.same.trans (hsame.setVm s.vm)⟩,
      ⟨g, mk, s₂, L, E, ce, rfl, rfl, hx, hce, hcv, hcl, rfl, hL, rfl, rfl⟩, ?_⟩
    show Steps p.tables e below _ (((({ U with heap := s₂.heap, slotsUsed := s₂.slotsUsed } : State).setVm s₂.vm).setTop g).pushFrame (.throwing q))
    rw [← hs₂]
    exact hsteps
end Payer
section Calls
variable {p : Program} {l : Launch} {e : Env} {R : Room} {s : State} {m : MethodId} {args : Array Value} {below : List Frame} {meth : Method} {c : Code} {T : State} {locs : List Loc} {cells slots : Nat}
theorem vx_callV (X : Stand p l e R s m args below meth c T locs cells slots) (hexec : p.tables.exec = Jvm.exec) {own C : String} {index : Nat} {y : MethodName} {bytes : ByteArray} {maxL : Nat} {ret : Option FieldType}
    (hown : s.vm.findClass own = some m.cls) (hlink : (Cond.methodLink own index y).before args s = true) (hinst : (Cond.instanceMethod y).before args s = true) (hsel : (Cond.selects C y y).before args s = true)
    (hcode : (Cond.code y bytes maxL ret).before args s = true) (hy : y.cls ≠ "java/lang/invoke/MethodHandle" ∧ y.cls ≠ "java/lang/invoke/VarHandle")
    {W9 : Nat} {Pre : Pt → Array Value → Prop} {Post : Pt → Array Value → Option Value → Pt → Prop} {PostX : Pt → Array Value → Addr → Pt → Prop} (hK : vx_Back l R p e below s args y 3 W9 Pre Post PostX)
    {b : Addr} {cellB : Cell} (hcell : T.heap[b]? = some cellB) (hobj : cellB.vm.isStatics = false) (hcls : s.vm.findClass C = some cellB.cls)
    {g : JFrame} (hg : g.method = m) (hsize : g.locals.size = c.maxLocals) {argsL rest : List Value} (hlen : ∀ sig, parseMethodDescriptor y.desc = some sig → argsL.length = sig.parameters.length)
    (hstack : g.stack = argsL.reverse ++ .ref b :: rest) (hW : 2 * g.monitorRoom + (rest.map fun v => v.category).sum ≤ W9) (hdg : decode c.code g.pc = .ok (.invokevirtual index, 3))
    (hpre : ∀ vm₁, s.WarmedH vm₁ → Pre ⟨T.setVm vm₁, locs, cells, slots⟩ (Value.ref b :: argsL).toArray) :
    (∃ (v : Option Value) (vm₁ : Vm) (B : Pt), s.WarmedH vm₁ ∧ Stand p l e R s m args below meth c B.U B.locs B.cells B.slots ∧ Post ⟨T.setVm vm₁, locs, cells, slots⟩ (Value.ref b :: argsL).toArray v B ∧
      ∀ target, Steps p.tables e below (B.U.setTop { g with pc := g.pc + 3, stack := v.toList ++ rest }) target → Steps p.tables e below (T.setTop g) target) ∨
    (∃ (q : Addr) (vm₁ : Vm) (B : Pt), s.WarmedH vm₁ ∧ Stand p l e R s m args below meth c B.U B.locs B.cells B.slots ∧ PostX ⟨T.setVm vm₁, locs, cells, slots⟩ (Value.ref b :: argsL).toArray q B ∧
      Steps p.tables e below (T.setTop g) ((B.U.setTop { g with stack := rest }).pushFrame (.throwing q))) := by
  obtain ⟨mk, methM, hnamed, hmethM, hstM, habM⟩ := Cond.instanceMethod_spec hinst
  obtain ⟨methM', cM, hmethM', -, -, -, -, -, -, hsigM⟩ := Cond.code_spec hnamed hcode
  cases hmethM.symm.trans hmethM'
  obtain ⟨c2, r2, m2, q1, q2, q3, q4, kP, hkP, hkPi⟩ := Cond.selects_spec hsel
  cases hcls.symm.trans q1
  cases (State.methodFound?_of_named hnamed hy).symm.trans q2
  cases hnamed.symm.trans q3
  have hselP : selectMethod e.platform s.vm cellB.cls mk = .method mk := by rw [Launch.admits_selectMethod X.admits]; exact q4
  obtain ⟨vm₁, X₁, hstep₁⟩ := X.invokevirtual hexec hown hlink hnamed hmethM hstM hkP hkPi hy (a := b) (cell := cellB) hcell
    (fun z h => by rw [h] at hobj; cases hobj) hselP hmethM habM hkP hkPi (g := g) hg (argsL := argsL) (rest := rest) (hlen _ hsigM) hstack hdg
  rcases hK m meth c ⟨T.setVm vm₁, locs, cells, slots⟩ { g with stack := rest } (.invokevirtual index) mk (Value.ref b :: argsL).toArray X₁ hg hsize hdg hW (X₁.named hnamed) (hpre vm₁ X₁.warmed) with ⟨v, B, X', hpost, hsteps⟩ | ⟨q, B, X', hpost, hsteps⟩
  · exact Or.inl ⟨v, vm₁, B, X₁.warmed, X', hpost, fun target h => hstep₁ _ fun acts => by rw [doInvoke_state]; exact hsteps.trans h⟩
  · exact Or.inr ⟨q, vm₁, B, X₁.warmed, X', hpost, hstep₁ _ fun acts => by rw [doInvoke_state]; exact hsteps⟩
theorem vx_callS (X : Stand p l e R s m args below meth c T locs cells slots) (hexec : p.tables.exec = Jvm.exec) {own : String} {index : Nat} {y : MethodName} {bytes : ByteArray} {maxL : Nat} {ret : Option FieldType}
    (hown : s.vm.findClass own = some m.cls) (hlink : (Cond.methodLink own index y).before args s = true) (hstat : (Cond.static y).before args s = true) (hinit : (Cond.initialized y.cls).before args s = true)
    (hcode : (Cond.code y bytes maxL ret).before args s = true) (hy : y.cls ≠ "java/lang/invoke/MethodHandle" ∧ y.cls ≠ "java/lang/invoke/VarHandle")
    {W9 : Nat} {Pre : Pt → Array Value → Prop} {Post : Pt → Array Value → Option Value → Pt → Prop} {PostX : Pt → Array Value → Addr → Pt → Prop} (hK : vx_Back l R p e below s args y 3 W9 Pre Post PostX)
    {g : JFrame} (hg : g.method = m) (hsize : g.locals.size = c.maxLocals) {argsL rest : List Value} (hlen : ∀ sig, parseMethodDescriptor y.desc = some sig → argsL.length = sig.parameters.length)
    (hstack : g.stack = argsL.reverse ++ rest) (hW : 2 * g.monitorRoom + (rest.map fun v => v.category).sum ≤ W9) (hdg : decode c.code g.pc = .ok (.invokestatic index, 3))
    (hpre : ∀ vm₁, s.WarmedH vm₁ → Pre ⟨T.setVm vm₁, locs, cells, slots⟩ argsL.toArray) :
    (∃ (v : Option Value) (vm₁ : Vm) (B : Pt), s.WarmedH vm₁ ∧ Stand p l e R s m args below meth c B.U B.locs B.cells B.slots ∧ Post ⟨T.setVm vm₁, locs, cells, slots⟩ argsL.toArray v B ∧
      ∀ target, Steps p.tables e below (B.U.setTop { g with pc := g.pc + 3, stack := v.toList ++ rest }) target → Steps p.tables e below (T.setTop g) target) ∨
    (∃ (q : Addr) (vm₁ : Vm) (B : Pt), s.WarmedH vm₁ ∧ Stand p l e R s m args below meth c B.U B.locs B.cells B.slots ∧ PostX ⟨T.setVm vm₁, locs, cells, slots⟩ argsL.toArray q B ∧
      Steps p.tables e below (T.setTop g) ((B.U.setTop { g with stack := rest }).pushFrame (.throwing q))) := by
  obtain ⟨mk, hnamed⟩ := Cond.code_named hcode
  obtain ⟨methM, cM, hmethM, -, -, -, -, -, -, hsigM⟩ := Cond.code_spec hnamed hcode
  have hstatic : methM.isStatic = true := Cond.static_spec hnamed hmethM hstat
  obtain ⟨kP, hkP, -⟩ := className_of_methodNamed hnamed
  have hinitP : kP.init = .initialized := Cond.initialized_spec (findClass_of_methodNamed hnamed) hkP hinit
  obtain ⟨vm₁, X₁, hstep₁⟩ := X.invokestatic hexec hown hlink hnamed hmethM hstatic hkP hinitP hy (g := g) hg (argsL := argsL) (rest := rest) (hlen _ hsigM) hstack hdg
  rcases hK m meth c ⟨T.setVm vm₁, locs, cells, slots⟩ { g with stack := rest } (.invokestatic index) mk argsL.toArray X₁ hg hsize hdg hW (X₁.named hnamed) (hpre vm₁ X₁.warmed) with ⟨v, B, X', hpost, hsteps⟩ | ⟨q, B, X', hpost, hsteps⟩
  · exact Or.inl ⟨v, vm₁, B, X₁.warmed, X', hpost, fun target h => hstep₁ _ fun acts => by rw [doInvoke_state]; exact hsteps.trans h⟩
  · exact Or.inr ⟨q, vm₁, B, X₁.warmed, X', hpost, hstep₁ _ fun acts => by rw [doInvoke_state]; exact hsteps⟩
end Calls
theorem vx_cls {s : State} {T : State} {vm₁ : Vm} {E : String} {k : ClassId} (hW : s.WarmedH vm₁) (h : (T.setVm vm₁).vm.findClass E = some k) : s.vm.findClass E = some k := by
  have h1 : vm₁.findClass E = some k := h
  rw [hW.alike.findClass] at h1
  exact h1
/-- the method's frame g, with q thrown over it -/
def vx_W (p : Program) (l : Launch) (e : Env) (R : Room) (s : State) (m : MethodId) (args : Array Value) (below : List Frame) (meth : Method) (c : Code) (H : Heap) (locs : List Loc) (cells slots : Nat) (Q : State → Prop) (g : JFrame) (q : Addr) : Prop :=
  ∀ T : State, T.heap = H → Stand p l e R s m args below meth c T locs cells slots → ∃ t, Steps p.tables e below ((T.setTop g).pushFrame (.throwing q)) t ∧ Q t
def vx_Run (p : Program) (l : Launch) (e : Env) (R : Room) (s : State) (m : MethodId) (args : Array Value) (below : List Frame) (meth : Method) (c : Code) (H : Heap) (locs : List Loc) (cells slots mc ms : Nat) (g : JFrame) (rest : List Value) (Qa : State → Outcome → State → Prop) (XC : String → State → State → Prop) (free : Addr → Prop) : Prop :=
  ∀ T : State, T.heap = H → Stand p l e R s m args below meth c T locs cells slots →
    (∃ (v : Option Value) (st₀ t T' : State) (L : List Loc), st₀.heap = H ∧ Stand p l e R s m args below meth c T' (locs ++ L) (cells + mc) (slots + ms) ∧ (∀ q ∈ L, free q.base) ∧ T'.heap = t.heap ∧ T'.vm = t.vm ∧ Qa st₀ (.returned v) t ∧
      Goes p e below T g T' { g with pc := g.pc + 3, stack := v.toList ++ rest }) ∨
    (∃ (q : Addr) (st₀ t T' : State) (L : List Loc) (E : String) (ce : Cell), st₀.heap = H ∧ Stand p l e R s m args below meth c T' (locs ++ L) (cells + mc) (slots + ms) ∧ (∀ z ∈ L, free z.base) ∧ T'.heap = t.heap ∧ T'.vm = t.vm ∧ XC E st₀ t ∧ t.heap[q]? = some ce ∧ ce.vm = .none ∧ s.vm.findClass E = some ce.cls ∧
      Steps p.tables e below (T.setTop g) ((T'.setTop { g with stack := rest }).pushFrame (.throwing q)))
def vx_X {S : Type} (px : S → Prop) (B : String → S → State → Prop) (A : Nat → Prop) : String → State → State → Prop := fun E st t => ∃ u : S, px u ∧ B E u t ∧ va_F A st t
section Runs
variable {p : Program} {l : Launch} {e : Env} {R : Room} {s : State} {m : MethodId} {args : Array Value} {below : List Frame} {meth : Method} {c : Code} {H : Heap} {locs : List Loc} {cells slots : Nat}
variable {y : MethodName} {bytes cc : ByteArray} {maxL nL mc ms n index : Nat} {ret : Option FieldType} {ws : List Cond} {rm : Room} {Pc : Array Value → State → Prop} {Qc : Array Value → State → Outcome → State → Prop} {XC : String → State → State → Prop} {free : Addr → Prop} {Ts : List Cond} {own C : String} {b : Addr} {As rest : List Value} {g : JFrame}
theorem vx_callBack (cb : CallB R s args own index y bytes maxL ret ws rm mc ms n) (hM : vx_Met l y ws rm Pc Qc XC mc ms free) (hbl : FrameBlind Pc) : vx_Back l R p e below s args y 3 8 (PreOf R mc ms Pc) (PostOf Qc mc ms free) (vx_Post XC mc ms free) := by
  obtain ⟨hrc, hrs, hfr, hlo, hws, hcw, -, hini, -⟩ := cb
  exact vx_back (bytes := bytes) (maxL := maxL) (ret := ret) hM hbl hrc hrs hfr hlo hws hcw (fun a' U hW => word_at hW (Or.inl (by first | rfl | simp [Cond.onTables, Cond.keeps, Cond.steady])) hini)
theorem vx_runV (S : CallFix p m c cc nL s args Ts own) (hM : vx_Met l y ws rm Pc Qc XC mc ms free) (cw : CallW R s args own C index y bytes maxL ret ws rm mc ms n) (hp : PreV s H C b Pc As)
    (hg : g.method = m) (hn : As.length = n) (hsize : g.locals.size = nL) (hstack : g.stack = As.reverse ++ .ref b :: rest) (hW : 2 * g.monitorRoom + (rest.map fun v => v.category).sum ≤ 8) (hdg : decode cc g.pc = .ok (.invokevirtual index, 3)) (hf : cells + mc ≤ R.cells ∧ slots + ms ≤ R.slots) :
    vx_Run p l e R s m args below meth c H locs cells slots mc ms g rest (Qc (Value.ref b :: As).toArray) XC free := by
  have hK : vx_Back l R p e below s args y 3 8 (PreOf R mc ms Pc) (PostOf Qc mc ms free) (vx_Post XC mc ms free) := vx_callBack cw.1 hM hp.1
  obtain ⟨⟨-, -, -, -, -, -, hcode, -, hy, hlen, hl⟩, hin, hse⟩ := cw
  obtain ⟨hx, hb, hml, ho, -⟩ := S
  obtain ⟨-, ⟨cellB, hcB, hoB, hclB⟩, hPc⟩ := hp
  intro T hT X
  rcases vx_callV X hx (C := C) (bytes := bytes) (maxL := maxL) (ret := ret) ho hl hin hse hcode hy hK (by rw [hT]; exact hcB) hoB hclB hg (hsize.trans hml.symm) (argsL := As) (rest := rest) (fun sig h => hn.trans (hlen sig h)) hstack hW (by rw [hb]; exact hdg)
    (fun vm₁ hW₁ => ⟨hf.1, hf.2, hPc (T.setVm vm₁) hT hW₁⟩) with ⟨v, vm₁, ⟨U', l2, c2, s2⟩, hW₁, X', ⟨g', mk, t, L, e1, e2, hq, h1, hL, h2, h3⟩, st⟩ | ⟨q, vm₁, ⟨U', l2, c2, s2⟩, hW₁, X', ⟨g', mk, t, L, E, ce, e1, e2, hq, hce, hcv, hcl, h1, hL, h2, h3⟩, st⟩
  · dsimp only [Pt.U, Pt.locs, Pt.cells, Pt.slots] at X' e1 e2 h1 h2 h3 st
    subst h1; subst h2; subst h3
    exact Or.inl ⟨v, (T.setVm vm₁).calling g' mk (Value.ref b :: As).toArray, t, U', L, hT, X', hL, e1, e2, hq, st⟩
  · dsimp only [Pt.U, Pt.locs, Pt.cells, Pt.slots] at X' e1 e2 h1 h2 h3 st hcl
    subst h1; subst h2; subst h3
    exact Or.inr ⟨q, (T.setVm vm₁).calling g' mk (Value.ref b :: As).toArray, t, U', L, E, ce, hT, X', hL, e1, e2, hq, hce, hcv, vx_cls hW₁ hcl, st⟩
theorem vx_runS (S : CallFix p m c cc nL s args Ts own) (hM : vx_Met l y ws rm Pc Qc XC mc ms free) (cw : CallB R s args own index y bytes maxL ret ws rm mc ms n ∧ (Cond.static y).before args s = true) (hp : PreS s H Pc As)
    (hg : g.method = m) (hn : As.length = n) (hsize : g.locals.size = nL) (hstack : g.stack = As.reverse ++ rest) (hW : 2 * g.monitorRoom + (rest.map fun v => v.category).sum ≤ 8) (hdg : decode cc g.pc = .ok (.invokestatic index, 3)) (hf : cells + mc ≤ R.cells ∧ slots + ms ≤ R.slots) :
    vx_Run p l e R s m args below meth c H locs cells slots mc ms g rest (Qc As.toArray) XC free := by
  have hK : vx_Back l R p e below s args y 3 8 (PreOf R mc ms Pc) (PostOf Qc mc ms free) (vx_Post XC mc ms free) := vx_callBack cw.1 hM hp.1
  obtain ⟨⟨-, -, -, -, -, -, hcode, hini, hy, hlen, hl⟩, hstt⟩ := cw
  obtain ⟨hx, hb, hml, ho, -⟩ := S
  intro T hT X
  rcases vx_callS X hx (bytes := bytes) (maxL := maxL) (ret := ret) ho hl hstt hini hcode hy hK hg (hsize.trans hml.symm) (argsL := As) (rest := rest) (fun sig h => hn.trans (hlen sig h)) hstack hW (by rw [hb]; exact hdg)
    (fun vm₁ hW₁ => ⟨hf.1, hf.2, hp.2 (T.setVm vm₁) hT hW₁⟩) with ⟨v, vm₁, ⟨U', l2, c2, s2⟩, hW₁, X', ⟨g', mk, t, L, e1, e2, hq, h1, hL, h2, h3⟩, st⟩ | ⟨q, vm₁, ⟨U', l2, c2, s2⟩, hW₁, X', ⟨g', mk, t, L, E, ce, e1, e2, hq, hce, hcv, hcl, h1, hL, h2, h3⟩, st⟩
  · dsimp only [Pt.U, Pt.locs, Pt.cells, Pt.slots] at X' e1 e2 h1 h2 h3 st
    subst h1; subst h2; subst h3
    exact Or.inl ⟨v, (T.setVm vm₁).calling g' mk As.toArray, t, U', L, hT, X', hL, e1, e2, hq, st⟩
  · dsimp only [Pt.U, Pt.locs, Pt.cells, Pt.slots] at X' e1 e2 h1 h2 h3 st hcl
    subst h1; subst h2; subst h3
    exact Or.inr ⟨q, (T.setVm vm₁).calling g' mk As.toArray, t, U', L, E, ce, hT, X', hL, e1, e2, hq, hce, hcv, vx_cls hW₁ hcl, st⟩
end Runs
section Rows
variable {p : Program} {l : Launch} {e : Env} {R : Room} {s : State} {m : MethodId} {args : Array Value} {below : List Frame} {meth : Method} {c : Code} {H : Heap} {locs : List Loc} {cells slots : Nat} {Q : State → Prop}
variable {mc ms : Nat} {free : Addr → Prop} {A0 A1 : Nat → Prop} {H0 : Heap} {a : Array Value} {pc : Nat} {ls : Array Slot} {st0 rest : List Value}
theorem vx_keep {st₀ t T' : State} {L : List Loc} (h0 : st₀.heap = H) (e1 : T'.heap = t.heap) (hS : va_S A0 H0 H locs) (hA : ∀ q, q < H.size → A1 q → A0 q) (hf : ∀ q, free q → A0 q) (hL : ∀ q ∈ L, free q.base) (hF : va_F A1 st₀ t) :
    H.size ≤ T'.heap.size ∧ (∀ q : Nat, q < H.size → ¬ A1 q → T'.heap[q]? = H[q]?) ∧ va_S A0 H0 T'.heap (locs ++ L) := by
  obtain ⟨hz, hk⟩ := hF
  rw [h0] at hz hk
  exact ⟨by rw [e1]; exact hz, fun q h1 h2 => by rw [e1]; exact hk q h1 h2,
    ⟨Nat.le_trans hS.1 (by rw [e1]; exact hz), fun q h1 h2 => by rw [e1, hk q (Nat.lt_of_lt_of_le h1 hS.1) (fun z => h2 (hA q (Nat.lt_of_lt_of_le h1 hS.1) z))]; exact hS.2.1 q h1 h2, fun q hq => by
      rcases List.mem_append.mp hq with h | h
      · exact hS.2.2 q h
      · exact hf _ (hL q h)⟩⟩
theorem vx_calli {S SX : Type} {post : Int32 → S → Prop} {px : SX → Prop} {B : S → State → Prop} {BX : String → SX → State → Prop} {AX : Nat → Prop} (hr : vx_Run p l e R s m args below meth c H locs cells slots mc ms (F0 m pc ls st0) rest (va_Qi post B A1 a) (vx_X px BX AX) free) (hS : va_S A0 H0 H locs) (hA : ∀ q, q < H.size → A1 q → A0 q) (hf : ∀ q, free q → A0 q) (hAX : ∀ q, q < H.size → AX q → A0 q)
    (kx : ∀ (E : String) (ce : Cell) (q9 : Addr) (u : SX) (t : State) (H1 : Heap) (locs1 : List Loc), t.heap = H1 → s.vm.Alike t.vm → px u → BX E u t → H.size ≤ H1.size → (∀ q : Nat, q < H.size → ¬ AX q → H1[q]? = H[q]?) → va_S A0 H0 H1 locs1 → H1[q9]? = some ce → ce.vm = .none → s.vm.findClass E = some ce.cls → vx_W p l e R s m args below meth c H1 locs1 (cells + mc) (slots + ms) Q (F0 m pc ls rest) q9)
    (kk : ∀ (r : Int32) (u : S) (t : State) (H1 : Heap) (locs1 : List Loc), t.heap = H1 → s.vm.Alike t.vm → post r u → B u t → H.size ≤ H1.size → (∀ q : Nat, q < H.size → ¬ A1 q → H1[q]? = H[q]?) → va_S A0 H0 H1 locs1 → W p l e R s m args below meth c H1 locs1 (cells + mc) (slots + ms) Q (F0 m (pc + 3) ls (.int r :: rest))) : W p l e R s m args below meth c H locs cells slots Q (F0 m pc ls st0) := by
  intro T hT X
  rcases hr T hT X with ⟨v, st₀, t, T', L, h0, X', hL, e1, e2, ⟨⟨r, u, hv, hp, hb⟩, hF⟩, st⟩ | ⟨q, st₀, t, T', L, E, ce, h0, X', hL, e1, e2, ⟨u, hp, hb, hF⟩, hce, hcv, hcl, st⟩
  · cases hv
    obtain ⟨k1, k2, k3⟩ := vx_keep h0 e1 hS hA hf hL hF
    obtain ⟨t2, a1, b1⟩ := kk r u t T'.heap (locs ++ L) e1.symm (by rw [← e2]; exact X'.warmed.alike) hp hb k1 k2 k3 T' rfl X'
    exact ⟨t2, st t2 a1, b1⟩
  · obtain ⟨k1, k2, k3⟩ := vx_keep h0 e1 hS hAX hf hL hF
    obtain ⟨t2, a1, b1⟩ := kx E ce q u t T'.heap (locs ++ L) e1.symm (by rw [← e2]; exact X'.warmed.alike) hp hb k1 k2 k3 (by rw [e1]; exact hce) hcv hcl T' rfl X'
    exact ⟨t2, st.trans a1, b1⟩
theorem vx_calll {S SX : Type} {post : Int64 → S → Prop} {px : SX → Prop} {B : S → State → Prop} {BX : String → SX → State → Prop} {AX : Nat → Prop} (hr : vx_Run p l e R s m args below meth c H locs cells slots mc ms (F0 m pc ls st0) rest (va_Ql post B A1 a) (vx_X px BX AX) free) (hS : va_S A0 H0 H locs) (hA : ∀ q, q < H.size → A1 q → A0 q) (hf : ∀ q, free q → A0 q) (hAX : ∀ q, q < H.size → AX q → A0 q)
    (kx : ∀ (E : String) (ce : Cell) (q9 : Addr) (u : SX) (t : State) (H1 : Heap) (locs1 : List Loc), t.heap = H1 → s.vm.Alike t.vm → px u → BX E u t → H.size ≤ H1.size → (∀ q : Nat, q < H.size → ¬ AX q → H1[q]? = H[q]?) → va_S A0 H0 H1 locs1 → H1[q9]? = some ce → ce.vm = .none → s.vm.findClass E = some ce.cls → vx_W p l e R s m args below meth c H1 locs1 (cells + mc) (slots + ms) Q (F0 m pc ls rest) q9)
    (kk : ∀ (r : Int64) (u : S) (t : State) (H1 : Heap) (locs1 : List Loc), t.heap = H1 → s.vm.Alike t.vm → post r u → B u t → H.size ≤ H1.size → (∀ q : Nat, q < H.size → ¬ A1 q → H1[q]? = H[q]?) → va_S A0 H0 H1 locs1 → W p l e R s m args below meth c H1 locs1 (cells + mc) (slots + ms) Q (F0 m (pc + 3) ls (.long r :: rest))) : W p l e R s m args below meth c H locs cells slots Q (F0 m pc ls st0) := by
  intro T hT X
  rcases hr T hT X with ⟨v, st₀, t, T', L, h0, X', hL, e1, e2, ⟨⟨r, u, hv, hp, hb⟩, hF⟩, st⟩ | ⟨q, st₀, t, T', L, E, ce, h0, X', hL, e1, e2, ⟨u, hp, hb, hF⟩, hce, hcv, hcl, st⟩
  · cases hv
    obtain ⟨k1, k2, k3⟩ := vx_keep h0 e1 hS hA hf hL hF
    obtain ⟨t2, a1, b1⟩ := kk r u t T'.heap (locs ++ L) e1.symm (by rw [← e2]; exact X'.warmed.alike) hp hb k1 k2 k3 T' rfl X'
    exact ⟨t2, st t2 a1, b1⟩
  · obtain ⟨k1, k2, k3⟩ := vx_keep h0 e1 hS hAX hf hL hF
    obtain ⟨t2, a1, b1⟩ := kx E ce q u t T'.heap (locs ++ L) e1.symm (by rw [← e2]; exact X'.warmed.alike) hp hb k1 k2 k3 (by rw [e1]; exact hce) hcv hcl T' rfl X'
    exact ⟨t2, st.trans a1, b1⟩
theorem vx_callf {S SX : Type} {post : UInt32 → S → Prop} {px : SX → Prop} {B : S → State → Prop} {BX : String → SX → State → Prop} {AX : Nat → Prop} (hr : vx_Run p l e R s m args below meth c H locs cells slots mc ms (F0 m pc ls st0) rest (va_Qf post B A1 a) (vx_X px BX AX) free) (hS : va_S A0 H0 H locs) (hA : ∀ q, q < H.size → A1 q → A0 q) (hf : ∀ q, free q → A0 q) (hAX : ∀ q, q < H.size → AX q → A0 q)
    (kx : ∀ (E : String) (ce : Cell) (q9 : Addr) (u : SX) (t : State) (H1 : Heap) (locs1 : List Loc), t.heap = H1 → s.vm.Alike t.vm → px u → BX E u t → H.size ≤ H1.size → (∀ q : Nat, q < H.size → ¬ AX q → H1[q]? = H[q]?) → va_S A0 H0 H1 locs1 → H1[q9]? = some ce → ce.vm = .none → s.vm.findClass E = some ce.cls → vx_W p l e R s m args below meth c H1 locs1 (cells + mc) (slots + ms) Q (F0 m pc ls rest) q9)
    (kk : ∀ (r : UInt32) (u : S) (t : State) (H1 : Heap) (locs1 : List Loc), t.heap = H1 → s.vm.Alike t.vm → post r u → B u t → H.size ≤ H1.size → (∀ q : Nat, q < H.size → ¬ A1 q → H1[q]? = H[q]?) → va_S A0 H0 H1 locs1 → W p l e R s m args below meth c H1 locs1 (cells + mc) (slots + ms) Q (F0 m (pc + 3) ls (.float r :: rest))) : W p l e R s m args below meth c H locs cells slots Q (F0 m pc ls st0) := by
  intro T hT X
  rcases hr T hT X with ⟨v, st₀, t, T', L, h0, X', hL, e1, e2, ⟨⟨r, u, hv, hp, hb⟩, hF⟩, st⟩ | ⟨q, st₀, t, T', L, E, ce, h0, X', hL, e1, e2, ⟨u, hp, hb, hF⟩, hce, hcv, hcl, st⟩
  · cases hv
    obtain ⟨k1, k2, k3⟩ := vx_keep h0 e1 hS hA hf hL hF
    obtain ⟨t2, a1, b1⟩ := kk r u t T'.heap (locs ++ L) e1.symm (by rw [← e2]; exact X'.warmed.alike) hp hb k1 k2 k3 T' rfl X'
    exact ⟨t2, st t2 a1, b1⟩
  · obtain ⟨k1, k2, k3⟩ := vx_keep h0 e1 hS hAX hf hL hF
    obtain ⟨t2, a1, b1⟩ := kx E ce q u t T'.heap (locs ++ L) e1.symm (by rw [← e2]; exact X'.warmed.alike) hp hb k1 k2 k3 (by rw [e1]; exact hce) hcv hcl T' rfl X'
    exact ⟨t2, st.trans a1, b1⟩
theorem vx_calld {S SX : Type} {post : UInt64 → S → Prop} {px : SX → Prop} {B : S → State → Prop} {BX : String → SX → State → Prop} {AX : Nat → Prop} (hr : vx_Run p l e R s m args below meth c H locs cells slots mc ms (F0 m pc ls st0) rest (va_Qd post B A1 a) (vx_X px BX AX) free) (hS : va_S A0 H0 H locs) (hA : ∀ q, q < H.size → A1 q → A0 q) (hf : ∀ q, free q → A0 q) (hAX : ∀ q, q < H.size → AX q → A0 q)
    (kx : ∀ (E : String) (ce : Cell) (q9 : Addr) (u : SX) (t : State) (H1 : Heap) (locs1 : List Loc), t.heap = H1 → s.vm.Alike t.vm → px u → BX E u t → H.size ≤ H1.size → (∀ q : Nat, q < H.size → ¬ AX q → H1[q]? = H[q]?) → va_S A0 H0 H1 locs1 → H1[q9]? = some ce → ce.vm = .none → s.vm.findClass E = some ce.cls → vx_W p l e R s m args below meth c H1 locs1 (cells + mc) (slots + ms) Q (F0 m pc ls rest) q9)
    (kk : ∀ (r : UInt64) (u : S) (t : State) (H1 : Heap) (locs1 : List Loc), t.heap = H1 → s.vm.Alike t.vm → post r u → B u t → H.size ≤ H1.size → (∀ q : Nat, q < H.size → ¬ A1 q → H1[q]? = H[q]?) → va_S A0 H0 H1 locs1 → W p l e R s m args below meth c H1 locs1 (cells + mc) (slots + ms) Q (F0 m (pc + 3) ls (.double r :: rest))) : W p l e R s m args below meth c H locs cells slots Q (F0 m pc ls st0) := by
  intro T hT X
  rcases hr T hT X with ⟨v, st₀, t, T', L, h0, X', hL, e1, e2, ⟨⟨r, u, hv, hp, hb⟩, hF⟩, st⟩ | ⟨q, st₀, t, T', L, E, ce, h0, X', hL, e1, e2, ⟨u, hp, hb, hF⟩, hce, hcv, hcl, st⟩
  · cases hv
    obtain ⟨k1, k2, k3⟩ := vx_keep h0 e1 hS hA hf hL hF
    obtain ⟨t2, a1, b1⟩ := kk r u t T'.heap (locs ++ L) e1.symm (by rw [← e2]; exact X'.warmed.alike) hp hb k1 k2 k3 T' rfl X'
    exact ⟨t2, st t2 a1, b1⟩
  · obtain ⟨k1, k2, k3⟩ := vx_keep h0 e1 hS hAX hf hL hF
    obtain ⟨t2, a1, b1⟩ := kx E ce q u t T'.heap (locs ++ L) e1.symm (by rw [← e2]; exact X'.warmed.alike) hp hb k1 k2 k3 (by rw [e1]; exact hce) hcv hcl T' rfl X'
    exact ⟨t2, st.trans a1, b1⟩
theorem vx_callv {S SX : Type} {post : S → Prop} {px : SX → Prop} {B : S → State → Prop} {BX : String → SX → State → Prop} {AX : Nat → Prop} (hr : vx_Run p l e R s m args below meth c H locs cells slots mc ms (F0 m pc ls st0) rest (va_Qv post B A1 a) (vx_X px BX AX) free) (hS : va_S A0 H0 H locs) (hA : ∀ q, q < H.size → A1 q → A0 q) (hf : ∀ q, free q → A0 q) (hAX : ∀ q, q < H.size → AX q → A0 q)
    (kx : ∀ (E : String) (ce : Cell) (q9 : Addr) (u : SX) (t : State) (H1 : Heap) (locs1 : List Loc), t.heap = H1 → s.vm.Alike t.vm → px u → BX E u t → H.size ≤ H1.size → (∀ q : Nat, q < H.size → ¬ AX q → H1[q]? = H[q]?) → va_S A0 H0 H1 locs1 → H1[q9]? = some ce → ce.vm = .none → s.vm.findClass E = some ce.cls → vx_W p l e R s m args below meth c H1 locs1 (cells + mc) (slots + ms) Q (F0 m pc ls rest) q9)
    (kk : ∀ (u : S) (t : State) (H1 : Heap) (locs1 : List Loc), t.heap = H1 → s.vm.Alike t.vm → post u → B u t → H.size ≤ H1.size → (∀ q : Nat, q < H.size → ¬ A1 q → H1[q]? = H[q]?) → va_S A0 H0 H1 locs1 → W p l e R s m args below meth c H1 locs1 (cells + mc) (slots + ms) Q (F0 m (pc + 3) ls (rest))) : W p l e R s m args below meth c H locs cells slots Q (F0 m pc ls st0) := by
  intro T hT X
  rcases hr T hT X with ⟨v, st₀, t, T', L, h0, X', hL, e1, e2, ⟨⟨u, hv, hp, hb⟩, hF⟩, st⟩ | ⟨q, st₀, t, T', L, E, ce, h0, X', hL, e1, e2, ⟨u, hp, hb, hF⟩, hce, hcv, hcl, st⟩
  · cases hv
    obtain ⟨k1, k2, k3⟩ := vx_keep h0 e1 hS hA hf hL hF
    obtain ⟨t2, a1, b1⟩ := kk u t T'.heap (locs ++ L) e1.symm (by rw [← e2]; exact X'.warmed.alike) hp hb k1 k2 k3 T' rfl X'
    exact ⟨t2, st t2 a1, b1⟩
  · obtain ⟨k1, k2, k3⟩ := vx_keep h0 e1 hS hAX hf hL hF
    obtain ⟨t2, a1, b1⟩ := kx E ce q u t T'.heap (locs ++ L) e1.symm (by rw [← e2]; exact X'.warmed.alike) hp hb k1 k2 k3 (by rw [e1]; exact hce) hcv hcl T' rfl X'
    exact ⟨t2, st.trans a1, b1⟩
/-- caught by the row x of this method's table; the rows ahead don't take it -/
theorem vx_catch {own name : String} {E : String} {ce : Cell} {q : Addr} (hown : s.vm.findClass own = some m.cls) (pre : List ExceptionTableEntry) (x : ExceptionTableEntry) (suf : List ExceptionTableEntry) (hsplit : c.exceptionTable.toList = pre ++ x :: suf)
    (hpass : ∀ z ∈ pre, covers z pc = false ∨ (z.catchType ≠ 0 ∧ ∃ nm : String, (Cond.classLink own z.catchType nm).before args s = true ∧ va_Nc E nm s)) (hx : covers x pc = true) (h0 : x.catchType ≠ 0)
    (hlink : (Cond.classLink own x.catchType name).before args s = true) (hcast : (Cond.castable E name).before args s = true) (hcell : H[q]? = some ce) (hv : ce.vm = .none) (hcl : s.vm.findClass E = some ce.cls)
    (kk : W p l e R s m args below meth c H locs cells slots Q (F0 m x.handlerPc ls [.ref q])) : vx_W p l e R s m args below meth c H locs cells slots Q (F0 m pc ls rest) q := by
  intro T hT X
  have hpl : e.platform.magicAccessors = ({} : Platform).magicAccessors := by rw [X.admits.platform]
  obtain ⟨c3, c4, hc3, hc4, hasg⟩ := Cond.castable_spec hcast
  cases Option.some.inj (hc3.symm.trans hcl)
  obtain ⟨c5, hc5, hcl5⟩ := Cond.classLink_spec hown hlink e.platform hpl
  cases Option.some.inj (hc4.symm.trans hc5)
  obtain ⟨vm', X', st⟩ := X.thenCaughtThrough q (g := F0 m pc ls rest) rfl (Steps.refl _) (by rw [hT]; exact hcell) (by rw [hv]; rfl) (by obtain ⟨k9, h9, -⟩ := Vm.findClass_spec hcl; exact ⟨k9, h9⟩) pre x suf hsplit
    (fun z hz => by
      rcases hpass z hz with h | ⟨hz0, nm, hl1, hn1⟩
      · exact Or.inl h
      · obtain ⟨c6, hc6, hcl6⟩ := Cond.classLink_spec hown hl1 e.platform hpl
        obtain ⟨a8, b8, h1, h2, h3⟩ := hn1
        cases Option.some.inj (h1.symm.trans hcl)
        cases Option.some.inj (h2.symm.trans hc6)
        exact Or.inr ⟨hz0, _, hcl6, h3⟩) hx (Or.inr ⟨h0, c4, hcl5, hasg⟩)
  obtain ⟨t, a1, b1⟩ := kk (T.setVm vm') hT X'
  exact ⟨t, st.trans a1, b1⟩
end Rows
section Ends
variable {p : Program} {l : Launch} {e : Env} {R : Room} {s : State} {m : MethodId} {args : Array Value} {below : List Frame} {meth : Method} {c : Code} {H : Heap} {locs : List Loc} {cells slots : Nat} {Q : State → Prop}
variable {mc ms : Nat} {free : Addr → Prop} {A0 A1 : Nat → Prop} {H0 : Heap} {a : Array Value} {ls : Array Slot} {st0 rest : List Value}
variable {Qc : Array Value → State → Outcome → State → Prop} {XC : String → State → State → Prop}
/-- what a body that may throw owes at its end -/
def vx_MQ (below : List Frame) (Qc : Array Value → State → Outcome → State → Prop) (XC : String → State → State → Prop) (a : Array Value) (s : State) (mc ms : Nat) (free : Addr → Prop) : State → Prop := fun t =>
  ∃ o, t.status = .running ∧ Ended t below o ∧ vx_Q Qc XC mc ms free a s o t
theorem vx_ret {g : JFrame} {mc ms : Nat} (k : W p l e R s m args below meth c H locs cells slots (MQ below Qc args s mc ms free) g) : W p l e R s m args below meth c H locs cells slots (vx_MQ below Qc XC args s mc ms free) g := by
  intro T hT X
  obtain ⟨t, a1, o, b1, b2, b3, b4⟩ := k T hT X
  exact ⟨t, a1, o, b1, b2, Or.inl ⟨b3, b4⟩⟩
/-- not caught here: it goes on to the caller -/
theorem vx_widen {g : JFrame} {q : Addr} {k n : Nat} (h1 : cells ≤ k) (h2 : slots ≤ n) (kk : vx_W p l e R s m args below meth c H locs k n Q g q) : vx_W p l e R s m args below meth c H locs cells slots Q g q := fun T hT X => kk T hT (stand_widen X h1 h2)
theorem vx_out {pc : Nat} {E : String} {ce : Cell} {q : Addr} {mc ms : Nat} (hout : ∀ x ∈ c.exceptionTable.toList, covers x pc = false) (hlocks : meth.locks = false) (hcell : H[q]? = some ce) (hv : ce.vm = .none) (hcl : s.vm.findClass E = some ce.cls)
    (hx : ∀ t : State, t.heap = H → s.vm.Alike t.vm → XC E s t) (hf : ∀ z ∈ locs, free z.base) (hc : cells ≤ mc) (hs : slots ≤ ms) :
    vx_W p l e R s m args below meth c H locs cells slots (vx_MQ below Qc XC args s mc ms free) (F0 m pc ls rest) q := by
  intro T hT X
  obtain ⟨st1, hrun, hend, hW, hsm⟩ := X.leaveThrown q (g := F0 m pc ls rest) rfl rfl rfl hout hlocks
  have hcell9 : (T.setFrames (.throwing q :: below)).heap[q]? = some ce := by
    show T.heap[q]? = some ce
    rw [hT]; exact hcell
  exact ⟨_, st1, .threw q, hrun, hend, Or.inr ⟨q, rfl, E, ce, locs, hx _ hT hW.alike, hcell9, hv, hcl, hW, hsm.mono hc hs, hf⟩⟩
theorem vx_frame {U : State} {k n : Nat} (h : s.sameButNew ({ U with vm := s.vm } : State) locs k n) : s.heap.size ≤ U.heap.size ∧ ∀ q : Nat, q < s.heap.size → (∀ z ∈ locs, z.base ≠ q) → U.heap[q]? = s.heap[q]? := by
  obtain ⟨-, h2, -, -, -, h6⟩ := h
  refine ⟨h2, fun q hq hz => ?_⟩
  obtain ⟨c9, e1, e2, e3, e4⟩ := h6 q _ (Array.getElem?_eq_getElem hq)
  have hs : c9.slots = (s.heap[q]).slots := Array.ext_getElem? fun i => e4 i fun hm => hz _ hm rfl
  have h9 : c9 = s.heap[q] := by
    rw [hs] at e2
    exact e2
  have e5 : U.heap[q]? = some c9 := e1
  rw [e5, h9, Array.getElem?_eq_getElem hq]
/-- the words of a throw but the four that speak of the heap -/
def vx_no (w : Cond) : Bool := decide (w ≠ .isRef (.static Bundle.tN "UNASSIGNED_STACK" Bundle.steD)) && decide (w ≠ .isRef (.static Bundle.tN "SUPPRESSED_SENTINEL" Bundle.listD)) && decide (w ≠ .laysStatic Bundle.tN "UNASSIGNED_STACK" Bundle.steD) && decide (w ≠ .laysStatic Bundle.tN "SUPPRESSED_SENTINEL" Bundle.listD)
def vx_at0 (own : String) (ic : Nat) (X : String) (names : List String) : List Cond := (Bundle.ownAtoms0 own ic X names).filter vx_no
def vx_atS (own : String) (ic : Nat) (X : String) (names : List String) : List Cond := (Bundle.ownAtoms own ic X names).filter vx_no
/-- a word that the tables alone decide, or a good one -/
def vx_ot (w : Cond) : Bool := w.onTables || goodWord w
theorem vx_ot_at {args a' : Array Value} {s U : State} {w : Cond} (hW : s.WarmedH U.vm) (hvm : s.vm = U.vm) (hg : vx_ot w = true) (h : w.before args s = true) : w.before a' U = true := by
  simp only [vx_ot, Bool.or_eq_true] at hg
  rcases hg with hg | hg
  · exact va_tabs hg hvm h
  · exact word_at hW (good_of_word hg) h
/-- a list's words: the good ones out of the method's own list, the others by premises of their own -/
theorem vx_hat {args : Array Value} {s : State} {L B : List Cond} (h1 : ∀ w ∈ L.filter goodWord, w.before args s = true) (h2 : ∀ w ∈ L.filter (fun w => !goodWord w), w ∈ B) (h3 : ∀ w ∈ B, w.before args s = true) : ∀ w ∈ L, w.before args s = true := by
  intro w hw
  by_cases g : goodWord w = true
  · exact h1 w (List.mem_filter.mpr ⟨hw, g⟩)
  · refine h3 w (h2 w (List.mem_filter.mpr ⟨hw, ?_⟩))
    show (!goodWord w) = true
    cases hgw : goodWord w
    · rfl
    · exact absurd hgw g
theorem vx_c {args : Array Value} {s : State} {w : Cond} {B : List Cond} (h : w.before args s = true) (t : ∀ w ∈ B, w.before args s = true) : ∀ w' ∈ w :: B, w'.before args s = true := fun w' h' => (List.mem_cons.mp h').elim (fun e => by rw [e]; exact h) (t w')
theorem vx_n {args : Array Value} {s : State} : ∀ w ∈ ([] : List Cond), w.before args s = true := fun _ h => nomatch h
theorem vx_own {args : Array Value} {s : State} {L : List Cond} (h1 : ∀ w ∈ L.filter vx_no, w.before args s = true)
    (hU : (Cond.isRef (.static Bundle.tN "UNASSIGNED_STACK" Bundle.steD)).before args s = true) (hN : (Cond.isRef (.static Bundle.tN "SUPPRESSED_SENTINEL" Bundle.listD)).before args s = true)
    (lU : (Cond.laysStatic Bundle.tN "UNASSIGNED_STACK" Bundle.steD).before args s = true) (lN : (Cond.laysStatic Bundle.tN "SUPPRESSED_SENTINEL" Bundle.listD).before args s = true) : ∀ w ∈ L, w.before args s = true := by
  intro w hw
  by_cases e1 : w = .isRef (.static Bundle.tN "UNASSIGNED_STACK" Bundle.steD)
  · rw [e1]; exact hU
  · by_cases e2 : w = .isRef (.static Bundle.tN "SUPPRESSED_SENTINEL" Bundle.listD)
    · rw [e2]; exact hN
    · by_cases e3 : w = .laysStatic Bundle.tN "UNASSIGNED_STACK" Bundle.steD
      · rw [e3]; exact lU
      · by_cases e4 : w = .laysStatic Bundle.tN "SUPPRESSED_SENTINEL" Bundle.listD
        · rw [e4]; exact lN
        · exact h1 w (List.mem_filter.mpr ⟨hw, by unfold vx_no; rw [decide_eq_true e1, decide_eq_true e2, decide_eq_true e3, decide_eq_true e4]; rfl⟩)
/-- where a static field lies, its class's statics cell in H -/
def vx_L (C n d : String) (A : Nat → Prop) (U : State) (H : Heap) : Prop := ∃ (c : ClassId) (k : Class) (i : Nat) (f : Field) (a : Nat) (cell : Cell), U.vm.findClass C = some c ∧ U.fieldFound? C n d = some (c, k, i, f) ∧ f.isStatic = true ∧ k.statics = some a ∧ H[a]? = some cell ∧ cell.vm.isStatics = true ∧ cell.cls = c ∧ f.slot < cell.slots.size ∧ k.staticTypes[f.slot]? = some f.type ∧ ¬ A a
theorem vx_L.moved {C n d : String} {A : Nat → Prop} {u U : State} {H : Heap} (hvm : u.vm.Alike U.vm) (h : vx_L C n d A u H) : vx_L C n d A U H := by
  obtain ⟨c, k, i, f, a, cell, h1, h2, h3, h4, h5, h6, h7, h8, h9, h10⟩ := h
  obtain ⟨k', hi', he⟩ := State.fieldFound?_setVm hvm h2
  exact ⟨c, k', i, f, a, cell, by rw [hvm.findClass]; exact h1, hi', h3, by rw [he]; exact h4, h5, h6, h7, h8, by rw [he]; exact h9, h10⟩
theorem vx_L.kept {C n d : String} {A : Nat → Prop} {U : State} {H H1 : Heap} (h : vx_L C n d A U H) (hq : ∀ a : Nat, a < H.size → ¬ A a → H1[a]? = H[a]?) : vx_L C n d A U H1 := by
  obtain ⟨c, k, i, f, a, cell, h1, h2, h3, h4, h5, h6, h7, h8, h9, h10⟩ := h
  exact ⟨c, k, i, f, a, cell, h1, h2, h3, h4, by rw [hq a (Array.getElem?_eq_some_iff.mp h5).1 h10]; exact h5, h6, h7, h8, h9, h10⟩
theorem vx_L.narrow {C n d : String} {A B : Nat → Prop} {U : State} {H : Heap} (h : vx_L C n d A U H) (hAB : ∀ q, B q → A q) : vx_L C n d B U H := by
  obtain ⟨c, k, i, f, a, cell, h1, h2, h3, h4, h5, h6, h7, h8, h9, h10⟩ := h
  exact ⟨c, k, i, f, a, cell, h1, h2, h3, h4, h5, h6, h7, h8, h9, fun z => h10 (hAB _ z)⟩
theorem vx_L.word {C n d : String} {A : Nat → Prop} {s : State} {args : Array Value} (h : vx_L C n d A s s.heap) : (Cond.laysStatic C n d).before args s = true := by
  obtain ⟨c, k, i, f, a, cell, h1, h2, h3, h4, h5, h6, h7, h8, h9, -⟩ := h
  show (Cond.laysStatic C n d).holds args s none s [] = true
  exact Cond.laysStatic_of h1 h2 h3 h4 h5 h6 h7 h8 h9
/-- .. and what it holds: null or some reference -/
def vx_Zq (C n d : String) (A : Nat → Prop) (U : State) (H : Heap) : Prop := va_Zq C n d A U H ∧ vx_L C n d A U H
theorem vx_Zq.moved {C n d : String} {A : Nat → Prop} {u U : State} {H : Heap} (hvm : u.vm.Alike U.vm) (h : vx_Zq C n d A u H) : vx_Zq C n d A U H := ⟨va_Zq.moved hvm h.1, vx_L.moved hvm h.2⟩
theorem vx_Zq.kept {C n d : String} {A : Nat → Prop} {U : State} {H H1 : Heap} (h : vx_Zq C n d A U H) (hq : ∀ a : Nat, a < H.size → ¬ A a → H1[a]? = H[a]?) : vx_Zq C n d A U H1 := ⟨va_Zq.kept h.1 hq, vx_L.kept h.2 hq⟩
theorem vx_Zq.narrow {C n d : String} {A B : Nat → Prop} {U : State} {H : Heap} (h : vx_Zq C n d A U H) (hAB : ∀ q, B q → A q) : vx_Zq C n d B U H := ⟨va_Zq.narrow h.1 hAB, vx_L.narrow h.2 hAB⟩
theorem vx_Zqof {args : Array Value} {s : State} {C n d : String} {A : Nat → Prop} (hl : (Cond.laysStatic C n d).before args s = true) (hini : (Cond.initialized C).before args s = true) (h : (Cond.isRef (.static C n d)).before args s = true) (hA : ∀ a : Nat, a < s.heap.size → ¬ A a) : vx_Zq C n d A s s.heap := by
  refine ⟨va_Zqof hl hini h hA, ?_⟩
  obtain ⟨c, k, i, f, a, cell, h1, h2, h3, h4, h5, h6, h7, h8, h9⟩ := Cond.laysStatic_spec hl
  exact ⟨c, k, i, f, a, cell, h1, h2, h3, h4, h5, h6, h7, h8, h9, hA a (Array.getElem?_eq_some_iff.mp h5).1⟩
theorem vx_isRef {C n d : String} {v : Value} {A : Nat → Prop} {s : State} {args : Array Value} (h : va_Z C n d v A s s.heap) (hv : v.isRef = true) : (Cond.isRef (.static C n d)).before args s = true := by
  obtain ⟨cf, kf, fi, f, a, cell, h1, h2, h3, h4, h5, h6, h7, -⟩ := h
  have he : (Term.static C n d).eval args s none [] s = some v := by
    simp [Term.eval, State.fieldNamed?, h1, h2, h4, h5, h6, h7]
  simp only [Cond.before, Cond.holds, Cond.value, he]
  cases v <;> simp_all [Value.isRef]
theorem vx_isRefq {C n d : String} {A : Nat → Prop} {s : State} {args : Array Value} (h : va_Zq C n d A s s.heap) : (Cond.isRef (.static C n d)).before args s = true := by
  rcases h with h | ⟨t, h⟩
  · exact vx_isRef h rfl
  · exact vx_isRef h rfl
/-- the same frame, seen from here: as if the method were called anew in this heap -/
theorem vx_rebase {T : State} (X : Stand p l e R s m args below meth c T locs cells slots) {R' : Room} (hf : R'.frames ≤ R.frames) (hl : R'.locals ≤ R.locals) (hc : cells + R'.cells ≤ R.cells) (hs : slots + R'.slots ≤ R.slots) :
    Stand p l e R' ((T.setVm s.vm).setFrames (.invoking m args :: below)) m args below meth c T [] 0 0 := by
  have htop : (T.setVm s.vm).topJava?.isSome := X.here.top
  have hF : ((T.setVm s.vm).setFrames (.invoking m args :: below)).frames = .invoking m args :: below := State.frames_setFrames _ (State.cur_lt_of_top htop)
  obtain ⟨g₀, hg0⟩ := Option.isSome_iff_exists.mp htop
  obtain ⟨r, hr⟩ := State.topJava?_eq_some.mp hg0
  have hl9 : e.platform.stackLimits (T.setVm s.vm).me = e.platform.stackLimits s.me := X.limits
  have hb9 : (T.setVm s.vm).me.stackBytes = s.me.stackBytes := X.bytes
  refine ⟨X.admits, X.cas, X.clock, hF, ?_, X.hears, X.method, X.code, X.here, X.tail, X.warmed, ?_, ?_, ?_⟩
  · have h := X.room
    have hU : ((T.setVm s.vm).setFrames (.invoking m args :: below)).localsInUse = s.localsInUse := by
      rw [State.localsInUse_invoking hF (meth := meth) (c := c) X.method X.code, State.localsInUse_invoking X.frames X.method X.code]
    simp only [State.hasRoom, Bool.and_eq_true, decide_eq_true_eq] at h ⊢
    obtain ⟨⟨⟨⟨h1, h2, h3, h4, h5, h6⟩, h7⟩, h8⟩, h9⟩ := h
    rw [X.frames, List.length_cons] at h2 h3
    have q1 := X.heapSize
    have q2 := X.used
    simp only [hF, hU, List.length_cons, State.stackLimits_setFrames, State.stackBytes_setFrames, hl9, hb9]
    refine ⟨⟨⟨⟨by omega, by omega, by omega, by omega, by omega, h6⟩, ?_⟩, ?_⟩, X.book⟩
    · show T.heap.size + R'.cells ≤ e.platform.maxCells
      omega
    · show T.slotsUsed + R'.slots ≤ e.platform.maxSlots
      omega
  · rw [State.stackLimits_setFrames]; rfl
  · rw [State.stackBytes_setFrames]; rfl
  · refine ⟨?_, Nat.le_refl _, Nat.le_refl _, ?_, ?_, fun a c9 h9 => ⟨c9, h9, rfl, rfl, fun _ _ => rfl⟩⟩
    · obtain ⟨t, ht, -⟩ := State.frames_cons hr
      show T.setVm s.vm = { ((T.setVm s.vm).setFrames (.invoking m args :: below)).setFrames (T.setVm s.vm).frames with heap := T.heap, slotsUsed := T.slotsUsed }
      rw [State.setFrames_setFrames, State.setFrames_self ht]
      rfl
    · show T.slotsUsed = T.slotsUsed + ((T.heap.toList.drop T.heap.size).map (·.slots.size)).sum
      rw [List.drop_eq_nil_of_le (Nat.le_of_eq Array.length_toList)]
      rfl
    · show ((T.heap.toList.drop T.heap.size).map (·.slots.size)).sum ≤ 0
      rw [List.drop_eq_nil_of_le (Nat.le_of_eq Array.length_toList)]
      exact Nat.le_refl _
/-- 'throw new E()': new; dup; invokespecial; athrow -/
theorem vx_throw0 {cc : ByteArray} {pc : Nat} (hexec : p.tables.exec = Jvm.exec) (hb : c.code = cc) (hl : l.stackTraces = false) {own cls : String} {names : List String} {ik ic mc ms : Nat} {A : Nat → Prop}
    (hown : s.vm.findClass own = some m.cls) (hcls : Bundle.fit cls = true) (hnames : ∀ n ∈ names, Bundle.fit n = true)
    (hk : (Cond.classLink own ik cls).before args s = true) (hini : (Cond.initialized cls).before args s = true) (hat : ∀ w ∈ vx_at0 own ic cls names, w.before args s = true)
    (hgood : ∀ w ∈ Cond.classLink own ik cls :: Cond.initialized cls :: vx_at0 own ic cls names, vx_ot w = true)
    (hU : vx_Zq Bundle.tN "UNASSIGNED_STACK" Bundle.steD A s s.heap) (hN : vx_Zq Bundle.tN "SUPPRESSED_SENTINEL" Bundle.listD A s s.heap) (hS : va_S A s.heap H locs) (hsize : ls.size = c.maxLocals)
    (d0 : decode cc pc = .ok (.new ik, 3)) (d3 : decode cc (pc + 3) = .ok (.dup, 1)) (d4 : decode cc (pc + 4) = .ok (.invokespecial ic, 3)) (d7 : decode cc (pc + 7) = .ok (.athrow, 1))
    (hout : ∀ x ∈ c.exceptionTable.toList, covers x (pc + 7) = false)
    (hRframes : names.length + 3 < R.frames) (hRlocals : (rest.map fun v => v.category).sum + (13 * (names.length + 1) + 42) ≤ R.locals) (hRcells : cells + 1 ≤ R.cells) (hRslots : slots + 6 ≤ R.slots) (hlocks : meth.locks = false)
    (hx : ∀ t : State, s.vm.Alike t.vm → H.size ≤ t.heap.size → (∀ q : Nat, q < H.size → t.heap[q]? = H[q]?) → XC cls s t)
    (hf : ∀ z ∈ locs, free z.base) (hc : cells + 1 ≤ mc) (hs : slots + 6 ≤ ms) :
    W p l e R s m args below meth c H locs cells slots (vx_MQ below Qc XC args s mc ms free) (F0 m pc ls rest) := by
  intro T hT X
  have htr : e.platform.stackTraces = false := (show e.platform.stackTraces = l.stackTraces by rw [X.admits.platform]).trans hl
  have Y := vx_rebase X (R' := { frames := R.frames, locals := R.locals, cells := 1, slots := 6 }) (Nat.le_refl _) (Nat.le_refl _) hRcells hRslots
  obtain ⟨s', hA⟩ : ∃ z, z = (T.setVm s.vm).setFrames (.invoking m args :: below) := ⟨_, rfl⟩
  rw [← hA] at Y
  have hvm : s'.vm = s.vm := by rw [hA]; rfl
  have hhp : s'.heap = H := by rw [hA]; exact hT
  have hW0 : s.WarmedH s'.vm := by rw [hvm]; exact State.WarmedH.refl s
  have hat' : ∀ w ∈ vx_at0 own ic cls names, w.before args s' = true := fun w hw => vx_ot_at hW0 hvm.symm (hgood w (List.mem_cons_of_mem _ (List.mem_cons_of_mem _ hw))) (hat w hw)
  have hk' : (Cond.classLink own ik cls).before args s' = true := vx_ot_at hW0 hvm.symm (hgood _ List.mem_cons_self) hk
  have hini' : (Cond.initialized cls).before args s' = true := vx_ot_at hW0 hvm.symm (hgood _ (List.mem_cons_of_mem _ List.mem_cons_self)) hini
  have hU' : vx_Zq Bundle.tN "UNASSIGNED_STACK" Bundle.steD A s' s'.heap := by rw [hhp]; exact vx_Zq.moved hW0.alike (hU.kept hS.2.1)
  have hN' : vx_Zq Bundle.tN "SUPPRESSED_SENTINEL" Bundle.listD A s' s'.heap := by rw [hhp]; exact vx_Zq.moved hW0.alike (hN.kept hS.2.1)
  have h : ∀ w ∈ Bundle.ownAtoms0 own ic cls names, w.before args s' = true := vx_own hat' (vx_isRefq hU'.1) (vx_isRefq hN'.1) hU'.2.word hN'.2.word
  have hown' : s'.vm.findClass own = some m.cls := by rw [hvm]; exact hown
  have hins : (Cond.instantiable cls 6).before args s' = true := h _ (by simp [Bundle.ownAtoms0])
  obtain ⟨vm₁, cX, kX, hfX, hkX, -, -, X₁, st1⟩ := Y.newCold hexec (own := own) (C := cls) (index := ik) (n := 6) hown' hk' hins hini'
    (g := F0 m pc ls rest) rfl (by rw [hb]; exact d0) (Nat.le_refl _) (Nat.le_refl _)
  generalize hT1 : (T.setVm vm₁).pushCell { cls := cX, slots := kX.instanceTypes.map defaultValue, vm := .none } = T1 at X₁ st1
  have hcat : (Value.ref T.heap.size).category = 1 := rfl
  have hcellA : T1.heap[T.heap.size]? = some (freshCell cX kX) := by rw [← hT1]; exact State.heap_pushCell_size _ _
  have d3' : decode c.code (pc + 3) = .ok (.dup, 1) := by rw [hb]; exact d3
  obtain ⟨U, hsteps, hrun, hend, hW, hsame, ce, hce, hO⟩ := X₁.ctorThrow0 hexec htr (own := own) (cls := cls) (names := names) (ic := ic) hown' hcls hnames h (fun x hx => nomatch hx) hfX hkX hcellA (by rw [hhp, hT]; exact Nat.le_refl _)
    (g := { method := m, pc := pc + 4, locals := ls, stack := .ref T.heap.size :: .ref T.heap.size :: rest, locked := none }) rfl hsize rfl rfl (rest := rest) rfl
    (by rw [hb]; exact d4) (by rw [hb]; exact d7) hout hRframes (by simp only [List.map_cons, List.sum_cons, hcat]; omega) hlocks
  obtain ⟨f1, f2⟩ := vx_frame hsame
  rw [hhp] at f1 f2
  have hWs : s.WarmedH U.vm := State.WarmedH.trans hW0 hW
  have hcl : s.vm.findClass cls = some ce.cls := by
    have h9 := hO.cls
    rw [hvm] at h9
    exact h9
  have hall : s.sameButNew ({ U with vm := s.vm } : State) locs mc ms := by
    subst hA
    obtain ⟨e1, e2⟩ := hsame
    rw [State.setFrames_setFrames] at e1
    have h2 : (T.setVm s.vm).sameButNew ({ U with vm := s.vm } : State) [] (0 + 1) (0 + 6) := ⟨e1, e2⟩
    have h3 := X.same.trans h2
    rw [List.append_nil] at h3
    exact h3.mono hc hs
  refine ⟨U, ?_, .threw T.heap.size, hrun, hend, Or.inr ⟨T.heap.size, rfl, cls, ce, locs, hx U hWs.alike f1 (fun q hq => f2 q hq (fun z hz => nomatch hz)), hce, hO.vm, hcl, hWs, hall, hf⟩⟩
  refine st1 _ ?_
  show Steps p.tables e below (T1.setTop { method := m, pc := pc + 3, locals := ls, stack := .ref T.heap.size :: rest, locked := none }) _
  jvm_step X₁.here [X₁.here.top, hexec, d3', Value.category]
  exact hsteps
/-- 'throw new E("text")': new; dup; ldc; invokespecial; athrow -/
theorem vx_throwS {cc : ByteArray} {pc : Nat} (hexec : p.tables.exec = Jvm.exec) (hb : c.code = cc) (hl : l.stackTraces = false) {own cls text : String} {names : List String} {ik is ic mc ms sa : Nat} {A : Nat → Prop}
    (hown : s.vm.findClass own = some m.cls) (hcls : Bundle.fit cls = true) (hnames : ∀ n ∈ names, Bundle.fit n = true)
    (hk : (Cond.classLink own ik cls).before args s = true) (hini : (Cond.initialized cls).before args s = true) (hstr : vk_R own is text sa s) (hat : ∀ w ∈ vx_atS own ic cls names, w.before args s = true)
    (hgood : ∀ w ∈ Cond.classLink own ik cls :: Cond.initialized cls :: vx_atS own ic cls names, vx_ot w = true)
    (hU : vx_Zq Bundle.tN "UNASSIGNED_STACK" Bundle.steD A s s.heap) (hN : vx_Zq Bundle.tN "SUPPRESSED_SENTINEL" Bundle.listD A s s.heap) (hS : va_S A s.heap H locs) (hsize : ls.size = c.maxLocals)
    (d0 : decode cc pc = .ok (.new ik, 3)) (d3 : decode cc (pc + 3) = .ok (.dup, 1)) (d4 : decode cc (pc + 4) = .ok (.ldc is, 2)) (d6 : decode cc (pc + 6) = .ok (.invokespecial ic, 3)) (d9 : decode cc (pc + 9) = .ok (.athrow, 1))
    (hout : ∀ x ∈ c.exceptionTable.toList, covers x (pc + 9) = false)
    (hRframes : names.length + 3 < R.frames) (hRlocals : (rest.map fun v => v.category).sum + (13 * (names.length + 1) + 43) ≤ R.locals) (hRcells : cells + 1 ≤ R.cells) (hRslots : slots + 6 ≤ R.slots) (hlocks : meth.locks = false)
    (hx : ∀ t : State, s.vm.Alike t.vm → H.size ≤ t.heap.size → (∀ q : Nat, q < H.size → t.heap[q]? = H[q]?) → XC cls s t)
    (hf : ∀ z ∈ locs, free z.base) (hc : cells + 1 ≤ mc) (hs : slots + 6 ≤ ms) :
    W p l e R s m args below meth c H locs cells slots (vx_MQ below Qc XC args s mc ms free) (F0 m pc ls rest) := by
  intro T hT X
  have htr : e.platform.stackTraces = false := (show e.platform.stackTraces = l.stackTraces by rw [X.admits.platform]).trans hl
  have Y := vx_rebase X (R' := { frames := R.frames, locals := R.locals, cells := 1, slots := 6 }) (Nat.le_refl _) (Nat.le_refl _) hRcells hRslots
  obtain ⟨s', hA⟩ : ∃ z, z = (T.setVm s.vm).setFrames (.invoking m args :: below) := ⟨_, rfl⟩
  rw [← hA] at Y
  have hvm : s'.vm = s.vm := by rw [hA]; rfl
  have hhp : s'.heap = H := by rw [hA]; exact hT
  have hW0 : s.WarmedH s'.vm := by rw [hvm]; exact State.WarmedH.refl s
  have hat' : ∀ w ∈ vx_atS own ic cls names, w.before args s' = true := fun w hw => vx_ot_at hW0 hvm.symm (hgood w (List.mem_cons_of_mem _ (List.mem_cons_of_mem _ hw))) (hat w hw)
  have hk' : (Cond.classLink own ik cls).before args s' = true := vx_ot_at hW0 hvm.symm (hgood _ List.mem_cons_self) hk
  have hini' : (Cond.initialized cls).before args s' = true := vx_ot_at hW0 hvm.symm (hgood _ (List.mem_cons_of_mem _ List.mem_cons_self)) hini
  have hU' : vx_Zq Bundle.tN "UNASSIGNED_STACK" Bundle.steD A s' s'.heap := by rw [hhp]; exact vx_Zq.moved hW0.alike (hU.kept hS.2.1)
  have hN' : vx_Zq Bundle.tN "SUPPRESSED_SENTINEL" Bundle.listD A s' s'.heap := by rw [hhp]; exact vx_Zq.moved hW0.alike (hN.kept hS.2.1)
  have h : ∀ w ∈ Bundle.ownAtoms own ic cls names, w.before args s' = true := vx_own hat' (vx_isRefq hU'.1) (vx_isRefq hN'.1) hU'.2.word hN'.2.word
  have hown' : s'.vm.findClass own = some m.cls := by rw [hvm]; exact hown
  have hins : (Cond.instantiable cls 6).before args s' = true := h _ (by simp [Bundle.ownAtoms])
  obtain ⟨vm₁, cX, kX, hfX, hkX, -, -, X₁, st1⟩ := Y.newCold hexec (own := own) (C := cls) (index := ik) (n := 6) hown' hk' hins hini'
    (g := F0 m pc ls rest) rfl (by rw [hb]; exact d0) (Nat.le_refl _) (Nat.le_refl _)
  generalize hT1 : (T.setVm vm₁).pushCell { cls := cX, slots := kX.instanceTypes.map defaultValue, vm := .none } = T1 at X₁ st1
  have hcat : (Value.ref T.heap.size).category = 1 := rfl
  have hcellA : T1.heap[T.heap.size]? = some (freshCell cX kX) := by rw [← hT1]; exact State.heap_pushCell_size _ _
  have d3' : decode c.code (pc + 3) = .ok (.dup, 1) := by rw [hb]; exact d3
  have d4' : decode c.code (pc + 4) = .ok (.ldc is, 2) := by rw [hb]; exact d4
  have hstr' : vk_R own is text sa s' := vk_R.warm hW0 hstr
  obtain ⟨U, hsteps, hrun, hend, hW, hsame, ce, hce, hO⟩ := X₁.ctorThrowS hexec htr (own := own) (cls := cls) (names := names) (ic := ic) hown' hcls hnames h (fun x hx => nomatch hx) hfX hkX hcellA (by rw [hhp, hT]; exact Nat.le_refl _) (msg := .ref sa) rfl
    (g := { method := m, pc := pc + 6, locals := ls, stack := .ref sa :: .ref T.heap.size :: .ref T.heap.size :: rest, locked := none }) rfl hsize rfl rfl (rest := rest) rfl
    (by rw [hb]; exact d6) (by rw [hb]; exact d9) hout hRframes (by simp only [List.map_cons, List.sum_cons, hcat]; omega) hlocks
  obtain ⟨f1, f2⟩ := vx_frame hsame
  rw [hhp] at f1 f2
  have hWs : s.WarmedH U.vm := State.WarmedH.trans hW0 hW
  have hcl : s.vm.findClass cls = some ce.cls := by
    have h9 := hO.cls
    rw [hvm] at h9
    exact h9
  have hall : s.sameButNew ({ U with vm := s.vm } : State) locs mc ms := by
    subst hA
    obtain ⟨e1, e2⟩ := hsame
    rw [State.setFrames_setFrames] at e1
    have h2 : (T.setVm s.vm).sameButNew ({ U with vm := s.vm } : State) [] (0 + 1) (0 + 6) := ⟨e1, e2⟩
    have h3 := X.same.trans h2
    rw [List.append_nil] at h3
    exact h3.mono hc hs
  refine ⟨U, ?_, .threw T.heap.size, hrun, hend, Or.inr ⟨T.heap.size, rfl, cls, ce, locs, hx U hWs.alike f1 (fun q hq => f2 q hq (fun z hz => nomatch hz)), hce, hO.vm, hcl, hWs, hall, hf⟩⟩
  refine st1 _ ?_
  show Steps p.tables e below (T1.setTop { method := m, pc := pc + 3, locals := ls, stack := .ref T.heap.size :: rest, locked := none }) _
  jvm_step X₁.here [X₁.here.top, hexec, d3', Value.category]
  exact X₁.ldcString hexec (own := own) (text := text) (index := is) (a := sa) hown' hstr'.1 hstr'.2
    (g := { method := m, pc := pc + 4, locals := ls, stack := .ref T.heap.size :: .ref T.heap.size :: rest, locked := none }) rfl d4' _ hsteps
/-- 'throw new E("text")', the text by a wide index -/
theorem vx_throwSW {cc : ByteArray} {pc : Nat} (hexec : p.tables.exec = Jvm.exec) (hb : c.code = cc) (hl : l.stackTraces = false) {own cls text : String} {names : List String} {ik is ic mc ms sa : Nat} {A : Nat → Prop}
    (hown : s.vm.findClass own = some m.cls) (hcls : Bundle.fit cls = true) (hnames : ∀ n ∈ names, Bundle.fit n = true)
    (hk : (Cond.classLink own ik cls).before args s = true) (hini : (Cond.initialized cls).before args s = true) (hstr : vk_R own is text sa s) (hat : ∀ w ∈ vx_atS own ic cls names, w.before args s = true)
    (hgood : ∀ w ∈ Cond.classLink own ik cls :: Cond.initialized cls :: vx_atS own ic cls names, vx_ot w = true)
    (hU : vx_Zq Bundle.tN "UNASSIGNED_STACK" Bundle.steD A s s.heap) (hN : vx_Zq Bundle.tN "SUPPRESSED_SENTINEL" Bundle.listD A s s.heap) (hS : va_S A s.heap H locs) (hsize : ls.size = c.maxLocals)
    (d0 : decode cc pc = .ok (.new ik, 3)) (d3 : decode cc (pc + 3) = .ok (.dup, 1)) (d4 : decode cc (pc + 4) = .ok (.ldc_w is, 3)) (d7 : decode cc (pc + 7) = .ok (.invokespecial ic, 3)) (d10 : decode cc (pc + 10) = .ok (.athrow, 1))
    (hout : ∀ x ∈ c.exceptionTable.toList, covers x (pc + 10) = false)
    (hRframes : names.length + 3 < R.frames) (hRlocals : (rest.map fun v => v.category).sum + (13 * (names.length + 1) + 43) ≤ R.locals) (hRcells : cells + 1 ≤ R.cells) (hRslots : slots + 6 ≤ R.slots) (hlocks : meth.locks = false)
    (hx : ∀ t : State, s.vm.Alike t.vm → H.size ≤ t.heap.size → (∀ q : Nat, q < H.size → t.heap[q]? = H[q]?) → XC cls s t)
    (hf : ∀ z ∈ locs, free z.base) (hc : cells + 1 ≤ mc) (hs : slots + 6 ≤ ms) :
    W p l e R s m args below meth c H locs cells slots (vx_MQ below Qc XC args s mc ms free) (F0 m pc ls rest) := by
  intro T hT X
  have htr : e.platform.stackTraces = false := (show e.platform.stackTraces = l.stackTraces by rw [X.admits.platform]).trans hl
  have Y := vx_rebase X (R' := { frames := R.frames, locals := R.locals, cells := 1, slots := 6 }) (Nat.le_refl _) (Nat.le_refl _) hRcells hRslots
  obtain ⟨s', hA⟩ : ∃ z, z = (T.setVm s.vm).setFrames (.invoking m args :: below) := ⟨_, rfl⟩
  rw [← hA] at Y
  have hvm : s'.vm = s.vm := by rw [hA]; rfl
  have hhp : s'.heap = H := by rw [hA]; exact hT
  have hW0 : s.WarmedH s'.vm := by rw [hvm]; exact State.WarmedH.refl s
  have hat' : ∀ w ∈ vx_atS own ic cls names, w.before args s' = true := fun w hw => vx_ot_at hW0 hvm.symm (hgood w (List.mem_cons_of_mem _ (List.mem_cons_of_mem _ hw))) (hat w hw)
  have hk' : (Cond.classLink own ik cls).before args s' = true := vx_ot_at hW0 hvm.symm (hgood _ List.mem_cons_self) hk
  have hini' : (Cond.initialized cls).before args s' = true := vx_ot_at hW0 hvm.symm (hgood _ (List.mem_cons_of_mem _ List.mem_cons_self)) hini
  have hU' : vx_Zq Bundle.tN "UNASSIGNED_STACK" Bundle.steD A s' s'.heap := by rw [hhp]; exact vx_Zq.moved hW0.alike (hU.kept hS.2.1)
  have hN' : vx_Zq Bundle.tN "SUPPRESSED_SENTINEL" Bundle.listD A s' s'.heap := by rw [hhp]; exact vx_Zq.moved hW0.alike (hN.kept hS.2.1)
  have h : ∀ w ∈ Bundle.ownAtoms own ic cls names, w.before args s' = true := vx_own hat' (vx_isRefq hU'.1) (vx_isRefq hN'.1) hU'.2.word hN'.2.word
  have hown' : s'.vm.findClass own = some m.cls := by rw [hvm]; exact hown
  have hins : (Cond.instantiable cls 6).before args s' = true := h _ (by simp [Bundle.ownAtoms])
  obtain ⟨vm₁, cX, kX, hfX, hkX, -, -, X₁, st1⟩ := Y.newCold hexec (own := own) (C := cls) (index := ik) (n := 6) hown' hk' hins hini'
    (g := F0 m pc ls rest) rfl (by rw [hb]; exact d0) (Nat.le_refl _) (Nat.le_refl _)
  generalize hT1 : (T.setVm vm₁).pushCell { cls := cX, slots := kX.instanceTypes.map defaultValue, vm := .none } = T1 at X₁ st1
  have hcat : (Value.ref T.heap.size).category = 1 := rfl
  have hcellA : T1.heap[T.heap.size]? = some (freshCell cX kX) := by rw [← hT1]; exact State.heap_pushCell_size _ _
  have d3' : decode c.code (pc + 3) = .ok (.dup, 1) := by rw [hb]; exact d3
  have d4' : decode c.code (pc + 4) = .ok (.ldc_w is, 3) := by rw [hb]; exact d4
  have hstr' : vk_R own is text sa s' := vk_R.warm hW0 hstr
  obtain ⟨U, hsteps, hrun, hend, hW, hsame, ce, hce, hO⟩ := X₁.ctorThrowS hexec htr (own := own) (cls := cls) (names := names) (ic := ic) hown' hcls hnames h (fun x hx => nomatch hx) hfX hkX hcellA (by rw [hhp, hT]; exact Nat.le_refl _) (msg := .ref sa) rfl
    (g := { method := m, pc := pc + 7, locals := ls, stack := .ref sa :: .ref T.heap.size :: .ref T.heap.size :: rest, locked := none }) rfl hsize rfl rfl (rest := rest) rfl
    (by rw [hb]; exact d7) (by rw [hb]; exact d10) hout hRframes (by simp only [List.map_cons, List.sum_cons, hcat]; omega) hlocks
  obtain ⟨f1, f2⟩ := vx_frame hsame
  rw [hhp] at f1 f2
  have hWs : s.WarmedH U.vm := State.WarmedH.trans hW0 hW
  have hcl : s.vm.findClass cls = some ce.cls := by
    have h9 := hO.cls
    rw [hvm] at h9
    exact h9
  have hall : s.sameButNew ({ U with vm := s.vm } : State) locs mc ms := by
    subst hA
    obtain ⟨e1, e2⟩ := hsame
    rw [State.setFrames_setFrames] at e1
    have h2 : (T.setVm s.vm).sameButNew ({ U with vm := s.vm } : State) [] (0 + 1) (0 + 6) := ⟨e1, e2⟩
    have h3 := X.same.trans h2
    rw [List.append_nil] at h3
    exact h3.mono hc hs
  refine ⟨U, ?_, .threw T.heap.size, hrun, hend, Or.inr ⟨T.heap.size, rfl, cls, ce, locs, hx U hWs.alike f1 (fun q hq => f2 q hq (fun z hz => nomatch hz)), hce, hO.vm, hcl, hWs, hall, hf⟩⟩
  refine st1 _ ?_
  show Steps p.tables e below (T1.setTop { method := m, pc := pc + 3, locals := ls, stack := .ref T.heap.size :: rest, locked := none }) _
  jvm_step X₁.here [X₁.here.top, hexec, d3', Value.category]
  exact X₁.ldcStringW hexec (own := own) (text := text) (index := is) (a := sa) hown' hstr'.1 hstr'.2
    (g := { method := m, pc := pc + 4, locals := ls, stack := .ref T.heap.size :: .ref T.heap.size :: rest, locked := none }) rfl d4' _ hsteps
end Ends
section Bodies
variable {l : Launch}
theorem vx_ofW {y : MethodName} {ws ws' : List Cond} {rm : Room} {Pc : Array Value → State → Prop} {Qc : Array Value → State → Outcome → State → Prop} {XC : String → State → State → Prop} {mc ms : Nat} {free : Addr → Prop} {cc : ByteArray} {maxL : Nat} {ret : Option FieldType}
    (hy : plainName y.cls = true) (hw : ws = Cond.code y cc maxL ret :: ws')
    (body : ∀ p e s m args below meth c s₁, BodyLoose p l y (headSpec ws rm) cc maxL ret e s m args below meth c s₁ → c.maxLocals = maxL → (∀ x ∈ c.exceptionTable.toList, False) → Pc args s →
      W p l e (headSpec ws rm).room s m args below meth c s.heap [] 0 0 (vx_MQ below Qc XC args s mc ms free) (entryFrame m args maxL)) : vx_Met l y ws rm Pc Qc XC mc ms free := by
  refine MetFree.of_bodyS (code := cc) (maxLocals := maxL) (ret := ret) hy ?_ ?_
  · intro args s m h hn
    obtain ⟨meth, c, h1, h2, h3, h4, h5, h6, -, -⟩ := Cond.code_spec hn (atoms_spec (ws := ws) h _ (by rw [hw]; exact List.mem_cons_self))
    exact ⟨meth, c, h1, h2, h3, h4, h5, h6⟩
  · intro p e s m args below meth c s₁ B hml hP _
    have hh0 : s₁.heap = s.heap := by rw [B.state]; rfl
    have ht : ∀ x ∈ c.exceptionTable.toList, False := by
      obtain ⟨meth9, c9, h1, h2, -, -, -, -, h7, -⟩ := Cond.code_spec B.named (atoms_spec (ws := ws) B.pre _ (by rw [hw]; exact List.mem_cons_self))
      cases Option.some.inj (h1.symm.trans B.method)
      cases Option.some.inj (h2.symm.trans (Stand.of_body B).code)
      intro x hx
      rw [Array.isEmpty_iff.mp h7] at hx
      cases hx
    obtain ⟨t, a1, o, b1, b2, b3⟩ := body p e s m args below meth c s₁ B hml ht hP s₁ hh0 (Stand.of_body B)
    exact ⟨t, o, a1, b1, b2, b3⟩
/-- the table of a body with handlers -/
theorem vx_table {p : Program} {x y : MethodName} {S : Spec} {cc bytes : ByteArray} {maxL maxL' : Nat} {ret ret' : Option FieldType} {e : Env} {s s₁ : State} {m : MethodId} {args : Array Value} {below : List Frame} {meth : Method} {c : Code} {hh : List (Nat × Nat × Nat × Nat)}
    (B : BodyLoose p l y S cc maxL ret e s m args below meth c s₁) (h : (Cond.codeWith y bytes maxL' ret' hh).before args s = true) : c.exceptionTable.toList = tableOf hh := by
  obtain ⟨m9, meth9, c9, hn9, h1, h2, -, -, h6, -⟩ := Cond.codeWith_spec h
  cases Option.some.inj (hn9.symm.trans B.named)
  cases Option.some.inj (h1.symm.trans B.method)
  cases Option.some.inj (h2.symm.trans (Stand.of_body B).code)
  rw [← h6, table_eq]
end Bodies
end VXA
/-! ===== END ===== -/
/-! ===== BEGIN a static call of a method with an exception table ===== -/
section VXS
variable {p : Program} {l : Launch} {e : Env} {R : Room} {s : State} {m : MethodId} {args : Array Value} {below : List Frame} {meth : Method} {c : Code} {T : State} {H : Heap} {locs : List Loc} {cells slots : Nat}
abbrev vx_CSW (R : Room) (s : State) (args : Array Value) (own : String) (index : Nat) (y : MethodName) (bytes : ByteArray) (maxL : Nat) (ret : Option FieldType) (hh : List (Nat × Nat × Nat × Nat)) (ws : List Cond) (rm : Room) (mc ms n : Nat) : Prop :=
  (rm.cells = mc ∧ rm.slots = ms ∧ rm.frames + 1 ≤ R.frames ∧ 8 + (maxL + 11) + rm.locals ≤ R.locals ∧ (∀ w ∈ ws, ∀ (a' : Array Value) (U : State), s.WarmedH U.vm → w.before a' U = true) ∧ Cond.codeWith y bytes maxL ret hh ∈ ws) ∧
  (Cond.codeWith y bytes maxL ret hh).before args s = true ∧ (Cond.initialized y.cls).before args s = true ∧ (y.cls ≠ "java/lang/invoke/MethodHandle" ∧ y.cls ≠ "java/lang/invoke/VarHandle") ∧
  (∀ sig, parseMethodDescriptor y.desc = some sig → n = sig.parameters.length) ∧ (Cond.methodLink own index y).before args s = true ∧ (Cond.static y).before args s = true
theorem vx_cwSW {own : String} {index maxL mc ms : Nat} {y : MethodName} {bytes : ByteArray} {ret : Option FieldType} {hh : List (Nat × Nat × Nat × Nat)} {Ts ws ws' : List Cond} {rm : Room} (n : Nat) (ht : ∀ w ∈ Ts, w.before args s = true) (hT : GoodIn Ts (va_wsS own index y ws)) (hw : ws = Cond.codeWith y bytes maxL ret hh :: ws') (hrc : rm.cells = mc) (hrs : rm.slots = ms)
    (hd : y.cls ≠ "java/lang/invoke/MethodHandle" ∧ y.cls ≠ "java/lang/invoke/VarHandle" ∧ (parseMethodDescriptor y.desc).map (fun d => d.parameters.length) = some n) (hR : rm.frames + 1 ≤ R.frames ∧ 8 + (maxL + 11) + rm.locals ≤ R.locals) :
    vx_CSW R s args own index y bytes maxL ret hh ws rm mc ms n := by
  have ok : ∀ w ∈ va_wsS own index y ws, w.before args s = true := fun w h => ht w (hT w h).1
  have hG : GoodIn Ts ws := fun w h => hT w (by unfold va_wsS; exact List.mem_append_right _ h)
  have hc : Cond.codeWith y bytes maxL ret hh ∈ ws := by rw [hw]; exact List.mem_cons_self
  refine ⟨⟨hrc, hrs, hR.1, hR.2, pay_in ht hG, hc⟩, ht _ (hG _ hc).1, ok _ (by simp [va_wsS]), ⟨hd.1, hd.2.1⟩, fun sig h => ?_, ok _ (by simp [va_wsS]), ok _ (by simp [va_wsS])⟩
  have h2 := hd.2.2
  rw [h] at h2
  exact (Option.some.inj h2).symm
theorem vx_callSW (X : Stand p l e R s m args below meth c T locs cells slots) (hexec : p.tables.exec = Jvm.exec) {own : String} {index : Nat} {y : MethodName} {bytes : ByteArray} {maxL : Nat} {ret : Option FieldType} {hh : List (Nat × Nat × Nat × Nat)}
    (hown : s.vm.findClass own = some m.cls) (hlink : (Cond.methodLink own index y).before args s = true) (hstat : (Cond.static y).before args s = true) (hinit : (Cond.initialized y.cls).before args s = true)
    (hcode : (Cond.codeWith y bytes maxL ret hh).before args s = true) (hy : y.cls ≠ "java/lang/invoke/MethodHandle" ∧ y.cls ≠ "java/lang/invoke/VarHandle")
    {W9 : Nat} {Pre : Pt → Array Value → Prop} {Post : Pt → Array Value → Option Value → Pt → Prop} (hK : Back l R p e below s args y 3 W9 Pre Post)
    {g : JFrame} (hg : g.method = m) (hsize : g.locals.size = c.maxLocals) {argsL rest : List Value} (hlen : ∀ sig, parseMethodDescriptor y.desc = some sig → argsL.length = sig.parameters.length)
    (hstack : g.stack = argsL.reverse ++ rest) (hW : 2 * g.monitorRoom + (rest.map fun v => v.category).sum ≤ W9) (hdg : decode c.code g.pc = .ok (.invokestatic index, 3))
    (hpre : ∀ vm₁, s.WarmedH vm₁ → Pre ⟨T.setVm vm₁, locs, cells, slots⟩ argsL.toArray) :
    ∃ (v : Option Value) (vm₁ : Vm) (B : Pt), s.WarmedH vm₁ ∧ Stand p l e R s m args below meth c B.U B.locs B.cells B.slots ∧ Post ⟨T.setVm vm₁, locs, cells, slots⟩ argsL.toArray v B ∧
      ∀ target, Steps p.tables e below (B.U.setTop { g with pc := g.pc + 3, stack := v.toList ++ rest }) target → Steps p.tables e below (T.setTop g) target := by
  obtain ⟨mk, methM, cM, hnamed, hmethM, -, -, -, -, -, -, hsigM⟩ := Cond.codeWith_spec hcode
  have hstatic : methM.isStatic = true := Cond.static_spec hnamed hmethM hstat
  obtain ⟨kP, hkP, -⟩ := className_of_methodNamed hnamed
  have hinitP : kP.init = .initialized := Cond.initialized_spec (findClass_of_methodNamed hnamed) hkP hinit
  obtain ⟨vm₁, X₁, hstep₁⟩ := X.invokestatic hexec hown hlink hnamed hmethM hstatic hkP hinitP hy (g := g) hg (argsL := argsL) (rest := rest) (hlen _ hsigM) hstack hdg
  obtain ⟨v, B, X', hpost, hsteps⟩ := hK m meth c ⟨T.setVm vm₁, locs, cells, slots⟩ { g with stack := rest } (.invokestatic index) mk argsL.toArray X₁ hg hsize hdg hW (X₁.named hnamed) (hpre vm₁ X₁.warmed)
  exact ⟨v, vm₁, B, X₁.warmed, X', hpost, fun target h => hstep₁ _ fun acts => by rw [doInvoke_state]; exact hsteps.trans h⟩
theorem vx_runSW {y : MethodName} {bytes cc : ByteArray} {maxL nL mc ms n index : Nat} {ret : Option FieldType} {hh : List (Nat × Nat × Nat × Nat)} {ws : List Cond} {rm : Room} {Pc : Array Value → State → Prop} {Qc : Array Value → State → Outcome → State → Prop} {free : Addr → Prop} {Ts : List Cond} {own : String} {As rest : List Value} {g : JFrame}
    (S : CallFix p m c cc nL s args Ts own) (hM : Met l y ws rm Pc Qc mc ms free) (cw : vx_CSW R s args own index y bytes maxL ret hh ws rm mc ms n) (hp : PreS s H Pc As)
    (hg : g.method = m) (hn : As.length = n) (hsize : g.locals.size = nL) (hstack : g.stack = As.reverse ++ rest) (hW : 2 * g.monitorRoom + (rest.map fun v => v.category).sum ≤ 8) (hdg : decode cc g.pc = .ok (.invokestatic index, 3)) (hf : cells + mc ≤ R.cells ∧ slots + ms ≤ R.slots) :
    va_Run p l e R s m args below meth c H locs cells slots mc ms g rest (Qc As.toArray) (free) := by
  obtain ⟨⟨hrc, hrs, hfr, hlo, hws, hcw⟩, hcode, hini, hy, hlen, hl, hstt⟩ := cw
  have hK : Back l R p e below s args y 3 8 (PreOf R mc ms Pc) (PostOf Qc mc ms free) := va_backW (hh := hh) (bytes := bytes) (maxL := maxL) (ret := ret) hM hp.1 hrc hrs hfr hlo hws hcw (fun a' U hW => word_at hW (Or.inl (by first | rfl | simp [Cond.onTables, Cond.keeps, Cond.steady])) hini)
  obtain ⟨hx, hb, hml, ho, -⟩ := S
  intro T hT X
  obtain ⟨v, vm₁, ⟨U', l2, c2, s2⟩, hW₁, X', ⟨g', mk, t, L, e1, e2, hq, h1, hL, h2, h3⟩, st⟩ := vx_callSW X hx (hh := hh) (bytes := bytes) (maxL := maxL) (ret := ret) ho hl hstt hini hcode hy hK hg (hsize.trans hml.symm) (argsL := As) (rest := rest) (fun sig h => hn.trans (hlen sig h)) hstack hW (by rw [hb]; exact hdg)
    (fun vm₁ hW₁ => ⟨hf.1, hf.2, hp.2 (T.setVm vm₁) hT hW₁⟩)
  dsimp only [Pt.U, Pt.locs, Pt.cells, Pt.slots] at X' e1 e2 h1 h2 h3 st
  subst h1; subst h2; subst h3
  exact ⟨v, (T.setVm vm₁).calling g' mk As.toArray, t, U', L, hT, X', hL, e1, e2, hq, st⟩
/-- not caught here, past rows that name other classes: it goes on to the caller -/
theorem vx_outP {p : Program} {l : Launch} {e : Env} {R : Room} {s : State} {m : MethodId} {args : Array Value} {below : List Frame} {meth : Method} {c : Code} {H : Heap} {locs : List Loc} {cells slots : Nat} {free : Addr → Prop} {ls : Array Slot} {rest : List Value} {Qc : Array Value → State → Outcome → State → Prop} {XC : String → State → State → Prop}
    {pc : Nat} {own E : String} {ce : Cell} {q : Addr} {mc ms : Nat} (hown : s.vm.findClass own = some m.cls) (hlocks : meth.locks = false)
    (hpass : ∀ z ∈ c.exceptionTable.toList, covers z pc = false ∨ (z.catchType ≠ 0 ∧ ∃ nm : String, (Cond.classLink own z.catchType nm).before args s = true ∧ va_Nc E nm s)) (hcell : H[q]? = some ce) (hv : ce.vm = .none) (hcl : s.vm.findClass E = some ce.cls)
    (hx : ∀ t : State, t.heap = H → s.vm.Alike t.vm → XC E s t) (hf : ∀ z ∈ locs, free z.base) (hc : cells ≤ mc) (hs : slots ≤ ms) :
    vx_W p l e R s m args below meth c H locs cells slots (vx_MQ below Qc XC args s mc ms free) (F0 m pc ls rest) q := by
  intro T hT X
  have hpl : e.platform.magicAccessors = ({} : Platform).magicAccessors := by rw [X.admits.platform]
  obtain ⟨vm', hW', X', st⟩ := X.outThrough hlocks q (g := F0 m pc ls rest) rfl rfl rfl (cell := ce) (by rw [hT]; exact hcell) (by rw [hv]; rfl)
    (by obtain ⟨k9, h9, -⟩ := Vm.findClass_spec hcl; exact ⟨k9, h9⟩) (fun z hz => by
      rcases hpass z hz with h | ⟨hz0, nm, hl1, hn1⟩
      · exact Or.inl h
      · obtain ⟨c6, hc6, hcl6⟩ := Cond.classLink_spec hown hl1 e.platform hpl
        obtain ⟨a8, b8, h1, h2, h3⟩ := hn1
        cases Option.some.inj (h1.symm.trans hcl)
        cases Option.some.inj (h2.symm.trans hc6)
        exact Or.inr ⟨hz0, _, hcl6, h3⟩)
  obtain ⟨g₀, hfr⟩ := X'.frames_eq
  have hcell9 : ((T.setVm vm').setFrames (.throwing q :: below)).heap[q]? = some ce := by
    show T.heap[q]? = some ce
    rw [hT]; exact hcell
  have hend : Ended ((T.setVm vm').setFrames (.throwing q :: below)) below (.threw q) := State.frames_setFrames _ (State.cur_lt_of_frames hfr)
  refine ⟨(T.setVm vm').setFrames (.throwing q :: below), ?_, .threw q, X'.here.running, hend, Or.inr ⟨q, rfl, E, ce, locs, hx _ hT (X'.ends _).1.alike, hcell9, hv, hcl, (X'.ends _).1, (X'.ends _).2.mono hc hs, hf⟩⟩
  rw [X.pushThrowing_eq]
  exact st
/-- a thing of a world lies in the heap -/
theorem vx_lt {D : va_G} {cl : List vw_C} {ws : va_W} {H1 : Heap} (h : va_P D cl ws H1) {k : Nat} {q : Nat × va_E} (hk : ws[k]? = some q) : q.1 < H1.size := (h k q hk).lt
end VXS
/-! ===== END ===== -/
/-! ===== BEGIN methods with a table of their own: called by a name, returning or throwing ===== -/
section VXH
/-! vx_backW, vx_callVX, vx_callSX, vx_callVW, vx_runVW, vx_runVX, vx_runSX, vx_ofWH follow the same proofs as their sisters above (Free/Laws.lean, Shelf42/LK1.lean); vx_outP calls Shelf42/NT130.lean (outThrough). -/
section
variable {l : Launch} {R : Room} {p : Program} {e : Env} {below : List Frame} {s : State} {sargs : Array Value} {y : MethodName} {len W9 : Nat}
theorem vx_backW {ws : List Cond} {rm : Room} {Pc : Array Value → State → Prop} {Qc : Array Value → State → Outcome → State → Prop} {XC : String → State → State → Prop} {mc ms : Nat} {free : Addr → Prop} {bytes : ByteArray} {maxL : Nat} {ret : Option FieldType} {hh : List (Nat × Nat × Nat × Nat)}
    (hM : vx_Met l y ws rm Pc Qc XC mc ms free) (hblind : FrameBlind Pc) (hrc : rm.cells = mc) (hrs : rm.slots = ms)
    (hframes : rm.frames + 1 ≤ R.frames) (hlocals : W9 + (maxL + 11) + rm.locals ≤ R.locals)
    (hws : ∀ w ∈ ws, ∀ a' U, s.WarmedH U.vm → w.before a' U = true) (hcode : Cond.codeWith y bytes maxL ret hh ∈ ws) (hinit : ∀ a' U, s.WarmedH U.vm → (Cond.initialized y.cls).before a' U = true) :
    vx_Back l R p e below s sargs y len W9 (PreOf R mc ms Pc) (PostOf Qc mc ms free) (vx_Post XC mc ms free) := by
  intro m meth c A g ig mk a X hg hsize hdg hW hn hp
  have h1 : (headSpec ws rm).pre.before a A.U = true := atoms_intro fun w hw => hws w hw _ _ X.warmed
  have h2 : (Cond.codeWith y bytes maxL ret hh).before a A.U = true := hws _ hcode _ _ X.warmed
  have h3 : (Cond.initialized y.cls).before a A.U = true := hinit _ _ X.warmed
  have h4 : A.cells + (headSpec ws rm).room.cells ≤ R.cells := by rw [show (headSpec ws rm).room.cells = mc from hrc]; exact hp.1
  have h5 : A.slots + (headSpec ws rm).room.slots ≤ R.slots := by rw [show (headSpec ws rm).room.slots = ms from hrs]; exact hp.2.1
  have hPc : Pc a (A.U.calling g mk a) := hblind _ _ _ _ hp.2.2
  obtain ⟨U, Ls, c0, s0⟩ := A
  dsimp only [Pt.U, Pt.locs, Pt.cells, Pt.slots] at h1 h2 h3 h4 h5 X hn hPc ⊢
  obtain ⟨m9, methY, cY, hn9, hmY, hcY, -, hlY, -⟩ := Cond.codeWith_spec h2
  cases Option.some.inj (hn9.symm.trans hn)
  obtain ⟨kY, hkY, -⟩ := className_of_methodNamed hn
  have hinitY : kY.init = .initialized := Cond.initialized_spec (findClass_of_methodNamed hn) hkY h3
  have h : At U g.method c below := by rw [hg]; exact X.here
  have hlocals9 : W9 + (maxL + 11) + (headSpec ws rm).room.locals ≤ R.locals := hlocals
  have happ : (headSpec ws rm).appliesLoose y e.platform (U.calling g mk a) = true :=
    Spec.appliesLoose_calling (g := g) h hdg hn hkY hinitY
      (X.room_calling (g := g) (R' := (headSpec ws rm).room) hsize hmY hcY hframes (by rw [hlY]; omega) h4 h5) h1
  obtain ⟨mid, hmid⟩ := h.above
  have hfr : (U.setTop g).frames = (.java g :: mid) ++ below := by rw [State.frames_setTop' g h.top, hmid]; rfl
  obtain ⟨o, s₂, hsteps, -, hend, hq⟩ := Steps.callFree hM p X.admits X.cas X.clock (acts := []) hfr happ hPc trivial
  have hq' : vx_Q Qc XC mc ms free a (U.calling g mk a) o s₂ := hq
  rw [State.frames_setTop' g h.top] at hend
  obtain ⟨g₀, hg0⟩ := Option.isSome_iff_exists.mp h.top
  obtain ⟨r, hr⟩ := State.topJava?_eq_some.mp hg0
  have hr' : (({ U with heap := s₂.heap, slotsUsed := s₂.slotsUsed } : State).setVm s₂.vm).frames = .java g₀ :: r := hr
  rcases hq' with ⟨hqc, L, hfe, hL⟩ | ⟨q, rfl, E, ce, L, hx, hce, hcv, hcl, hW₂, hsm, hL⟩
  · obtain ⟨⟨v, rfl⟩, hW₂, e2, q2, q3, q4, q5, q6⟩ := id hfe
    have e3 : s₂ = ({ (U.calling g mk a).setFrames s₂.frames with heap := s₂.heap, slotsUsed := s₂.slotsUsed } : State).setVm s₂.vm := by
      have : s₂ = ({ s₂ with vm := (U.calling g mk a).vm } : State).setVm s₂.vm := rfl
      rw [e2] at this
      exact this
    obtain ⟨c₂, i₂, len₂, hc₂, hd₂, hf₂⟩ := hend
    have hW' : U.WarmedH s₂.vm := hW₂
    have hcc : c₂ = c := by
      have h1 : s₂.code? g.method = U.code? g.method := by
        rw [State.code?_eq, State.code?_eq, hW'.alike.method?]
      exact Option.some.inj (hc₂.symm.trans (h1.trans h.code))
    subst hcc
    have hlen : len₂ = len := by rw [hdg] at hd₂; cases hd₂; rfl
    subst hlen
    have hs₂ : s₂ = (({ U with heap := s₂.heap, slotsUsed := s₂.slotsUsed } : State).setVm s₂.vm).setTop { g with pc := g.pc + len₂, stack := v.toList ++ g.stack } := by
      refine e3.trans ?_
      rw [hf₂, State.calling_eq h.top, State.setFrames_setFrames, State.setTop_of_frames _ hr', hr]
      rfl
    have hsame : U.sameButNew ({ U with heap := s₂.heap, slotsUsed := s₂.slotsUsed } : State) L mc ms := by
      refine ⟨?_, q2, q3, q4, q5, q6⟩
      obtain ⟨t, ht, -⟩ := State.frames_cons hr
      show ({ U with heap := s₂.heap, slotsUsed := s₂.slotsUsed } : State) = { U.setFrames U.frames with heap := s₂.heap, slotsUsed := s₂.slotsUsed }
      rw [State.setFrames_self ht]
    subst hg
    refine Or.inl ⟨v, ⟨(({ U with heap := s₂.heap, slotsUsed := s₂.slotsUsed } : State).setVm s₂.vm), Ls ++ L, c0 + mc, s0 + ms⟩,
      ⟨X.admits, X.cas, X.clock, X.frames, X.room, X.hears, X.method, X.code, (X.here.setHeapUsed s₂.heap s₂.slotsUsed).setVm hW'.alike, X.tail, State.WarmedH.trans X.warmed hW', X.limits, X.bytes, X.same.trans (hsame.setVm s.vm)⟩,
      ⟨g, mk, s₂, L, rfl, rfl, hqc, rfl, hL, rfl, rfl⟩, ?_⟩
    show Steps p.tables e below _ ((({ U with heap := s₂.heap, slotsUsed := s₂.slotsUsed } : State).setVm s₂.vm).setTop { g with pc := g.pc + len₂, stack := v.toList ++ g.stack })
    rw [← hs₂]
    exact hsteps
  · obtain ⟨e2, q2, q3, q4, q5, q6⟩ := id hsm
    have e3 : s₂ = ({ (U.calling g mk a).setFrames s₂.frames with heap := s₂.heap, slotsUsed := s₂.slotsUsed } : State).setVm s₂.vm := by
      have : s₂ = ({ s₂ with vm := (U.calling g mk a).vm } : State).setVm s₂.vm := rfl
      rw [e2] at this
      exact this
    have hf₂ : s₂.frames = .throwing q :: .java g :: U.frames.tail := hend
    have hW' : U.WarmedH s₂.vm := hW₂
    have hs₂ : s₂ = ((({ U with heap := s₂.heap, slotsUsed := s₂.slotsUsed } : State).setVm s₂.vm).setTop g).pushFrame (.throwing q) := by
      refine e3.trans ?_
      rw [hf₂, State.calling_eq h.top, State.setFrames_setFrames, State.pushFrame, State.frames_setTop _ hr', State.setTop_of_frames _ hr', State.setFrames_setFrames, hr]
      rfl
    have hsame : U.sameButNew ({ U with heap := s₂.heap, slotsUsed := s₂.slotsUsed } : State) L mc ms := by
      refine ⟨?_, q2, q3, q4, q5, q6⟩
      obtain ⟨t, ht, -⟩ := State.frames_cons hr
      show ({ U with heap := s₂.heap, slotsUsed := s₂.slotsUsed } : State) = { U.setFrames U.frames with heap := s₂.heap, slotsUsed := s₂.slotsUsed }
      rw [State.setFrames_self ht]
    subst hg
    refine Or.inr ⟨q, ⟨(({ U with heap := s₂.heap, slotsUsed := s₂.slotsUsed } : State).setVm s₂.vm), Ls ++ L, c0 + mc, s0 + ms⟩,
      ⟨X.admits, X.cas, X.clock, X.frames, X.room, X.hears, X.method, X.code, (X.here.setHeapUsed s₂.heap s₂.slotsUsed).setVm hW'.alike, X.tail, State.WarmedH.trans X.warmed hW', X.limits, X.bytes, X.same.trans (hsame.setVm s.vm)⟩,
      ⟨g, mk, s₂, L, E, ce, rfl, rfl, hx, hce, hcv, hcl, rfl, hL, rfl, rfl⟩, ?_⟩
    show Steps p.tables e below _ (((({ U with heap := s₂.heap, slotsUsed := s₂.slotsUsed } : State).setVm s₂.vm).setTop g).pushFrame (.throwing q))
    rw [← hs₂]
    exact hsteps
end
variable {p : Program} {l : Launch} {e : Env} {R : Room} {s : State} {m : MethodId} {args : Array Value} {below : List Frame} {meth : Method} {c : Code} {T : State} {H : Heap} {locs : List Loc} {cells slots : Nat}
theorem vx_callVX (X : Stand p l e R s m args below meth c T locs cells slots) (hexec : p.tables.exec = Jvm.exec) {own C : String} {index : Nat} {y : MethodName} {bytes : ByteArray} {maxL : Nat} {ret : Option FieldType} {hh : List (Nat × Nat × Nat × Nat)}
    (hown : s.vm.findClass own = some m.cls) (hlink : (Cond.methodLink own index y).before args s = true) (hinst : (Cond.instanceMethod y).before args s = true) (hsel : (Cond.selects C y y).before args s = true)
    (hcode : (Cond.codeWith y bytes maxL ret hh).before args s = true) (hy : y.cls ≠ "java/lang/invoke/MethodHandle" ∧ y.cls ≠ "java/lang/invoke/VarHandle")
    {W9 : Nat} {Pre : Pt → Array Value → Prop} {Post : Pt → Array Value → Option Value → Pt → Prop} {PostX : Pt → Array Value → Addr → Pt → Prop} (hK : vx_Back l R p e below s args y 3 W9 Pre Post PostX)
    {b : Addr} {cellB : Cell} (hcell : T.heap[b]? = some cellB) (hobj : cellB.vm.isStatics = false) (hcls : s.vm.findClass C = some cellB.cls)
    {g : JFrame} (hg : g.method = m) (hsize : g.locals.size = c.maxLocals) {argsL rest : List Value} (hlen : ∀ sig, parseMethodDescriptor y.desc = some sig → argsL.length = sig.parameters.length)
    (hstack : g.stack = argsL.reverse ++ .ref b :: rest) (hW : 2 * g.monitorRoom + (rest.map fun v => v.category).sum ≤ W9) (hdg : decode c.code g.pc = .ok (.invokevirtual index, 3))
    (hpre : ∀ vm₁, s.WarmedH vm₁ → Pre ⟨T.setVm vm₁, locs, cells, slots⟩ (Value.ref b :: argsL).toArray) :
    (∃ (v : Option Value) (vm₁ : Vm) (B : Pt), s.WarmedH vm₁ ∧ Stand p l e R s m args below meth c B.U B.locs B.cells B.slots ∧ Post ⟨T.setVm vm₁, locs, cells, slots⟩ (Value.ref b :: argsL).toArray v B ∧
      ∀ target, Steps p.tables e below (B.U.setTop { g with pc := g.pc + 3, stack := v.toList ++ rest }) target → Steps p.tables e below (T.setTop g) target) ∨
    (∃ (q : Addr) (vm₁ : Vm) (B : Pt), s.WarmedH vm₁ ∧ Stand p l e R s m args below meth c B.U B.locs B.cells B.slots ∧ PostX ⟨T.setVm vm₁, locs, cells, slots⟩ (Value.ref b :: argsL).toArray q B ∧
      Steps p.tables e below (T.setTop g) ((B.U.setTop { g with stack := rest }).pushFrame (.throwing q))) := by
  obtain ⟨mk, methM, hnamed, hmethM, hstM, habM⟩ := Cond.instanceMethod_spec hinst
  obtain ⟨m8, methM', cM, hn8, hmethM', -, -, -, -, -, -, hsigM⟩ := Cond.codeWith_spec hcode
  cases Option.some.inj (hn8.symm.trans hnamed)
  cases hmethM.symm.trans hmethM'
  obtain ⟨c2, r2, m2, q1, q2, q3, q4, kP, hkP, hkPi⟩ := Cond.selects_spec hsel
  cases hcls.symm.trans q1
  cases (State.methodFound?_of_named hnamed hy).symm.trans q2
  cases hnamed.symm.trans q3
  have hselP : selectMethod e.platform s.vm cellB.cls mk = .method mk := by rw [Launch.admits_selectMethod X.admits]; exact q4
  obtain ⟨vm₁, X₁, hstep₁⟩ := X.invokevirtual hexec hown hlink hnamed hmethM hstM hkP hkPi hy (a := b) (cell := cellB) hcell
    (fun z h => by rw [h] at hobj; cases hobj) hselP hmethM habM hkP hkPi (g := g) hg (argsL := argsL) (rest := rest) (hlen _ hsigM) hstack hdg
  rcases hK m meth c ⟨T.setVm vm₁, locs, cells, slots⟩ { g with stack := rest } (.invokevirtual index) mk (Value.ref b :: argsL).toArray X₁ hg hsize hdg hW (X₁.named hnamed) (hpre vm₁ X₁.warmed) with ⟨v, B, X', hpost, hsteps⟩ | ⟨q, B, X', hpost, hsteps⟩
  · exact Or.inl ⟨v, vm₁, B, X₁.warmed, X', hpost, fun target h => hstep₁ _ fun acts => by rw [doInvoke_state]; exact hsteps.trans h⟩
  · exact Or.inr ⟨q, vm₁, B, X₁.warmed, X', hpost, hstep₁ _ fun acts => by rw [doInvoke_state]; exact hsteps⟩
theorem vx_callSX (X : Stand p l e R s m args below meth c T locs cells slots) (hexec : p.tables.exec = Jvm.exec) {own : String} {index : Nat} {y : MethodName} {bytes : ByteArray} {maxL : Nat} {ret : Option FieldType} {hh : List (Nat × Nat × Nat × Nat)}
    (hown : s.vm.findClass own = some m.cls) (hlink : (Cond.methodLink own index y).before args s = true) (hstat : (Cond.static y).before args s = true) (hinit : (Cond.initialized y.cls).before args s = true)
    (hcode : (Cond.codeWith y bytes maxL ret hh).before args s = true) (hy : y.cls ≠ "java/lang/invoke/MethodHandle" ∧ y.cls ≠ "java/lang/invoke/VarHandle")
    {W9 : Nat} {Pre : Pt → Array Value → Prop} {Post : Pt → Array Value → Option Value → Pt → Prop} {PostX : Pt → Array Value → Addr → Pt → Prop} (hK : vx_Back l R p e below s args y 3 W9 Pre Post PostX)
    {g : JFrame} (hg : g.method = m) (hsize : g.locals.size = c.maxLocals) {argsL rest : List Value} (hlen : ∀ sig, parseMethodDescriptor y.desc = some sig → argsL.length = sig.parameters.length)
    (hstack : g.stack = argsL.reverse ++ rest) (hW : 2 * g.monitorRoom + (rest.map fun v => v.category).sum ≤ W9) (hdg : decode c.code g.pc = .ok (.invokestatic index, 3))
    (hpre : ∀ vm₁, s.WarmedH vm₁ → Pre ⟨T.setVm vm₁, locs, cells, slots⟩ argsL.toArray) :
    (∃ (v : Option Value) (vm₁ : Vm) (B : Pt), s.WarmedH vm₁ ∧ Stand p l e R s m args below meth c B.U B.locs B.cells B.slots ∧ Post ⟨T.setVm vm₁, locs, cells, slots⟩ argsL.toArray v B ∧
      ∀ target, Steps p.tables e below (B.U.setTop { g with pc := g.pc + 3, stack := v.toList ++ rest }) target → Steps p.tables e below (T.setTop g) target) ∨
    (∃ (q : Addr) (vm₁ : Vm) (B : Pt), s.WarmedH vm₁ ∧ Stand p l e R s m args below meth c B.U B.locs B.cells B.slots ∧ PostX ⟨T.setVm vm₁, locs, cells, slots⟩ argsL.toArray q B ∧
      Steps p.tables e below (T.setTop g) ((B.U.setTop { g with stack := rest }).pushFrame (.throwing q))) := by
  obtain ⟨mk, methM, cM, hnamed, hmethM, -, -, -, -, -, -, hsigM⟩ := Cond.codeWith_spec hcode
  have hstatic : methM.isStatic = true := Cond.static_spec hnamed hmethM hstat
  obtain ⟨kP, hkP, -⟩ := className_of_methodNamed hnamed
  have hinitP : kP.init = .initialized := Cond.initialized_spec (findClass_of_methodNamed hnamed) hkP hinit
  obtain ⟨vm₁, X₁, hstep₁⟩ := X.invokestatic hexec hown hlink hnamed hmethM hstatic hkP hinitP hy (g := g) hg (argsL := argsL) (rest := rest) (hlen _ hsigM) hstack hdg
  rcases hK m meth c ⟨T.setVm vm₁, locs, cells, slots⟩ { g with stack := rest } (.invokestatic index) mk argsL.toArray X₁ hg hsize hdg hW (X₁.named hnamed) (hpre vm₁ X₁.warmed) with ⟨v, B, X', hpost, hsteps⟩ | ⟨q, B, X', hpost, hsteps⟩
  · exact Or.inl ⟨v, vm₁, B, X₁.warmed, X', hpost, fun target h => hstep₁ _ fun acts => by rw [doInvoke_state]; exact hsteps.trans h⟩
  · exact Or.inr ⟨q, vm₁, B, X₁.warmed, X', hpost, hstep₁ _ fun acts => by rw [doInvoke_state]; exact hsteps⟩
theorem vx_callVW (X : Stand p l e R s m args below meth c T locs cells slots) (hexec : p.tables.exec = Jvm.exec) {own C : String} {index : Nat} {y : MethodName} {bytes : ByteArray} {maxL : Nat} {ret : Option FieldType} {hh : List (Nat × Nat × Nat × Nat)}
    (hown : s.vm.findClass own = some m.cls) (hlink : (Cond.methodLink own index y).before args s = true) (hinst : (Cond.instanceMethod y).before args s = true) (hsel : (Cond.selects C y y).before args s = true)
    (hcode : (Cond.codeWith y bytes maxL ret hh).before args s = true) (hy : y.cls ≠ "java/lang/invoke/MethodHandle" ∧ y.cls ≠ "java/lang/invoke/VarHandle")
    {W9 : Nat} {Pre : Pt → Array Value → Prop} {Post : Pt → Array Value → Option Value → Pt → Prop} (hK : Back l R p e below s args y 3 W9 Pre Post)
    {b : Addr} {cellB : Cell} (hcell : T.heap[b]? = some cellB) (hobj : cellB.vm.isStatics = false) (hcls : s.vm.findClass C = some cellB.cls)
    {g : JFrame} (hg : g.method = m) (hsize : g.locals.size = c.maxLocals) {argsL rest : List Value} (hlen : ∀ sig, parseMethodDescriptor y.desc = some sig → argsL.length = sig.parameters.length)
    (hstack : g.stack = argsL.reverse ++ .ref b :: rest) (hW : 2 * g.monitorRoom + (rest.map fun v => v.category).sum ≤ W9) (hdg : decode c.code g.pc = .ok (.invokevirtual index, 3))
    (hpre : ∀ vm₁, s.WarmedH vm₁ → Pre ⟨T.setVm vm₁, locs, cells, slots⟩ (Value.ref b :: argsL).toArray) :
    ∃ (v : Option Value) (vm₁ : Vm) (B : Pt), s.WarmedH vm₁ ∧ Stand p l e R s m args below meth c B.U B.locs B.cells B.slots ∧ Post ⟨T.setVm vm₁, locs, cells, slots⟩ (Value.ref b :: argsL).toArray v B ∧
      ∀ target, Steps p.tables e below (B.U.setTop { g with pc := g.pc + 3, stack := v.toList ++ rest }) target → Steps p.tables e below (T.setTop g) target := by
  obtain ⟨mk, methM, hnamed, hmethM, hstM, habM⟩ := Cond.instanceMethod_spec hinst
  obtain ⟨m8, methM', cM, hn8, hmethM', -, -, -, -, -, -, hsigM⟩ := Cond.codeWith_spec hcode
  cases Option.some.inj (hn8.symm.trans hnamed)
  cases hmethM.symm.trans hmethM'
  obtain ⟨c2, r2, m2, q1, q2, q3, q4, kP, hkP, hkPi⟩ := Cond.selects_spec hsel
  cases hcls.symm.trans q1
  cases (State.methodFound?_of_named hnamed hy).symm.trans q2
  cases hnamed.symm.trans q3
  have hselP : selectMethod e.platform s.vm cellB.cls mk = .method mk := by rw [Launch.admits_selectMethod X.admits]; exact q4
  obtain ⟨vm₁, X₁, hstep₁⟩ := X.invokevirtual hexec hown hlink hnamed hmethM hstM hkP hkPi hy (a := b) (cell := cellB) hcell
    (fun z h => by rw [h] at hobj; cases hobj) hselP hmethM habM hkP hkPi (g := g) hg (argsL := argsL) (rest := rest) (hlen _ hsigM) hstack hdg
  obtain ⟨v, B, X', hpost, hsteps⟩ := hK m meth c ⟨T.setVm vm₁, locs, cells, slots⟩ { g with stack := rest } (.invokevirtual index) mk (Value.ref b :: argsL).toArray X₁ hg hsize hdg hW (X₁.named hnamed) (hpre vm₁ X₁.warmed)
  exact ⟨v, vm₁, B, X₁.warmed, X', hpost, fun target h => hstep₁ _ fun acts => by rw [doInvoke_state]; exact hsteps.trans h⟩
abbrev vx_CVW (R : Room) (s : State) (args : Array Value) (own C : String) (index : Nat) (y : MethodName) (bytes : ByteArray) (maxL : Nat) (ret : Option FieldType) (hh : List (Nat × Nat × Nat × Nat)) (ws : List Cond) (rm : Room) (mc ms n : Nat) : Prop :=
  (rm.cells = mc ∧ rm.slots = ms ∧ rm.frames + 1 ≤ R.frames ∧ 8 + (maxL + 11) + rm.locals ≤ R.locals ∧ (∀ w ∈ ws, ∀ (a' : Array Value) (U : State), s.WarmedH U.vm → w.before a' U = true) ∧ Cond.codeWith y bytes maxL ret hh ∈ ws) ∧
  (Cond.codeWith y bytes maxL ret hh).before args s = true ∧ (Cond.initialized y.cls).before args s = true ∧ (y.cls ≠ "java/lang/invoke/MethodHandle" ∧ y.cls ≠ "java/lang/invoke/VarHandle") ∧
  (∀ sig, parseMethodDescriptor y.desc = some sig → n = sig.parameters.length) ∧ (Cond.methodLink own index y).before args s = true ∧ (Cond.instanceMethod y).before args s = true ∧ (Cond.selects C y y).before args s = true
theorem vx_cwVW {own C : String} {index maxL mc ms : Nat} {y : MethodName} {bytes : ByteArray} {ret : Option FieldType} {hh : List (Nat × Nat × Nat × Nat)} {Ts ws ws' : List Cond} {rm : Room} (n : Nat) (ht : ∀ w ∈ Ts, w.before args s = true) (hT : GoodIn Ts (wsV own index C y ws)) (hw : ws = Cond.codeWith y bytes maxL ret hh :: ws') (hrc : rm.cells = mc) (hrs : rm.slots = ms)
    (hd : y.cls = C ∧ y.cls ≠ "java/lang/invoke/MethodHandle" ∧ y.cls ≠ "java/lang/invoke/VarHandle" ∧ (parseMethodDescriptor y.desc).map (fun d => d.parameters.length) = some n) (hR : rm.frames + 1 ≤ R.frames ∧ 8 + (maxL + 11) + rm.locals ≤ R.locals) :
    vx_CVW R s args own C index y bytes maxL ret hh ws rm mc ms n := by
  obtain ⟨hC, hd⟩ := hd
  subst hC
  have ok : ∀ w ∈ wsV own index y.cls y ws, w.before args s = true := fun w h => ht w (hT w h).1
  have hG : GoodIn Ts ws := fun w h => hT w (by unfold wsV; exact List.mem_append_right _ h)
  have hc : Cond.codeWith y bytes maxL ret hh ∈ ws := by rw [hw]; exact List.mem_cons_self
  refine ⟨⟨hrc, hrs, hR.1, hR.2, pay_in ht hG, hc⟩, ht _ (hG _ hc).1, ok _ (by simp [wsV]), ⟨hd.1, hd.2.1⟩, fun sig h => ?_, ok _ (by simp [wsV]), ok _ (by simp [wsV]), ok _ (by simp [wsV])⟩
  have h2 := hd.2.2
  rw [h] at h2
  exact (Option.some.inj h2).symm
theorem vx_runVW {y : MethodName} {bytes cc : ByteArray} {maxL nL mc ms n index : Nat} {ret : Option FieldType} {hh : List (Nat × Nat × Nat × Nat)} {ws : List Cond} {rm : Room} {Pc : Array Value → State → Prop} {Qc : Array Value → State → Outcome → State → Prop} {free : Addr → Prop} {Ts : List Cond} {own C : String} {b : Addr} {As rest : List Value} {g : JFrame}
    (S : CallFix p m c cc nL s args Ts own) (hM : Met l y ws rm Pc Qc mc ms free) (cw : vx_CVW R s args own C index y bytes maxL ret hh ws rm mc ms n) (hp : PreV s H C b Pc As)
    (hg : g.method = m) (hn : As.length = n) (hsize : g.locals.size = nL) (hstack : g.stack = As.reverse ++ .ref b :: rest) (hW : 2 * g.monitorRoom + (rest.map fun v => v.category).sum ≤ 8) (hdg : decode cc g.pc = .ok (.invokevirtual index, 3)) (hf : cells + mc ≤ R.cells ∧ slots + ms ≤ R.slots) :
    va_Run p l e R s m args below meth c H locs cells slots mc ms g rest (Qc (Value.ref b :: As).toArray) free := by
  obtain ⟨⟨hrc, hrs, hfr, hlo, hws, hcw⟩, hcode, hini, hy, hlen, hl, hin, hse⟩ := cw
  have hK : Back l R p e below s args y 3 8 (PreOf R mc ms Pc) (PostOf Qc mc ms free) := va_backW (hh := hh) (bytes := bytes) (maxL := maxL) (ret := ret) hM hp.1 hrc hrs hfr hlo hws hcw (fun a' U hW => word_at hW (Or.inl (by first | rfl | simp [Cond.onTables, Cond.keeps, Cond.steady])) hini)
  obtain ⟨hx, hb, hml, ho, -⟩ := S
  obtain ⟨-, ⟨cellB, hcB, hoB, hclB⟩, hPc⟩ := hp
  intro T hT X
  obtain ⟨v, vm₁, ⟨U', l2, c2, s2⟩, hW₁, X', ⟨g', mk, t, L, e1, e2, hq, h1, hL, h2, h3⟩, st⟩ := vx_callVW X hx (C := C) (hh := hh) (bytes := bytes) (maxL := maxL) (ret := ret) ho hl hin hse hcode hy hK (by rw [hT]; exact hcB) hoB hclB hg (hsize.trans hml.symm) (argsL := As) (rest := rest) (fun sig h => hn.trans (hlen sig h)) hstack hW (by rw [hb]; exact hdg)
    (fun vm₁ hW₁ => ⟨hf.1, hf.2, hPc (T.setVm vm₁) hT hW₁⟩)
  dsimp only [Pt.U, Pt.locs, Pt.cells, Pt.slots] at X' e1 e2 h1 h2 h3 st
  subst h1; subst h2; subst h3
  exact ⟨v, (T.setVm vm₁).calling g' mk (Value.ref b :: As).toArray, t, U', L, hT, X', hL, e1, e2, hq, st⟩
section
variable {y : MethodName} {bytes cc : ByteArray} {maxL nL mc ms n index : Nat} {ret : Option FieldType} {ws : List Cond} {rm : Room} {Pc : Array Value → State → Prop} {Qc : Array Value → State → Outcome → State → Prop} {XC : String → State → State → Prop} {free : Addr → Prop} {Ts : List Cond} {own C : String} {b : Addr} {As rest : List Value} {g : JFrame}
theorem vx_runVX {hh : List (Nat × Nat × Nat × Nat)} (S : CallFix p m c cc nL s args Ts own) (hM : vx_Met l y ws rm Pc Qc XC mc ms free) (cw : vx_CVW R s args own C index y bytes maxL ret hh ws rm mc ms n) (hp : PreV s H C b Pc As)
    (hg : g.method = m) (hn : As.length = n) (hsize : g.locals.size = nL) (hstack : g.stack = As.reverse ++ .ref b :: rest) (hW : 2 * g.monitorRoom + (rest.map fun v => v.category).sum ≤ 8) (hdg : decode cc g.pc = .ok (.invokevirtual index, 3)) (hf : cells + mc ≤ R.cells ∧ slots + ms ≤ R.slots) :
    vx_Run p l e R s m args below meth c H locs cells slots mc ms g rest (Qc (Value.ref b :: As).toArray) XC free := by
  obtain ⟨⟨hrc, hrs, hfr, hlo, hws, hcw⟩, hcode, hini, hy, hlen, hl, hin, hse⟩ := cw
  have hK : vx_Back l R p e below s args y 3 8 (PreOf R mc ms Pc) (PostOf Qc mc ms free) (vx_Post XC mc ms free) := vx_backW (hh := hh) (bytes := bytes) (maxL := maxL) (ret := ret) hM hp.1 hrc hrs hfr hlo hws hcw (fun a' U hW => word_at hW (Or.inl (by first | rfl | simp [Cond.onTables, Cond.keeps, Cond.steady])) hini)
  obtain ⟨hx, hb, hml, ho, -⟩ := S
  obtain ⟨-, ⟨cellB, hcB, hoB, hclB⟩, hPc⟩ := hp
  intro T hT X
  rcases vx_callVX X hx (C := C) (hh := hh) (bytes := bytes) (maxL := maxL) (ret := ret) ho hl hin hse hcode hy hK (by rw [hT]; exact hcB) hoB hclB hg (hsize.trans hml.symm) (argsL := As) (rest := rest) (fun sig h => hn.trans (hlen sig h)) hstack hW (by rw [hb]; exact hdg)
    (fun vm₁ hW₁ => ⟨hf.1, hf.2, hPc (T.setVm vm₁) hT hW₁⟩) with ⟨v, vm₁, ⟨U', l2, c2, s2⟩, hW₁, X', ⟨g', mk, t, L, e1, e2, hq, h1, hL, h2, h3⟩, st⟩ | ⟨q, vm₁, ⟨U', l2, c2, s2⟩, hW₁, X', ⟨g', mk, t, L, E, ce, e1, e2, hq, hce, hcv, hcl, h1, hL, h2, h3⟩, st⟩
  · dsimp only [Pt.U, Pt.locs, Pt.cells, Pt.slots] at X' e1 e2 h1 h2 h3 st
    subst h1; subst h2; subst h3
    exact Or.inl ⟨v, (T.setVm vm₁).calling g' mk (Value.ref b :: As).toArray, t, U', L, hT, X', hL, e1, e2, hq, st⟩
  · dsimp only [Pt.U, Pt.locs, Pt.cells, Pt.slots] at X' e1 e2 h1 h2 h3 st hcl
    subst h1; subst h2; subst h3
    exact Or.inr ⟨q, (T.setVm vm₁).calling g' mk (Value.ref b :: As).toArray, t, U', L, E, ce, hT, X', hL, e1, e2, hq, hce, hcv, vx_cls hW₁ hcl, st⟩
theorem vx_runSX {hh : List (Nat × Nat × Nat × Nat)} (S : CallFix p m c cc nL s args Ts own) (hM : vx_Met l y ws rm Pc Qc XC mc ms free) (cw : vx_CSW R s args own index y bytes maxL ret hh ws rm mc ms n) (hp : PreS s H Pc As)
    (hg : g.method = m) (hn : As.length = n) (hsize : g.locals.size = nL) (hstack : g.stack = As.reverse ++ rest) (hW : 2 * g.monitorRoom + (rest.map fun v => v.category).sum ≤ 8) (hdg : decode cc g.pc = .ok (.invokestatic index, 3)) (hf : cells + mc ≤ R.cells ∧ slots + ms ≤ R.slots) :
    vx_Run p l e R s m args below meth c H locs cells slots mc ms g rest (Qc As.toArray) XC free := by
  obtain ⟨⟨hrc, hrs, hfr, hlo, hws, hcw⟩, hcode, hini, hy, hlen, hl, hstt⟩ := cw
  have hK : vx_Back l R p e below s args y 3 8 (PreOf R mc ms Pc) (PostOf Qc mc ms free) (vx_Post XC mc ms free) := vx_backW (hh := hh) (bytes := bytes) (maxL := maxL) (ret := ret) hM hp.1 hrc hrs hfr hlo hws hcw (fun a' U hW => word_at hW (Or.inl (by first | rfl | simp [Cond.onTables, Cond.keeps, Cond.steady])) hini)
  obtain ⟨hx, hb, hml, ho, -⟩ := S
  intro T hT X
  rcases vx_callSX X hx (hh := hh) (bytes := bytes) (maxL := maxL) (ret := ret) ho hl hstt hini hcode hy hK hg (hsize.trans hml.symm) (argsL := As) (rest := rest) (fun sig h => hn.trans (hlen sig h)) hstack hW (by rw [hb]; exact hdg)
    (fun vm₁ hW₁ => ⟨hf.1, hf.2, hp.2 (T.setVm vm₁) hT hW₁⟩) with ⟨v, vm₁, ⟨U', l2, c2, s2⟩, hW₁, X', ⟨g', mk, t, L, e1, e2, hq, h1, hL, h2, h3⟩, st⟩ | ⟨q, vm₁, ⟨U', l2, c2, s2⟩, hW₁, X', ⟨g', mk, t, L, E, ce, e1, e2, hq, hce, hcv, hcl, h1, hL, h2, h3⟩, st⟩
  · dsimp only [Pt.U, Pt.locs, Pt.cells, Pt.slots] at X' e1 e2 h1 h2 h3 st
    subst h1; subst h2; subst h3
    exact Or.inl ⟨v, (T.setVm vm₁).calling g' mk As.toArray, t, U', L, hT, X', hL, e1, e2, hq, st⟩
  · dsimp only [Pt.U, Pt.locs, Pt.cells, Pt.slots] at X' e1 e2 h1 h2 h3 st hcl
    subst h1; subst h2; subst h3
    exact Or.inr ⟨q, (T.setVm vm₁).calling g' mk As.toArray, t, U', L, E, ce, hT, X', hL, e1, e2, hq, hce, hcv, vx_cls hW₁ hcl, st⟩
end
end VXH
theorem vx_ofWH {l : Launch} {y : MethodName} {ws ws' : List Cond} {rm : Room} {Pc : Array Value → State → Prop} {Qc : Array Value → State → Outcome → State → Prop} {XC : String → State → State → Prop} {mc ms : Nat} {free : Addr → Prop} {cc : ByteArray} {maxL : Nat} {ret : Option FieldType} {hh : List (Nat × Nat × Nat × Nat)}
    (hy : plainName y.cls = true) (hw : ws = Cond.codeWith y cc maxL ret hh :: ws')
    (body : ∀ p e s m args below meth c s₁, BodyLoose p l y (headSpec ws rm) cc maxL ret e s m args below meth c s₁ → c.maxLocals = maxL → Pc args s →
      W p l e (headSpec ws rm).room s m args below meth c s.heap [] 0 0 (vx_MQ below Qc XC args s mc ms free) (entryFrame m args maxL)) : vx_Met l y ws rm Pc Qc XC mc ms free := by
  refine MetFree.of_bodyS (code := cc) (maxLocals := maxL) (ret := ret) hy ?_ ?_
  · intro args s m h hn
    obtain ⟨m9, meth, c, hn9, h1, h2, h3, h4, -, h5, h6, -⟩ := Cond.codeWith_spec (atoms_spec (ws := ws) h _ (by rw [hw]; exact List.mem_cons_self))
    cases hn.symm.trans hn9
    exact ⟨meth, c, h1, h2, h3, h4, h5, h6⟩
  · intro p e s m args below meth c s₁ B hml hP _
    have hh0 : s₁.heap = s.heap := by rw [B.state]; rfl
    obtain ⟨t, a1, o, b1, b2, b3⟩ := body p e s m args below meth c s₁ B hml hP s₁ hh0 (Stand.of_body B)
    exact ⟨t, o, a1, b1, b2, b3⟩
/-! ===== END ===== -/
end
section
/-! an interpreter of the instructions that class, reference and law use, over a heap of plain numbers; what it comes to is proved of the machine in the parts behind -/
/-- a value: an int, a reference (0: null; else the address and one), a long that is an int's -/
abbrev bi_V : Type := Int32 ⊕ (Nat ⊕ Int32)
abbrev bi_L : Type := List (Nat × bi_V)
/-- kinds (tag, length) by address; int fields and reference fields by class, field, address; int arrays' and reference arrays' contents; the next address; cells and slots made -/
abbrev bi_H : Type := (Nat → Nat × Nat) × (Nat → Nat → Nat → Int32) × (Nat → Nat → Nat → Nat) × (Nat → Nat → Int32) × (Nat → Nat → Nat) × Nat × Nat × Nat
def bi_k (h : bi_H) : Nat → Nat × Nat := h.1
def bi_fi (h : bi_H) : Nat → Nat → Nat → Int32 := h.2.1
def bi_fr (h : bi_H) : Nat → Nat → Nat → Nat := h.2.2.1
def bi_ai (h : bi_H) : Nat → Nat → Int32 := h.2.2.2.1
def bi_ar (h : bi_H) : Nat → Nat → Nat := h.2.2.2.2.1
def bi_nx (h : bi_H) : Nat := h.2.2.2.2.2.1
def bi_nc (h : bi_H) : Nat := h.2.2.2.2.2.2.1
def bi_ns (h : bi_H) : Nat := h.2.2.2.2.2.2.2
def bi_sfi (h : bi_H) (c k a : Nat) (v : Int32) : bi_H := (bi_k h, (fun c' k' a' => if c' = c ∧ k' = k ∧ a' = a then v else bi_fi h c' k' a'), bi_fr h, bi_ai h, bi_ar h, bi_nx h, bi_nc h, bi_ns h)
def bi_sfr (h : bi_H) (c k a : Nat) (v : Nat) : bi_H := (bi_k h, bi_fi h, (fun c' k' a' => if c' = c ∧ k' = k ∧ a' = a then v else bi_fr h c' k' a'), bi_ai h, bi_ar h, bi_nx h, bi_nc h, bi_ns h)
def bi_sai (h : bi_H) (a j : Nat) (v : Int32) : bi_H := (bi_k h, bi_fi h, bi_fr h, (fun a' j' => if a' = a ∧ j' = j then v else bi_ai h a' j'), bi_ar h, bi_nx h, bi_nc h, bi_ns h)
def bi_sar (h : bi_H) (a j : Nat) (v : Nat) : bi_H := (bi_k h, bi_fi h, bi_fr h, bi_ai h, (fun a' j' => if a' = a ∧ j' = j then v else bi_ar h a' j'), bi_nx h, bi_nc h, bi_ns h)
/-- a new cell of kind kd, its contents 0, null; s slots -/
def bi_new (h : bi_H) (kd : Nat × Nat) (s : Nat) : bi_H := ((fun a => if a = bi_nx h then kd else bi_k h a), (fun c k a => if a = bi_nx h then 0 else bi_fi h c k a), (fun c k a => if a = bi_nx h then 0 else bi_fr h c k a), (fun a j => if a = bi_nx h then 0 else bi_ai h a j), (fun a j => if a = bi_nx h then 0 else bi_ar h a j), bi_nx h + 1, bi_nc h + 1, bi_ns h + s)
/-- new int[n][m]: the outer array, then its rows -/
def bi_new2 (h : bi_H) (n m : Nat) : bi_H := ((fun a => if a = bi_nx h then (5, n) else if bi_nx h < a ∧ a ≤ bi_nx h + n then (1, m) else bi_k h a), (fun c k a => if bi_nx h ≤ a ∧ a ≤ bi_nx h + n then 0 else bi_fi h c k a), (fun c k a => if bi_nx h ≤ a ∧ a ≤ bi_nx h + n then 0 else bi_fr h c k a), (fun a j => if bi_nx h ≤ a ∧ a ≤ bi_nx h + n then 0 else bi_ai h a j), (fun a j => if a = bi_nx h then (if j < n then bi_nx h + 1 + j else 0) else if bi_nx h < a ∧ a ≤ bi_nx h + n then 0 else bi_ar h a j), bi_nx h + n + 1, bi_nc h + n + 1, bi_ns h + n + n * m)
def bi_st (L : bi_L) (i : Nat) (v : bi_V) : bi_L := (i, v) :: L.filter (fun q => !(q.1 == i))
def bi_w (v : bi_V) : Nat := match v with | .inr (.inr _) => 2 | _ => 1
def bi_ldi (L : bi_L) (i : Nat) (st : List bi_V) (h : bi_H) : Option (bi_L × List bi_V × bi_H) := match L.lookup i with
  | some (.inl x) => some (L, .inl x :: st, h)
  | _ => none
def bi_lda (L : bi_L) (i : Nat) (st : List bi_V) (h : bi_H) : Option (bi_L × List bi_V × bi_H) := match L.lookup i with
  | some (.inr (.inl a)) => some (L, .inr (.inl a) :: st, h)
  | _ => none
def bi_sti (L : bi_L) (i : Nat) (st : List bi_V) (h : bi_H) : Option (bi_L × List bi_V × bi_H) := match st with
  | .inl x :: st => some (bi_st L i (.inl x), st, h)
  | _ => none
def bi_sta (L : bi_L) (i : Nat) (st : List bi_V) (h : bi_H) : Option (bi_L × List bi_V × bi_H) := match st with
  | .inr (.inl a) :: st => some (bi_st L i (.inr (.inl a)), st, h)
  | _ => none
/-- an index within a length -/
def bi_in (j : Int32) (n : Nat) : Prop := ¬ j < 0 ∧ j.toNatClampNeg < n
theorem bi_in_dec (j : Int32) (n : Nat) : bi_in j n ↔ ¬ j < 0 ∧ j.toNatClampNeg < n := Iff.rfl
def bi_op2 (f : Int32 → Int32 → Int32) (L : bi_L) (st : List bi_V) (h : bi_H) : Option (bi_L × List bi_V × bi_H) := match st with
  | .inl y :: .inl x :: st => some (L, .inl (f x y) :: st, h)
  | _ => none
/-- behind a call -/
def bi_ret (L : bi_L) (rest : List bi_V) (o : Option (Option bi_V × bi_H)) : Option (bi_L × List bi_V × bi_H) := match o with
  | some (v, h) => some (L, v.toList ++ rest, h)
  | none => none
def bi_sum (st : List bi_V) : Nat := (st.map bi_w).sum
/-- a call with a receiver of class c -/
def bi_callo (cf : Nat → List bi_V → bi_H → Option (Option bi_V × bi_H)) (mi n c : Nat) (L : bi_L) (st : List bi_V) (h : bi_H) : Option (bi_L × List bi_V × bi_H) := match st.drop n with
  | .inr (.inl a) :: rest => if (bi_k h a).1 = 10 + c ∧ bi_sum rest ≤ 8 ∧ bi_sum (st.take n) = n then bi_ret L rest (cf mi (.inr (.inl a) :: (st.take n).reverse) h) else none
  | _ => none
def bi_calls (cf : Nat → List bi_V → bi_H → Option (Option bi_V × bi_H)) (mi n : Nat) (L : bi_L) (st : List bi_V) (h : bi_H) : Option (bi_L × List bi_V × bi_H) :=
  if n ≤ st.length ∧ bi_sum (st.drop n) ≤ 8 ∧ bi_sum (st.take n) = n then bi_ret L (st.drop n) (cf mi (st.take n).reverse h) else none
abbrev bi_R : Type := Nat × Nat × Nat × Nat
abbrev bi_I : Type := Instr × bi_R
/-- one instruction; r: what its pool entry is -/
def bi_x (cf : Nat → List bi_V → bi_H → Option (Option bi_V × bi_H)) (i : Instr) (r : bi_R) (L : bi_L) (st : List bi_V) (h : bi_H) : Option (bi_L × List bi_V × bi_H) :=
  match i with
  | .iconst n => some (L, .inl (Int32.ofInt n) :: st, h)
  | .bipush n => some (L, .inl (Int32.ofInt n) :: st, h)
  | .sipush n => some (L, .inl (Int32.ofInt n) :: st, h)
  | .ldc _ => some (L, .inl (Int32.ofNat r.1) :: st, h)
  | .ldc_w _ => some (L, .inl (Int32.ofNat r.1) :: st, h)
  | .aconst_null => some (L, .inr (.inl 0) :: st, h)
  | .iload_n n => bi_ldi L n.val st h
  | .iload n => bi_ldi L n st h
  | .aload_n n => bi_lda L n.val st h
  | .aload n => bi_lda L n st h
  | .istore_n n => bi_sti L n.val st h
  | .istore n => bi_sti L n st h
  | .astore_n n => bi_sta L n.val st h
  | .astore n => bi_sta L n st h
  | .iinc n v => (match L.lookup n with
    | some (.inl x) => some (bi_st L n (.inl (x + Int32.ofInt v)), st, h)
    | _ => none)
  | .iadd => bi_op2 (fun x y => x + y) L st h
  | .isub => bi_op2 (fun x y => x - y) L st h
  | .imul => bi_op2 (fun x y => x * y) L st h
  | .iand => bi_op2 (fun x y => x &&& y) L st h
  | .ixor => bi_op2 (fun x y => x ^^^ y) L st h
  | .idiv => (match st with
    | .inl y :: .inl x :: st => if y = 0 then none else some (L, .inl (x / y) :: st, h)
    | _ => none)
  | .irem => (match st with
    | .inl y :: .inl x :: st => if y = 0 then none else some (L, .inl (x - x / y * y) :: st, h)
    | _ => none)
  | .i2l => (match st with
    | .inl x :: st => some (L, .inr (.inr x) :: st, h)
    | _ => none)
  | .lcmp => (match st with
    | .inr (.inr y) :: .inr (.inr x) :: st => some (L, .inl (if y < x then 1 else if x = y then 0 else -1) :: st, h)
    | _ => none)
  | .dup => (match st with
    | v :: st => if bi_w v = 1 then some (L, v :: v :: st, h) else none
    | _ => none)
  | .dup2 => (match st with
    | v :: w :: st => if bi_w v = 1 ∧ bi_w w = 1 then some (L, v :: w :: v :: w :: st, h) else none
    | _ => none)
  | .getfield _ => (match st with
    | .inr (.inl a) :: st => if (bi_k h a).1 = 10 + r.1 then some (L, (if r.2.2.1 = 1 then .inr (.inl (bi_fr h r.1 r.2.1 a)) else .inl (bi_fi h r.1 r.2.1 a)) :: st, h) else none
    | _ => none)
  | .putfield _ => (match st with
    | .inl x :: .inr (.inl a) :: st => if (bi_k h a).1 = 10 + r.1 ∧ (r.2.2.1 = 0 ∨ (r.2.2.1 = 2 ∧ (x = 0 ∨ x = 1))) then some (L, st, bi_sfi h r.1 r.2.1 a x) else none
    | .inr (.inl b) :: .inr (.inl a) :: st => if (bi_k h a).1 = 10 + r.1 ∧ r.2.2.1 = 1 then some (L, st, bi_sfr h r.1 r.2.1 a b) else none
    | _ => none)
  | .iaload => (match st with
    | .inl j :: .inr (.inl a) :: st => if ((bi_k h a).1 = 1 ∨ (bi_k h a).1 = 4) ∧ ¬ j < 0 ∧ j.toNatClampNeg < (bi_k h a).2 then some (L, .inl (bi_ai h a j.toNatClampNeg) :: st, h) else none
    | _ => none)
  | .baload => (match st with
    | .inl j :: .inr (.inl a) :: st => if (bi_k h a).1 = 2 ∧ ¬ j < 0 ∧ j.toNatClampNeg < (bi_k h a).2 then some (L, .inl (bi_ai h a j.toNatClampNeg) :: st, h) else none
    | _ => none)
  | .laload => (match st with
    | .inl j :: .inr (.inl a) :: st => if (bi_k h a).1 = 3 ∧ ¬ j < 0 ∧ j.toNatClampNeg < (bi_k h a).2 then some (L, .inr (.inr (bi_ai h a j.toNatClampNeg)) :: st, h) else none
    | _ => none)
  | .aaload => (match st with
    | .inl j :: .inr (.inl a) :: st => if ((bi_k h a).1 = 5 ∨ (40 ≤ (bi_k h a).1 ∧ (bi_k h a).1 < 53)) ∧ ¬ j < 0 ∧ j.toNatClampNeg < (bi_k h a).2 then some (L, .inr (.inl (bi_ar h a j.toNatClampNeg)) :: st, h) else none
    | _ => none)
  | .iastore => (match st with
    | .inl x :: .inl j :: .inr (.inl a) :: st => if (bi_k h a).1 = 1 ∧ ¬ j < 0 ∧ j.toNatClampNeg < (bi_k h a).2 then some (L, st, bi_sai h a j.toNatClampNeg x) else none
    | _ => none)
  | .bastore => (match st with
    | .inl x :: .inl j :: .inr (.inl a) :: st => if (bi_k h a).1 = 2 ∧ (x = 0 ∨ x = 1) ∧ ¬ j < 0 ∧ j.toNatClampNeg < (bi_k h a).2 then some (L, st, bi_sai h a j.toNatClampNeg x) else none
    | _ => none)
  | .lastore => (match st with
    | .inr (.inr x) :: .inl j :: .inr (.inl a) :: st => if (bi_k h a).1 = 3 ∧ ¬ j < 0 ∧ j.toNatClampNeg < (bi_k h a).2 then some (L, st, bi_sai h a j.toNatClampNeg x) else none
    | _ => none)
  | .aastore => (match st with
    | .inr (.inl b) :: .inl j :: .inr (.inl a) :: st => if (40 ≤ (bi_k h a).1 ∧ (bi_k h a).1 < 53) ∧ (b = 0 ∨ (bi_k h b).1 + 30 = (bi_k h a).1) ∧ ¬ j < 0 ∧ j.toNatClampNeg < (bi_k h a).2 then some (L, st, bi_sar h a j.toNatClampNeg b) else none
    | _ => none)
  | .arraylength => (match st with
    | .inr (.inl a) :: st => if (1 ≤ (bi_k h a).1 ∧ (bi_k h a).1 ≤ 5) ∨ (40 ≤ (bi_k h a).1 ∧ (bi_k h a).1 < 53) then some (L, .inl (Int32.ofNat (bi_k h a).2) :: st, h) else none
    | _ => none)
  | .newarray t => (match st with
    | .inl n :: st => if ¬ n < 0 ∧ n.toNatClampNeg ≤ 1000000 ∧ (t = .int ∨ t = .boolean ∨ t = .long) then some (L, .inr (.inl (bi_nx h)) :: st, bi_new h (if t = .int then 1 else if t = .boolean then 2 else 3, n.toNatClampNeg) n.toNatClampNeg) else none
    | _ => none)
  | .anewarray _ => (match st with
    | .inl n :: st => if ¬ n < 0 ∧ n.toNatClampNeg ≤ 1000000 then some (L, .inr (.inl (bi_nx h)) :: st, bi_new h (40 + r.1, n.toNatClampNeg) n.toNatClampNeg) else none
    | _ => none)
  | .multianewarray _ _ => (match st with
    | .inl m :: .inl n :: st => if ¬ n < 0 ∧ n.toNatClampNeg ≤ 1000 ∧ ¬ m < 0 ∧ m.toNatClampNeg ≤ 100000 then some (L, .inr (.inl (bi_nx h)) :: st, bi_new2 h n.toNatClampNeg m.toNatClampNeg) else none
    | _ => none)
  | .new _ => some (L, .inr (.inl (bi_nx h)) :: st, bi_new h (10 + r.1, 0) r.2.1)
  | .invokestatic _ => bi_calls cf r.1 r.2.1 L st h
  | .invokevirtual _ => bi_callo cf r.1 r.2.1 r.2.2.1 L st h
  | .invokespecial _ => if r.1 = 9999 then (match st with
    | .inr (.inl a) :: st => if (bi_k h a).1 ≠ 0 ∧ bi_sum st ≤ 8 then some (L, st, h) else none
    | _ => none) else bi_callo cf r.1 r.2.1 r.2.2.1 L st h
  | _ => none
def bi_xs (cf : Nat → List bi_V → bi_H → Option (Option bi_V × bi_H)) : List bi_I → bi_L → List bi_V → bi_H → Option (bi_L × List bi_V × bi_H)
  | [], L, st, h => some (L, st, h)
  | i :: is, L, st, h => match bi_x cf i.1 i.2 L st h with
    | none => none
    | some q => bi_xs cf is q.1 q.2.1 q.2.2
/-- a block: where it begins, its instructions, how it ends, where it goes on -/
abbrev bi_K : Type := Nat × List bi_I × bi_I × List Nat
abbrev bi_P : Type := Nat → Nat → Option bi_K
abbrev bi_O : Type := Option bi_V ⊕ Nat
def bi_c (c : ClassFile.Cond) (x y : Int32) : Bool := match c with
  | .eq => decide (x = y)
  | .ne => decide (¬ x = y)
  | .lt => decide (x < y)
  | .ge => decide (y ≤ x)
  | .gt => decide (y < x)
  | .le => decide (x ≤ y)
def bi_loc (as : List bi_V) : bi_L := as.zipIdx.map (fun q => (q.2, q.1))
/-- the end of a block: an answer, or the next block -/
def bi_t (cf : Nat → List bi_V → bi_H → Option (bi_O × bi_H)) (t : bi_I) (bs : List Nat) (L : bi_L) (st : List bi_V) (h : bi_H) : Option ((bi_O × bi_H) ⊕ (Nat × bi_L × List bi_V × bi_H)) :=
  match t.1 with
  | .nop => some (.inr (bs.getD 0 0, L, st, h))
  | .goto _ => some (.inr (bs.getD 0 0, L, st, h))
  | .ifCond c _ => (match st with
    | .inl x :: st => some (.inr (if bi_c c x 0 = true then bs.getD 0 0 else bs.getD 1 0, L, st, h))
    | _ => none)
  | .if_icmp c _ => (match st with
    | .inl y :: .inl x :: st => some (.inr (if bi_c c x y = true then bs.getD 0 0 else bs.getD 1 0, L, st, h))
    | _ => none)
  | .ifnull _ => (match st with
    | .inr (.inl a) :: st => some (.inr (if a = 0 then bs.getD 0 0 else bs.getD 1 0, L, st, h))
    | _ => none)
  | .ifnonnull _ => (match st with
    | .inr (.inl a) :: st => some (.inr (if a = 0 then bs.getD 1 0 else bs.getD 0 0, L, st, h))
    | _ => none)
  | .tableswitch _ lo hi _ => (match st with
    | .inl x :: st => some (.inr (if x.toInt < lo ∨ hi < x.toInt then bs.getD 0 0 else bs.getD ((x.toInt - lo).toNat + 1) 0, L, st, h))
    | _ => none)
  | .ireturn => (match st with
    | [.inl x] => if t.2.1 = 0 ∨ x = 0 ∨ x = 1 then some (.inl (.inl (some (.inl x)), h)) else none
    | _ => none)
  | .areturn => (match st with
    | [.inr (.inl a)] => some (.inl (.inl (some (.inr (.inl a))), h))
    | _ => none)
  | .return_ => (match st with
    | [] => some (.inl (.inl none, h))
    | _ => none)
  | .athrow => (match st with
    | [] => some (.inl (.inr t.2.1, bi_new h (0, 0) 6))
    | _ => none)
  | .invokevirtual _ => (match st.drop t.2.2.1 with
    | .inr (.inl a) :: rest => if (bi_k h a).1 = 10 + t.2.2.2.1 ∧ bi_sum rest ≤ 8 ∧ bi_sum (st.take t.2.2.1) = t.2.2.1 then (match cf t.2.1 (.inr (.inl a) :: (st.take t.2.2.1).reverse) h with
      | some (.inl v, h') => some (.inr (bs.getD 0 0, L, v.toList ++ rest, h'))
      | some (.inr e, h') => if e + 1 < bs.length then some (.inr (bs.getD (e + 1) 0, L.filter (fun q => !(q.1 == t.2.2.2.2)), [], h')) else none
      | none => none) else none
    | _ => none)
  | _ => none
/-- n blocks, calls' blocks among them -/
def bi_run (P : bi_P) : Nat → Nat → Nat → bi_L → List bi_V → bi_H → Option (bi_O × bi_H)
  | 0, _, _, _, _, _ => none
  | n + 1, mi, b, L, st, h => match P mi b with
    | none => none
    | some q => match bi_xs (fun m as h => match bi_run P n m 0 (bi_loc as) [] h with
        | some (.inl v, h') => some (v, h')
        | _ => none) q.2.1 L st h with
      | none => none
      | some z => match bi_t (fun m as h => bi_run P n m 0 (bi_loc as) [] h) q.2.2.1 q.2.2.2 z.1 z.2.1 z.2.2 with
        | none => none
        | some (.inl o) => some o
        | some (.inr w) => bi_run P n mi w.1 w.2.1 w.2.2.1 w.2.2.2
end
section
/-! the interpreter's heap and the machine's: what it is that they agree -/
def bi_tr (a : Nat) : Value := match a with
  | 0 => .null
  | a + 1 => .ref a
def bi_tv (v : bi_V) : Value := match v with
  | .inl x => .int x
  | .inr (.inl a) => bi_tr a
  | .inr (.inr x) => .long x.toInt64
def bi_ft (c k : Nat) : Nat := match vwCl[c]? with
  | some q => if (q.2.1 k).2.2.1 = "I" then 0 else if (q.2.1 k).2.2.1 = "Z" then 2 else 1
  | none => 0
def bi_fv (h : bi_H) (c k a : Nat) : Value := if bi_ft c k = 1 then bi_tr (bi_fr h c k a) else .int (bi_fi h c k a)
def bi_aty (t : Nat) : Option FieldType := if t = 1 ∨ t = 4 then some .int else if t = 2 then some .boolean else if t = 3 then some .long else if t = 5 then some (.array .int) else if 40 ≤ t then (vwCl[t - 40]?).map (fun q => .object q.1) else none
def bi_av (h : bi_H) (t a j : Nat) : Value := if t = 3 then .long (bi_ai h a j).toInt64 else if t = 5 ∨ 40 ≤ t then bi_tr (bi_ar h a j) else .int (bi_ai h a j)
/-- words that stay true as the machine goes on -/
def bi_ok (w : Cond) : Bool := match w with
  | .fieldLinkNest .. => true
  | .methodLinkNest .. => true
  | .arrayOver (.object _) => true
  | .arrayOver (.array _) => true
  | w => goodWord w || (w.onTables && w.keepsFace)
/-- the texts of the class's exceptions, by their pool entries -/
def bi_strs : List (Nat × String) := [(238, "no such item"), (247, "no such place"), (251, "the site is down"), (262, "no such snapshot or place"), (267, "no such volume"), (272, "no such snapshots"), (332, "no such lost place")]
def bi_wd (B0 : Nat) (Hb : Heap) (U : State) : Prop := (∀ w ∈ lw_tbl, bi_ok w = true → ∀ a : Array Value, w.before a U = true) ∧ (∀ q ∈ bi_strs, ∃ sa, vk_R RX9 q.1 q.2 sa U) ∧ vx_Zq Bundle.tN "UNASSIGNED_STACK" Bundle.steD (fun q => B0 ≤ q) U Hb ∧ vx_Zq Bundle.tN "SUPPRESSED_SENTINEL" Bundle.listD (fun q => B0 ≤ q) U Hb ∧ va_Nc "java/lang/IllegalStateException" "java/lang/IndexOutOfBoundsException" U
theorem bi_wd1 {s U : State} (hW : s.WarmedH U.vm) {w : Cond} (hw : bi_ok w = true) (h : ∀ a : Array Value, w.before a s = true) (a : Array Value) : w.before a U = true := by
  have good : (goodWord w || (w.onTables && w.keepsFace)) = true → w.before a U = true := fun hg => by
    simp only [Bool.or_eq_true, Bool.and_eq_true] at hg
    rcases hg with hg | ⟨h1, h2⟩
    · exact word_at hW (good_of_word hg) (h a)
    · exact va_tabs h1 (rfl : (s.setVm U.vm).vm = U.vm) (Cond.before_shiftedFace (State.Shifted.of_warmed hW) w h2 (h a))
  cases w with
  | fieldLinkNest q1 q2 q3 q4 q5 q6 => exact va_Nw.use rfl (va_Nw.warmF hW (h #[]))
  | methodLinkNest q1 q2 q3 q4 => exact va_Nw.use rfl (va_Nw.warmM hW (h #[]))
  | arrayOver ty =>
    cases ty with
    | object C => exact va_AO.moved hW.alike (h #[])
    | array t => exact over_moved hW.alike (h #[])
    | _ => exact good hw
  | _ => exact good hw
theorem bi_wd.moved {B0 : Nat} {Hb : Heap} {s U : State} (hW : s.WarmedH U.vm) (h : bi_wd B0 Hb s) : bi_wd B0 Hb U := ⟨fun w hw ho a => bi_wd1 hW ho (h.1 w hw ho) a, fun q hq => (h.2.1 q hq).imp (fun _ z => vk_R.warm hW z), vx_Zq.moved hW.alike h.2.2.1, vx_Zq.moved hW.alike h.2.2.2.1, va_Nc.moved hW.alike h.2.2.2.2⟩
/-- an object's cell -/
def bi_co (D : va_G) (h : bi_H) (H : Heap) (a c : Nat) : Prop := ∃ q, vwCl[c]? = some q ∧ t_OB a (D.1 c) q.2.2 (D.2 c) H (fun k => bi_fv h c k (a + 1))
/-- an array's cell -/
def bi_ca (U : State) (h : bi_H) (H : Heap) (a t n : Nat) : Prop := ∀ ty, bi_aty t = some ty → ∃ cell : Cell, H[a]? = some cell ∧ U.isArrayOf cell ty ∧ cell.vm ≠ .unknown ∧ cell.slots.size = n ∧ (∀ j, j < n → cell.slots[j]? = some (bi_av h t (a + 1) j)) ∧ (∀ C, ty = .object C → ∃ (kA : Class) (comp : ClassId), U.vm.classes[cell.cls]? = some kA ∧ kA.kind = .array comp (.object C) ∧ U.vm.findClass C = some comp)
def bi_cell (D : va_G) (U : State) (h : bi_H) (H : Heap) (a : Nat) : Prop := (∀ c, (bi_k h (a + 1)).1 = 10 + c → c < 13 → bi_co D h H a c) ∧ bi_ca U h H a (bi_k h (a + 1)).1 (bi_k h (a + 1)).2
def bi_rp (D : va_G) (B0 : Nat) (Hb : Heap) (h : bi_H) (U : State) (H : Heap) : Prop :=
  (H.size + 1 = bi_nx h ∧ B0 ≤ H.size ∧ ∀ q, q < B0 → H[q]? = Hb[q]?) ∧ va_K D vwCl [] U ∧ bi_wd B0 Hb U ∧ (bi_k h 0).1 = 0 ∧ (∀ a, (bi_k h (a + 1)).1 ≠ 0 → a < H.size ∧ ((bi_k h (a + 1)).1 ≠ 4 → B0 ≤ a)) ∧ ∀ a, bi_cell D U h H a
theorem bi_ca.moved {u U : State} (hvm : u.vm.Alike U.vm) {h : bi_H} {H : Heap} {a t n : Nat} (hc : bi_ca u h H a t n) : bi_ca U h H a t n := by
  intro ty hty
  obtain ⟨cell, h1, h2, h3, h4, h5, h6⟩ := hc ty hty
  refine ⟨cell, h1, State.isArrayOf_alike hvm h2, h3, h4, h5, fun C hC => ?_⟩
  obtain ⟨kA, comp, k1, k2, k3⟩ := h6 C hC
  obtain ⟨k', hk', he⟩ := hvm.2.2 _ _ k1
  exact ⟨k', comp, hk', by rw [he]; exact k2, by rw [hvm.findClass]; exact k3⟩
theorem bi_rp.moved {D : va_G} {B0 : Nat} {Hb : Heap} {h : bi_H} {s U : State} {H : Heap} (hW : s.WarmedH U.vm) (hr : bi_rp D B0 Hb h s H) : bi_rp D B0 Hb h U H := by
  obtain ⟨h1, h2, h3, h4, h5, h6⟩ := hr
  exact ⟨h1, va_K.moved hW.alike h2, h3.moved hW, h4, h5, fun a => ⟨(h6 a).1, (h6 a).2.moved hW.alike⟩⟩
/-- the tables of the classes -/
def bi_ty (c : Nat) : Nat → FieldType := match c with
  | 0 => tyX0
  | 1 => tyX1
  | 2 => tyX2
  | 3 => tyX3
  | 4 => tyX4
  | 5 => tyX5
  | 6 => tyX6
  | 7 => tyX7
  | 8 => tyX8
  | 9 => tyX9
  | 10 => tyX10
  | 11 => tyX11
  | _ => tyX12
theorem bi_in0 : ∀ w ∈ u_ws RX0 TX0 4, w ∈ lw_tbl := by decide +kernel
theorem bi_in1 : ∀ w ∈ u_ws RX1 TX1 2, w ∈ lw_tbl := by decide +kernel
theorem bi_in2 : ∀ w ∈ u_ws RX2 TX2 9, w ∈ lw_tbl := by decide +kernel
theorem bi_in3 : ∀ w ∈ u_ws RX3 TX3 4, w ∈ lw_tbl := by decide +kernel
theorem bi_in4 : ∀ w ∈ u_ws RX4 TX4 4, w ∈ lw_tbl := by decide +kernel
theorem bi_in5 : ∀ w ∈ u_ws RX5 TX5 7, w ∈ lw_tbl := by decide +kernel
theorem bi_in6 : ∀ w ∈ u_ws RX6 TX6 20, w ∈ lw_tbl := by decide +kernel
theorem bi_in7 : ∀ w ∈ u_ws RX7 TX7 11, w ∈ lw_tbl := by decide +kernel
theorem bi_in8 : ∀ w ∈ u_ws RX8 TX8 7, w ∈ lw_tbl := by decide +kernel
theorem bi_in9 : ∀ w ∈ u_ws RX9 TX9 10, w ∈ lw_tbl := by decide +kernel
theorem bi_in10 : ∀ w ∈ u_ws RX10 TX10 11, w ∈ lw_tbl := by decide +kernel
theorem bi_in11 : ∀ w ∈ u_ws RX11 TX11 35, w ∈ lw_tbl := by decide +kernel
theorem bi_in12 : ∀ w ∈ u_ws RX12 TX12 39, w ∈ lw_tbl := by decide +kernel
/-- what the tables say of a class -/
def bi_cok (c : Nat) (q : vw_C) : Prop := (∀ w ∈ u_ws q.1 q.2.1 q.2.2, w ∈ lw_tbl) ∧ (∀ k, k < q.2.2 → parseFieldDescriptor (q.2.1 k).2.2.1 = some (bi_ty c k)) ∧ (∀ a, a < q.2.2 → ∀ b, b < q.2.2 → a ≠ b → (q.2.1 a).2.1 ≠ (q.2.1 b).2.1)
theorem bi_cok_of : ∀ (c : Nat) (q : vw_C), vwCl[c]? = some q → bi_cok c q
  | 0, _, h => by cases h; exact ⟨bi_in0, tyX0_ok, nmX0⟩
  | 1, _, h => by cases h; exact ⟨bi_in1, tyX1_ok, nmX1⟩
  | 2, _, h => by cases h; exact ⟨bi_in2, tyX2_ok, nmX2⟩
  | 3, _, h => by cases h; exact ⟨bi_in3, tyX3_ok, nmX3⟩
  | 4, _, h => by cases h; exact ⟨bi_in4, tyX4_ok, nmX4⟩
  | 5, _, h => by cases h; exact ⟨bi_in5, tyX5_ok, nmX5⟩
  | 6, _, h => by cases h; exact ⟨bi_in6, tyX6_ok, nmX6⟩
  | 7, _, h => by cases h; exact ⟨bi_in7, tyX7_ok, nmX7⟩
  | 8, _, h => by cases h; exact ⟨bi_in8, tyX8_ok, nmX8⟩
  | 9, _, h => by cases h; exact ⟨bi_in9, tyX9_ok, nmX9⟩
  | 10, _, h => by cases h; exact ⟨bi_in10, tyX10_ok, nmX10⟩
  | 11, _, h => by cases h; exact ⟨bi_in11, tyX11_ok, nmX11⟩
  | 12, _, h => by cases h; exact ⟨bi_in12, tyX12_ok, nmX12⟩
  | c + 13, _, h => by simp at h
/-- a field's type by its number, and what may be written into it -/
theorem bi_ty_i : ∀ c, c < 13 → ∀ k, k < 39 → bi_ft c k = 0 → bi_ty c k = .int := by decide +kernel
theorem bi_ty_z : ∀ c, c < 13 → ∀ k, k < 39 → bi_ft c k = 2 → bi_ty c k = .boolean := by decide +kernel
def bi_isr (t : FieldType) : Bool := match t with
  | .object _ => true
  | .array _ => true
  | _ => false
theorem bi_ty_r : ∀ c, c < 13 → ∀ k, k < 39 → bi_ft c k = 1 → bi_isr (bi_ty c k) = true := by decide +kernel
theorem bi_nar_r {t : FieldType} (h : bi_isr t = true) (a : Nat) : narrow t (bi_tr a) = bi_tr a ∧ fits t (bi_tr a) = true := by
  cases t <;> first | (simp [bi_isr] at h; done) | (cases a <;> exact ⟨rfl, rfl⟩)
theorem bi_nar_z {x : Int32} (h : x = 0 ∨ x = 1) : narrow .boolean (.int x) = .int x ∧ fits .boolean (.int x) = true := by
  rcases h with rfl | rfl <;> exact ⟨by decide +kernel, by decide +kernel⟩
end
section
/-! the machine's rows over the interpreter's heap: fields, arrays, new cells -/
theorem bi_lay_ok {C : String} {T : u_T} {N : Nat} : ∀ w ∈ u_ws C T N, bi_ok w = true := by
  intro w hw
  obtain ⟨k, -, rfl⟩ := List.mem_map.mp hw
  unfold u_lay
  split <;> rfl
theorem bi_aty_obj {c : Nat} (h : c < 13) : bi_aty (10 + c) = none := by
  unfold bi_aty
  simp only [if_neg (show ¬ (10 + c = 1 ∨ 10 + c = 4) by omega), if_neg (show ¬ 10 + c = 2 by omega), if_neg (show ¬ 10 + c = 3 by omega), if_neg (show ¬ 10 + c = 5 by omega), if_neg (show ¬ 40 ≤ 10 + c by omega)]
theorem bi_c13 {c : Nat} {q : vw_C} (hq : vwCl[c]? = some q) : c < 13 := (List.getElem?_eq_some_iff.mp hq).1
theorem bi_cell.kept {D : va_G} {s : State} {h h' : bi_H} {H H' : Heap} {a : Nat} (hc : bi_cell D s h H a) (ho : H'[a]? = H[a]?) (hk : bi_k h' (a + 1) = bi_k h (a + 1)) (hf : ∀ c k, bi_fv h' c k (a + 1) = bi_fv h c k (a + 1)) (hv : ∀ t j, bi_av h' t (a + 1) j = bi_av h t (a + 1) j) : bi_cell D s h' H' a := by
  refine ⟨fun c h1 h2 => ?_, fun ty hty => ?_⟩
  · rw [hk] at h1
    obtain ⟨q, e1, e2⟩ := hc.1 c h1 h2
    exact ⟨q, e1, (e2.kept ho).to (fun k _ => (hf c k).symm)⟩
  · rw [hk] at hty
    obtain ⟨cell, e1, e2, e3, e4, e5, e6⟩ := hc.2 ty hty
    refine ⟨cell, by rw [ho]; exact e1, e2, e3, by rw [hk]; exact e4, fun j hj => ?_, e6⟩
    rw [hk] at hj ⊢
    rw [hv, e5 j hj]
theorem bi_cell.none {D : va_G} {s : State} {h : bi_H} {H : Heap} {a : Nat} (hk : (bi_k h (a + 1)).1 = 0) : bi_cell D s h H a := by
  refine ⟨fun c h1 _ => by omega, fun ty hty => ?_⟩
  rw [hk] at hty
  simp [bi_aty] at hty
theorem bi_rp.upd {D : va_G} {B0 : Nat} {Hb : Heap} {s : State} {h h' : bi_H} {H H' : Heap} {a : Nat} (hr : bi_rp D B0 Hb h s H) (ha : B0 ≤ a) (hz : H'.size = H.size) (ho : ∀ q, q ≠ a → H'[q]? = H[q]?) (hk : ∀ x, bi_k h' x = bi_k h x) (hn : bi_nx h' = bi_nx h) (hf : ∀ c k b, b ≠ a → bi_fv h' c k (b + 1) = bi_fv h c k (b + 1)) (hv : ∀ t b j, b ≠ a → bi_av h' t (b + 1) j = bi_av h t (b + 1) j) (hc : bi_cell D s h' H' a) : bi_rp D B0 Hb h' s H' := by
  obtain ⟨⟨z1, z2, z3⟩, h2, h3, h4, h5, h6⟩ := hr
  refine ⟨⟨by rw [hz, hn]; exact z1, by rw [hz]; exact z2, fun q hq => by rw [ho q (by omega)]; exact z3 q hq⟩, h2, h3, by rw [hk]; exact h4, fun b hb => ?_, fun b => ?_⟩
  · rw [hk] at hb ⊢
    rw [hz]
    exact h5 b hb
  · by_cases e : b = a
    · subst e
      exact hc
    · exact (h6 b).kept (ho b e) (hk _) (fun c k => hf c k b e) (fun t j => hv t b j e)
theorem bi_rp.born {D : va_G} {B0 : Nat} {Hb : Heap} {s : State} {h : bi_H} {H H' : Heap} {kd : Nat × Nat} {sl : Nat} (hr : bi_rp D B0 Hb h s H) (hz : H'.size = H.size + 1) (ho : ∀ q, q < H.size → H'[q]? = H[q]?) (hc : bi_cell D s (bi_new h kd sl) H' H.size) : bi_rp D B0 Hb (bi_new h kd sl) s H' := by
  obtain ⟨⟨z1, z2, z3⟩, h2, h3, h4, h5, h6⟩ := hr
  have e0 : ∀ x, x ≠ bi_nx h → bi_k (bi_new h kd sl) x = bi_k h x := fun x hx => by simp [bi_k, bi_new, hx]
  refine ⟨⟨by rw [hz]; show H.size + 1 + 1 = bi_nx h + 1; omega, by omega, fun q hq => by rw [ho q (by omega)]; exact z3 q hq⟩, h2, h3, by rw [e0 0 (by omega)]; exact h4, fun b hb => ?_, fun b => ?_⟩
  · by_cases e : b = H.size
    · subst e
      exact ⟨by omega, fun _ => z2⟩
    · rw [e0 _ (by omega)] at hb ⊢
      obtain ⟨q1, q2⟩ := h5 b hb
      exact ⟨by omega, q2⟩
  · by_cases e : b = H.size
    · subst e
      exact hc
    · have e1 := e0 (b + 1) (by omega)
      by_cases hb : (bi_k h (b + 1)).1 = 0
      · exact bi_cell.none (by rw [e1]; exact hb)
      · have hx : b + 1 ≠ bi_nx h := by omega
        refine (h6 b).kept (ho b (h5 b hb).1) e1 (fun c k => ?_) (fun t j => ?_)
        · simp [bi_fv, bi_fr, bi_fi, bi_new, hx]
        · simp [bi_av, bi_ar, bi_ai, bi_new, hx]
/-- the pool entry of a field -/
def bi_fl (own : String) (index : Nat) (q : vw_C) (k : Nat) : Prop := Cond.fieldLink own index (q.2.1 k).1 (q.2.1 k).2.1 (q.2.1 k).2.2.1 ∈ lw_tbl ∨ ∃ host, Cond.fieldLinkNest own index (q.2.1 k).1 (q.2.1 k).2.1 (q.2.1 k).2.2.1 host ∈ lw_tbl
section BS
variable {p : Program} {l : Launch} {e : Env} {R : Room} {s : State} {m : MethodId} {args : Array Value} {below : List Frame} {meth : Method} {cd : Code} {H : Heap} {locs : List Loc} {cells slots : Nat} {Q : State → Prop} {cc : ByteArray} {pc : Nat} {ls : Array Slot} {rest : List Value} {D : va_G} {B0 : Nat} {Hb : Heap} {h : bi_H}
theorem bi_hts (hr : bi_rp D B0 Hb h s H) {w : Cond} (hw : w ∈ lw_tbl) (ho : bi_ok w = true) : w.before args s = true := hr.2.2.1.1 w hw ho args
theorem bi_get (hx : p.tables.exec = Jvm.exec) (hb : cd.code = cc) {own : String} {index a c k : Nat} {q : vw_C} (hown : s.vm.findClass own = some m.cls) (hr : bi_rp D B0 Hb h s H) (hk : (bi_k h (a + 1)).1 = 10 + c) (hq : vwCl[c]? = some q) (hkn : k < q.2.2) (hl : bi_fl own index q k) (hdg : decode cc pc = .ok (.getfield index, 3))
    (kk : W p l e R s m args below meth cd H locs cells slots Q (F0 m (pc + 3) ls (bi_fv h c k (a + 1) :: rest))) : W p l e R s m args below meth cd H locs cells slots Q (F0 m pc ls (.ref a :: rest)) := by
  obtain ⟨q', hq', cell, q1, q2, q3, q4⟩ := (hr.2.2.2.2.2 a).1 c hk (bi_c13 hq)
  cases Option.some.inj (hq'.symm.trans hq)
  obtain ⟨hS, hfc, kC, hkC, hkind⟩ := hr.2.1.1 c _ hq
  obtain ⟨cf, kf, fi, f, hi, hsl⟩ := hS k hkn
  have hts : ∀ w ∈ u_ws q.1 q.2.1 q.2.2, w.before args s = true := fun w hw => bi_hts hr ((bi_cok_of c q hq).1 w hw) (bi_lay_ok w hw)
  have hst := (u_facts hfc hkC (u_lays hts (fun _ z => z) hkn) hi).1
  have hv : cell.slots[f.slot]? = some (bi_fv h c k (a + 1)) := by rw [hsl, q4 k hkn]
  rcases hl with hl | ⟨host, hl⟩
  · exact W.getf hx hb hown (bi_hts hr hl rfl) hi hst q1 (by rw [q3]; exact fun z => by cases z) hv rfl rfl hdg kk
  · exact va_Wgetf hx hb hown (bi_hts hr hl rfl) hi hst q1 (by rw [q3]; exact fun z => by cases z) hv rfl rfl hdg kk
/-- a field is written: v, of the right kind; the interpreter's heap is h' then -/
theorem bi_put (hx : p.tables.exec = Jvm.exec) (hb : cd.code = cc) {own : String} {index a c k : Nat} {q : vw_C} {v : Value} {h' : bi_H} (hown : s.vm.findClass own = some m.cls) (hr : bi_rp D B0 Hb h s H) (hk : (bi_k h (a + 1)).1 = 10 + c) (hq : vwCl[c]? = some q) (hkn : k < q.2.2) (hl : bi_fl own index q k) (hfin : (q.2.1 k).2.2.2 = false ∨ ((q.2.1 k).1 = own ∧ meth.name = "<init>" ∧ Cond.fieldLink own index (q.2.1 k).1 (q.2.1 k).2.1 (q.2.1 k).2.2.1 ∈ lw_tbl)) (hn : narrow (bi_ty c k) v = v ∧ fits (bi_ty c k) v = true)
    (hk' : ∀ x, bi_k h' x = bi_k h x) (hnx : bi_nx h' = bi_nx h) (hf : ∀ c k b, b ≠ a → bi_fv h' c k (b + 1) = bi_fv h c k (b + 1)) (hf2 : ∀ j, bi_fv h' c j (a + 1) = updV (fun j => bi_fv h c j (a + 1)) k v j) (hv : ∀ t b j, b ≠ a → bi_av h' t (b + 1) j = bi_av h t (b + 1) j) (hdg : decode cc pc = .ok (.putfield index, 3))
    (kk : ∀ (H' : Heap) (i : Nat), bi_rp D B0 Hb h' s H' → W p l e R s m args below meth cd H' (locs ++ [⟨a, i⟩]) cells slots Q (F0 m (pc + 3) ls rest)) : W p l e R s m args below meth cd H locs cells slots Q (F0 m pc ls (v :: .ref a :: rest)) := by
  have h13 := bi_c13 hq
  obtain ⟨q', hq', cell, q1, q2, q3, q4⟩ := (hr.2.2.2.2.2 a).1 c hk h13
  cases Option.some.inj (hq'.symm.trans hq)
  obtain ⟨hin, hty, hnm⟩ := bi_cok_of c q hq
  obtain ⟨hS, hfc, kC, hkC, hkind⟩ := hr.2.1.1 c _ hq
  obtain ⟨cf, kf, fi, f, hi, hsl⟩ := hS k hkn
  have hts : ∀ w ∈ u_ws q.1 q.2.1 q.2.2, w.before args s = true := fun w hw => bi_hts hr (hin w hw) (bi_lay_ok w hw)
  have hap := va_apart (own := own) hts (fun _ z => z) (bi_ty c) hty hnm hr.2.1 (ci := c) hq
  have hst := (u_facts hfc hkC (u_lays hts (fun _ z => z) hkn) hi).1
  have hB : B0 ≤ a := (hr.2.2.2.2.1 a (by omega)).2 (by omega)
  have fin : ∀ H' : Heap, H'[a]? = some (cell.setSlot f.slot v) → H'.size = H.size → (∀ q, q ≠ a → H'[q]? = H[q]?) → bi_rp D B0 Hb h' s H' := by
    intro H' e1 e2 e3
    refine hr.upd hB e2 e3 hk' hnx hf hv ⟨fun c0 h1 _ => ?_, fun ty hty => ?_⟩
    · rw [hk', hk] at h1
      have : c0 = c := by omega
      subst this
      rw [hsl] at e1
      exact ⟨q, hq, t_OB.to (V := updV (fun j => bi_fv h c0 j (a + 1)) k v) ⟨_, e1, q2, q3, t_set q4 hap hkn v⟩ (fun j _ => (hf2 j).symm)⟩
    · rw [hk', hk, bi_aty_obj h13] at hty
      cases hty
  have hlay := hts _ (u_in_lay hkn)
  unfold u_lay at hlay
  have hlt : f.slot < cell.slots.size := by rw [hsl]; exact k2_hasslot (q4 k hkn)
  by_cases hff : (q.2.1 k).2.2.2 = true
  · rw [if_pos hff] at hlay
    rcases hfin with hz | ⟨hdecl, hin2, hlk⟩
    · rw [hz] at hff
      cases hff
    · have hcf : m.cls = cf := by
        obtain ⟨_, _, c', _, _, _, -, -, hf', -, -, -, hown2, -⟩ := Cond.laysFinal_spec hlay
        have e1 : c' = cf := by have := hi.symm.trans hf'; simp at this; exact this.1.symm
        rw [hdecl] at hown2
        rw [← e1]; exact Option.some.inj (hown.symm.trans hown2)
      have h6 := u_fits hfc hkC hkind (Or.inr hlay) hi (hty k hkn) hn.1 hn.2
      exact W.putFinK hx hb hown (bi_hts hr hlk rfl) hi hst hcf hin2 (by rw [q2]; exact h6) q1 q3 hlt rfl rfl hdg fun H' e1 e2 e3 => kk H' _ (fin H' e1 e2 e3)
  · rw [if_neg hff] at hlay
    have h6 := u_store hfc hkC hkind hlay hi (hty k hkn) hn.1 hn.2
    rcases hl with hl | ⟨host, hl⟩
    · exact W.putK hx hb (f := f) ⟨hown, bi_hts hr hl rfl, ⟨_, _, _, hi⟩, hst⟩ (by rw [q2]; exact h6) q1 q3 hlt rfl rfl hdg fun H' e1 e2 e3 => kk H' _ (fin H' e1 e2 e3)
    · exact va_WputK hx hb hown (bi_hts hr hl rfl) hi hst (by rw [q2]; exact h6) q1 q3 hlt rfl rfl hdg fun H' e1 e2 e3 => kk H' _ (fin H' e1 e2 e3)
end BS
end
section
/-! arrays and new cells over the interpreter's heap -/
theorem bi_rp.arr {D : va_G} {B0 : Nat} {Hb : Heap} {s : State} {h h' : bi_H} {H H' : Heap} {a t n j : Nat} {ty : FieldType} {nv : Value} {cell : Cell} (hr : bi_rp D B0 Hb h s H) (hk : bi_k h (a + 1) = (t, n)) (hty : bi_aty t = some ty) (ht4 : t ≠ 4) (hj : j < n)
    (c1 : s.isArrayOf cell ty) (c2 : cell.vm ≠ .unknown) (c3 : cell.slots.size = n) (c4 : ∀ j, j < n → cell.slots[j]? = some (bi_av h t (a + 1) j)) (c5 : ∀ C, ty = .object C → ∃ (kA : Class) (comp : ClassId), s.vm.classes[cell.cls]? = some kA ∧ kA.kind = .array comp (.object C) ∧ s.vm.findClass C = some comp)
    (e1 : H'[a]? = some (cell.setSlot j nv)) (e2 : H'.size = H.size) (e3 : ∀ q, q ≠ a → H'[q]? = H[q]?)
    (hk' : ∀ x, bi_k h' x = bi_k h x) (hnx : bi_nx h' = bi_nx h) (hf : ∀ c k b, bi_fv h' c k b = bi_fv h c k b) (hv : ∀ t b j, b ≠ a → bi_av h' t (b + 1) j = bi_av h t (b + 1) j) (hv2 : ∀ i, bi_av h' t (a + 1) i = updV (fun i => bi_av h t (a + 1) i) j nv i) : bi_rp D B0 Hb h' s H' := by
  have ht0 : t ≠ 0 := fun z => by subst z; simp [bi_aty] at hty
  have hB : B0 ≤ a := (hr.2.2.2.2.1 a (by rw [hk]; exact ht0)).2 (by rw [hk]; exact ht4)
  refine hr.upd hB e2 e3 hk' hnx (fun c k b _ => hf c k (b + 1)) hv ⟨fun c0 h1 h2 => ?_, fun ty' hty' => ?_⟩
  · rw [hk', hk] at h1
    have h1 : t = 10 + c0 := h1
    rw [h1, bi_aty_obj h2] at hty
    cases hty
  · rw [hk', hk] at hty' ⊢
    have hty' : bi_aty t = some ty' := hty'
    cases Option.some.inj (hty.symm.trans hty')
    refine ⟨_, e1, c1, c2, by rw [k2_slotsz]; exact c3, fun i hi => ?_, c5⟩
    show (cell.setSlot j nv).slots[i]? = some (bi_av h' t (a + 1) i)
    rw [hv2 i]
    by_cases e : i = j
    · subst e
      rw [Cell.slots_setSlot_self _ (by rw [c3]; exact hj)]
      simp [updV]
    · rw [slot_ne _ _ (Ne.symm e), c4 i hi]
      simp [updV, e]
section BA
variable {p : Program} {l : Launch} {e : Env} {R : Room} {s : State} {m : MethodId} {args : Array Value} {below : List Frame} {meth : Method} {cd : Code} {H : Heap} {locs : List Loc} {cells slots : Nat} {Q : State → Prop} {cc : ByteArray} {pc : Nat} {ls : Array Slot} {rest : List Value} {D : va_G} {B0 : Nat} {Hb : Heap} {h : bi_H}
theorem bi_ne {j : Int32} {n : Nat} (h0 : ¬ j < 0) (h1 : j.toNatClampNeg < n) : ¬ (j < 0 ∨ n ≤ j.toNatClampNeg) := fun z => z.elim h0 (fun q => by omega)
theorem bi_iald (hx : p.tables.exec = Jvm.exec) (hb : cd.code = cc) {a : Nat} {j : Int32} (hr : bi_rp D B0 Hb h s H) (hk : (bi_k h (a + 1)).1 = 1 ∨ (bi_k h (a + 1)).1 = 4) (h0 : ¬ j < 0) (h1 : j.toNatClampNeg < (bi_k h (a + 1)).2) (hdg : decode cc pc = .ok (.iaload, 1))
    (kk : W p l e R s m args below meth cd H locs cells slots Q (F0 m (pc + 1) ls (.int (bi_ai h (a + 1) j.toNatClampNeg) :: rest))) : W p l e R s m args below meth cd H locs cells slots Q (F0 m pc ls (.int j :: .ref a :: rest)) := by
  obtain ⟨cell, c0, c1, c2, c3, c4, -⟩ := (hr.2.2.2.2.2 a).2 .int (by unfold bi_aty; rw [if_pos hk])
  refine W.iald hx hb c0 c1 c2 (by rw [c3]; exact bi_ne h0 h1) (v := .int (bi_ai h (a + 1) j.toNatClampNeg)) ?_ rfl rfl hdg kk
  rw [c4 _ h1]
  rcases hk with hk | hk <;> simp [bi_av, hk]
theorem bi_zald (hx : p.tables.exec = Jvm.exec) (hb : cd.code = cc) {a : Nat} {j : Int32} (hr : bi_rp D B0 Hb h s H) (hk : (bi_k h (a + 1)).1 = 2) (h0 : ¬ j < 0) (h1 : j.toNatClampNeg < (bi_k h (a + 1)).2) (hdg : decode cc pc = .ok (.baload, 1))
    (kk : W p l e R s m args below meth cd H locs cells slots Q (F0 m (pc + 1) ls (.int (bi_ai h (a + 1) j.toNatClampNeg) :: rest))) : W p l e R s m args below meth cd H locs cells slots Q (F0 m pc ls (.int j :: .ref a :: rest)) := by
  obtain ⟨cell, c0, c1, c2, c3, c4, -⟩ := (hr.2.2.2.2.2 a).2 .boolean (by simp [bi_aty, hk])
  refine W.zald hx hb c0 c1 c2 (by rw [c3]; exact bi_ne h0 h1) (v := .int (bi_ai h (a + 1) j.toNatClampNeg)) ?_ rfl rfl hdg kk
  rw [c4 _ h1]
  simp [bi_av, hk]
theorem bi_lald (hx : p.tables.exec = Jvm.exec) (hb : cd.code = cc) {a : Nat} {j : Int32} (hr : bi_rp D B0 Hb h s H) (hk : (bi_k h (a + 1)).1 = 3) (h0 : ¬ j < 0) (h1 : j.toNatClampNeg < (bi_k h (a + 1)).2) (hdg : decode cc pc = .ok (.laload, 1))
    (kk : W p l e R s m args below meth cd H locs cells slots Q (F0 m (pc + 1) ls (.long (bi_ai h (a + 1) j.toNatClampNeg).toInt64 :: rest))) : W p l e R s m args below meth cd H locs cells slots Q (F0 m pc ls (.int j :: .ref a :: rest)) := by
  obtain ⟨cell, c0, c1, c2, c3, c4, -⟩ := (hr.2.2.2.2.2 a).2 .long (by simp [bi_aty, hk])
  refine W.lald hx hb c0 c1 c2 (by rw [c3]; exact bi_ne h0 h1) (v := .long (bi_ai h (a + 1) j.toNatClampNeg).toInt64) ?_ rfl rfl hdg kk
  rw [c4 _ h1]
  simp [bi_av, hk]
theorem bi_aald (hx : p.tables.exec = Jvm.exec) (hb : cd.code = cc) {a : Nat} {j : Int32} {ty : FieldType} (hr : bi_rp D B0 Hb h s H) (hk : (bi_k h (a + 1)).1 = 5 ∨ 40 ≤ (bi_k h (a + 1)).1) (hty : bi_aty (bi_k h (a + 1)).1 = some ty) (h0 : ¬ j < 0) (h1 : j.toNatClampNeg < (bi_k h (a + 1)).2) (hdg : decode cc pc = .ok (.aaload, 1))
    (kk : W p l e R s m args below meth cd H locs cells slots Q (F0 m (pc + 1) ls (bi_tr (bi_ar h (a + 1) j.toNatClampNeg) :: rest))) : W p l e R s m args below meth cd H locs cells slots Q (F0 m pc ls (.int j :: .ref a :: rest)) := by
  obtain ⟨cell, c0, c1, c2, c3, c4, -⟩ := (hr.2.2.2.2.2 a).2 ty hty
  have href : ty.isReference = true := by
    rcases hk with hk | hk
    · rw [hk] at hty
      simp [bi_aty] at hty
      subst hty
      rfl
    · unfold bi_aty at hty
      rw [if_neg (by omega), if_neg (by omega), if_neg (by omega), if_neg (by omega), if_pos hk] at hty
      obtain ⟨q, -, rfl⟩ := Option.map_eq_some_iff.mp hty
      rfl
  refine W.aald hx hb c0 c1 href c2 (by rw [c3]; exact bi_ne h0 h1) (v := bi_tr (bi_ar h (a + 1) j.toNatClampNeg)) ?_ rfl rfl hdg kk
  rw [c4 _ h1]
  have h3 : ¬ (bi_k h (a + 1)).1 = 3 := by omega
  simp [bi_av, h3, hk]
theorem bi_alen (hx : p.tables.exec = Jvm.exec) (hb : cd.code = cc) {a : Nat} {ty : FieldType} (hr : bi_rp D B0 Hb h s H) (hty : bi_aty (bi_k h (a + 1)).1 = some ty) (hdg : decode cc pc = .ok (.arraylength, 1))
    (kk : W p l e R s m args below meth cd H locs cells slots Q (F0 m (pc + 1) ls (.int (Int32.ofNat (bi_k h (a + 1)).2) :: rest))) : W p l e R s m args below meth cd H locs cells slots Q (F0 m pc ls (.ref a :: rest)) := by
  obtain ⟨cell, c0, c1, c2, c3, c4, -⟩ := (hr.2.2.2.2.2 a).2 ty hty
  exact W.alen (n := Int32.ofNat (bi_k h (a + 1)).2) hx hb c0 c1 (by rw [c3]) rfl rfl hdg kk
theorem bi_sai_fv {a i : Nat} {x : Int32} (c k b : Nat) : bi_fv (bi_sai h a i x) c k b = bi_fv h c k b := rfl
theorem bi_sai_av {a i : Nat} {x : Int32} (t b j : Nat) (hb : b ≠ a) : bi_av (bi_sai h (a + 1) i x) t (b + 1) j = bi_av h t (b + 1) j := by
  simp [bi_av, bi_ai, bi_ar, bi_sai, hb]
theorem bi_iast (hx : p.tables.exec = Jvm.exec) (hb : cd.code = cc) {a : Nat} {j x : Int32} (hr : bi_rp D B0 Hb h s H) (hk : (bi_k h (a + 1)).1 = 1) (h0 : ¬ j < 0) (h1 : j.toNatClampNeg < (bi_k h (a + 1)).2) (hdg : decode cc pc = .ok (.iastore, 1))
    (kk : ∀ (H' : Heap) (i : Nat), bi_rp D B0 Hb (bi_sai h (a + 1) j.toNatClampNeg x) s H' → W p l e R s m args below meth cd H' (locs ++ [⟨a, i⟩]) cells slots Q (F0 m (pc + 1) ls rest)) : W p l e R s m args below meth cd H locs cells slots Q (F0 m pc ls (.int x :: .int j :: .ref a :: rest)) := by
  have hty : bi_aty (bi_k h (a + 1)).1 = some .int := by simp [bi_aty, hk]
  obtain ⟨cell, c0, c1, c2, c3, c4, c5⟩ := (hr.2.2.2.2.2 a).2 .int hty
  refine W.iast hx hb c0 c1 c2 (by rw [c3]; exact bi_ne h0 h1) rfl rfl hdg (fun H' e1 e2 e3 => kk H' _ ?_)
  rw [hk] at c4
  refine hr.arr (t := 1) (n := (bi_k h (a + 1)).2) (Prod.ext hk rfl) rfl (by omega) h1 c1 c2 c3 c4 c5 e1 e2 e3 (fun _ => rfl) rfl bi_sai_fv bi_sai_av (fun i => ?_)
  by_cases e : i = j.toNatClampNeg <;> simp [bi_av, updV, bi_ai, bi_sai, e]
theorem bi_zast (hx : p.tables.exec = Jvm.exec) (hb : cd.code = cc) {a : Nat} {j x : Int32} (hr : bi_rp D B0 Hb h s H) (hk : (bi_k h (a + 1)).1 = 2) (hx01 : x = 0 ∨ x = 1) (h0 : ¬ j < 0) (h1 : j.toNatClampNeg < (bi_k h (a + 1)).2) (hdg : decode cc pc = .ok (.bastore, 1))
    (kk : ∀ (H' : Heap) (i : Nat), bi_rp D B0 Hb (bi_sai h (a + 1) j.toNatClampNeg x) s H' → W p l e R s m args below meth cd H' (locs ++ [⟨a, i⟩]) cells slots Q (F0 m (pc + 1) ls rest)) : W p l e R s m args below meth cd H locs cells slots Q (F0 m pc ls (.int x :: .int j :: .ref a :: rest)) := by
  have hty : bi_aty (bi_k h (a + 1)).1 = some .boolean := by simp [bi_aty, hk]
  obtain ⟨cell, c0, c1, c2, c3, c4, c5⟩ := (hr.2.2.2.2.2 a).2 .boolean hty
  have hnz : vp_nar .boolean x = x := by rcases hx01 with rfl | rfl <;> decide +kernel
  refine W.zast hx hb c0 c1 c2 (by rw [c3]; exact bi_ne h0 h1) rfl rfl hdg (fun H' e1 e2 e3 => kk H' _ ?_)
  rw [hk] at c4
  refine hr.arr (t := 2) (n := (bi_k h (a + 1)).2) (nv := .int x) (Prod.ext hk rfl) rfl (by omega) h1 c1 c2 c3 c4 c5 ?_ e2 e3 (fun _ => rfl) rfl bi_sai_fv bi_sai_av (fun i => ?_)
  · rw [e1, (bi_nar_z hx01).1]
  · by_cases e : i = j.toNatClampNeg <;> simp [bi_av, updV, bi_ai, bi_sai, e]
theorem bi_last (hx : p.tables.exec = Jvm.exec) (hb : cd.code = cc) {a : Nat} {j x : Int32} (hr : bi_rp D B0 Hb h s H) (hk : (bi_k h (a + 1)).1 = 3) (h0 : ¬ j < 0) (h1 : j.toNatClampNeg < (bi_k h (a + 1)).2) (hdg : decode cc pc = .ok (.lastore, 1))
    (kk : ∀ (H' : Heap) (i : Nat), bi_rp D B0 Hb (bi_sai h (a + 1) j.toNatClampNeg x) s H' → W p l e R s m args below meth cd H' (locs ++ [⟨a, i⟩]) cells slots Q (F0 m (pc + 1) ls rest)) : W p l e R s m args below meth cd H locs cells slots Q (F0 m pc ls (.long x.toInt64 :: .int j :: .ref a :: rest)) := by
  have hty : bi_aty (bi_k h (a + 1)).1 = some .long := by simp [bi_aty, hk]
  obtain ⟨cell, c0, c1, c2, c3, c4, c5⟩ := (hr.2.2.2.2.2 a).2 .long hty
  refine W.last hx hb c0 c1 c2 (by rw [c3]; exact bi_ne h0 h1) rfl rfl hdg (fun H' e1 e2 e3 => kk H' _ ?_)
  rw [hk] at c4
  refine hr.arr (t := 3) (n := (bi_k h (a + 1)).2) (Prod.ext hk rfl) rfl (by omega) h1 c1 c2 c3 c4 c5 e1 e2 e3 (fun _ => rfl) rfl bi_sai_fv bi_sai_av (fun i => ?_)
  by_cases e : i = j.toNatClampNeg <;> simp [bi_av, updV, bi_ai, bi_sai, e]
theorem bi_aast (hx : p.tables.exec = Jvm.exec) (hb : cd.code = cc) {a b c : Nat} {j : Int32} {q : vw_C} (hr : bi_rp D B0 Hb h s H) (hk : (bi_k h (a + 1)).1 = 40 + c) (hq : vwCl[c]? = some q) (hbk : b = 0 ∨ (bi_k h b).1 = 10 + c) (h0 : ¬ j < 0) (h1 : j.toNatClampNeg < (bi_k h (a + 1)).2) (hdg : decode cc pc = .ok (.aastore, 1))
    (kk : ∀ (H' : Heap) (i : Nat), bi_rp D B0 Hb (bi_sar h (a + 1) j.toNatClampNeg b) s H' → W p l e R s m args below meth cd H' (locs ++ [⟨a, i⟩]) cells slots Q (F0 m (pc + 1) ls rest)) : W p l e R s m args below meth cd H locs cells slots Q (F0 m pc ls (bi_tr b :: .int j :: .ref a :: rest)) := by
  have h13 := bi_c13 hq
  have hty : bi_aty (bi_k h (a + 1)).1 = some (.object q.1) := by
    unfold bi_aty
    rw [hk, if_neg (by omega), if_neg (by omega), if_neg (by omega), if_neg (by omega), if_pos (by omega), show 40 + c - 40 = c by omega, hq]
    rfl
  obtain ⟨cell, c0, c1, c2, c3, c4, c5⟩ := (hr.2.2.2.2.2 a).2 _ hty
  have fin : ∀ H' : Heap, H'[a]? = some (cell.setSlot j.toNatClampNeg (bi_tr b)) → H'.size = H.size → (∀ q, q ≠ a → H'[q]? = H[q]?) → bi_rp D B0 Hb (bi_sar h (a + 1) j.toNatClampNeg b) s H' := by
    intro H' e1 e2 e3
    rw [hk] at c4 hty
    refine hr.arr (t := 40 + c) (n := (bi_k h (a + 1)).2) (Prod.ext hk rfl) hty (by omega) h1 c1 c2 c3 c4 c5 e1 e2 e3 (fun _ => rfl) rfl (fun _ _ _ => rfl) (fun t b' j' hb' => ?_) (fun i => ?_)
    · simp [bi_av, bi_ai, bi_ar, bi_sar, hb']
    · have h3 : ¬ 40 + c = 3 := by omega
      have h40 : 40 ≤ 40 + c := by omega
      by_cases e : i = j.toNatClampNeg <;> simp [bi_av, h3, h40, updV, bi_ar, bi_sar, e]
  cases b with
  | zero => exact va_WaastN (C := q.1) hx hb c0 c1 c2 (by rw [c3]; exact bi_ne h0 h1) rfl rfl hdg (fun H' e1 e2 e3 => kk H' _ (fin H' e1 e2 e3))
  | succ b =>
    have hbk : (bi_k h (b + 1)).1 = 10 + c := by
      rcases hbk with z | z
      · omega
      · exact z
    obtain ⟨q', hq', cv, g1, g2, g3, -⟩ := (hr.2.2.2.2.2 b).1 c hbk h13
    cases Option.some.inj (hq'.symm.trans hq)
    obtain ⟨kA, comp, k1, k2, k3⟩ := c5 q.1 rfl
    have hcls := (hr.2.1.1 c q hq).2
    have hcomp : comp = D.1 c := Option.some.inj (k3.symm.trans hcls.1)
    subst hcomp
    obtain ⟨kC, hkC, -⟩ := hcls.2
    exact W.aast hx hb c0 c1.1 c2 k1 k2 rfl hkC ⟨h0, by rw [c3]; exact h1⟩ g1 (fun z hz => by rw [g3] at hz; cases hz) (by rw [g2]; exact hkC) (by rw [g2]; exact va_assign hcls) rfl rfl hdg (fun H' e1 e2 e3 => kk H' _ (fin H' e1 e2 e3))
end BA
end
section
/-! new objects and arrays over the interpreter's heap -/
theorem bi_dflt : ∀ c, c < 13 → ∀ k, k < 39 → (if bi_ft c k = 1 then Value.null else Value.int 0) = defaultValue (bi_ty c k) := by decide +kernel
theorem bi_n39 : ∀ (c : Nat) (q : vw_C), vwCl[c]? = some q → q.2.2 ≤ 39
  | 0, _, h => by cases h; decide
  | 1, _, h => by cases h; decide
  | 2, _, h => by cases h; decide
  | 3, _, h => by cases h; decide
  | 4, _, h => by cases h; decide
  | 5, _, h => by cases h; decide
  | 6, _, h => by cases h; decide
  | 7, _, h => by cases h; decide
  | 8, _, h => by cases h; decide
  | 9, _, h => by cases h; decide
  | 10, _, h => by cases h; decide
  | 11, _, h => by cases h; decide
  | 12, _, h => by cases h; decide
  | c + 13, _, h => by simp at h
section BN
variable {p : Program} {l : Launch} {e : Env} {R : Room} {s : State} {m : MethodId} {args : Array Value} {below : List Frame} {meth : Method} {cd : Code} {H : Heap} {locs : List Loc} {cells slots : Nat} {Q : State → Prop} {cc : ByteArray} {pc : Nat} {ls : Array Slot} {rest : List Value} {D : va_G} {B0 : Nat} {Hb : Heap} {h : bi_H}
theorem bi_nxr (hr : bi_rp D B0 Hb h s H) : bi_tr (bi_nx h) = .ref H.size := by rw [← hr.1.1]; rfl
theorem bi_new_k {kd : Nat × Nat} {sl a : Nat} (ha : a = bi_nx h) : bi_k (bi_new h kd sl) a = kd := by simp [bi_k, bi_new, ha]
theorem bi_new_fv {kd : Nat × Nat} {sl a : Nat} (ha : a = bi_nx h) (c k : Nat) : bi_fv (bi_new h kd sl) c k a = (if bi_ft c k = 1 then Value.null else Value.int 0) := by
  simp [bi_fv, bi_fr, bi_fi, bi_new, ha, bi_tr]
theorem bi_newc (hx : p.tables.exec = Jvm.exec) (hb : cd.code = cc) {own : String} {index c : Nat} {q : vw_C} (hown : s.vm.findClass own = some m.cls) (hr : bi_rp D B0 Hb h s H) (hq : vwCl[c]? = some q) (hcl : Cond.classLink own index q.1 ∈ lw_tbl) (hin : Cond.instantiable q.1 q.2.2 ∈ lw_tbl) (hini : Cond.initialized q.1 ∈ lw_tbl) (hdg : decode cc pc = .ok (.new index, 3)) (hcells : cells + 1 ≤ R.cells) (hslots : slots + q.2.2 ≤ R.slots)
    (kk : ∀ H' : Heap, bi_rp D B0 Hb (bi_new h (10 + c, 0) q.2.2) s H' → W p l e R s m args below meth cd H' locs (cells + 1) (slots + q.2.2) Q (F0 m (pc + 3) ls (bi_tr (bi_nx h) :: rest))) : W p l e R s m args below meth cd H locs cells slots Q (F0 m pc ls rest) := by
  have h13 := bi_c13 hq
  have hKn := hr.2.1.1 c _ hq
  have hts : ∀ w ∈ u_ws q.1 q.2.1 q.2.2, w.before args s = true := fun w hw => bi_hts hr ((bi_cok_of c q hq).1 w hw) (bi_lay_ok w hw)
  refine W.newcK hx hb hown (bi_hts hr hcl rfl) (bi_hts hr hin rfl) (bi_hts hr hini rfl) rfl hdg hcells hslots hKn.2.1 rfl fun H' kC hkC e1 z1 o1 => ?_
  have hs : H.size + 1 = bi_nx h := hr.1.1
  rw [bi_nxr hr] at kk
  refine kk H' (hr.born z1 o1 ⟨fun c0 h1 _ => ?_, fun ty hty => ?_⟩)
  · rw [bi_new_k hs] at h1
    have : c0 = c := by simp at h1; omega
    subst this
    refine ⟨q, hq, (u_born (bi_ty c0) hts (fun _ z => z) hKn hkC e1 (bi_cok_of c0 q hq).2.1).to (fun k hk => ?_)⟩
    rw [bi_new_fv hs, bi_dflt c0 h13 k (Nat.lt_of_lt_of_le hk (bi_n39 c0 q hq))]
  · rw [bi_new_k hs] at hty
    have hty : bi_aty (10 + c) = some ty := hty
    rw [bi_aty_obj h13] at hty
    cases hty
theorem bi_newa (hx : p.tables.exec = Jvm.exec) (hb : cd.code = cc) {at0 : ArrayType} {t : Nat} {n : Int32} (hr : bi_rp D B0 Hb h s H) (ht : (at0 = .int ∧ t = 1) ∨ (at0 = .boolean ∧ t = 2) ∨ (at0 = .long ∧ t = 3)) (hw : Cond.arrayClass (newarray.typeOf at0) ∈ lw_tbl) (hn : ¬ n < 0) (hle : n.toNatClampNeg ≤ 1000000) (hdg : decode cc pc = .ok (.newarray at0, 2)) (hcells : cells + 1 ≤ R.cells) (hslots : slots + n.toNatClampNeg ≤ R.slots)
    (kk : ∀ H' : Heap, bi_rp D B0 Hb (bi_new h (t, n.toNatClampNeg) n.toNatClampNeg) s H' → W p l e R s m args below meth cd H' locs (cells + 1) (slots + n.toNatClampNeg) Q (F0 m (pc + 2) ls (bi_tr (bi_nx h) :: rest))) : W p l e R s m args below meth cd H locs cells slots Q (F0 m pc ls (.int n :: rest)) := by
  have hs : H.size + 1 = bi_nx h := hr.1.1
  rw [bi_nxr hr] at kk
  have hby : n.toNatClampNeg * componentBytes (newarray.typeOf at0) ≤ 536870912 := by
    rcases ht with ⟨rfl, -⟩ | ⟨rfl, -⟩ | ⟨rfl, -⟩ <;> simp [newarray.typeOf, componentBytes] <;> omega
  refine va_newaK hx hb (bi_hts hr hw rfl) rfl hdg rfl hn rfl hby hcells hslots rfl fun H' cA e1 z1 o1 hAr hNm => ?_
  refine kk H' (hr.born z1 o1 ⟨fun c0 h1 h2 => ?_, fun ty hty => ?_⟩)
  · rw [bi_new_k hs] at h1
    have h1 : t = 10 + c0 := h1
    omega
  · rw [bi_new_k hs] at hty ⊢
    have hty : bi_aty t = some ty := hty
    have hte : ty = newarray.typeOf at0 := by
      rcases ht with ⟨rfl, rfl⟩ | ⟨rfl, rfl⟩ | ⟨rfl, rfl⟩ <;> (simp [bi_aty] at hty; subst hty; rfl)
    subst hte
    refine ⟨_, e1, hAr _ _, (fun z => by cases z), arrV_size _ _ _, fun j hj => ?_, fun C hC => ?_⟩
    · rw [arrV_read _ _ hj]
      rcases ht with ⟨rfl, rfl⟩ | ⟨rfl, rfl⟩ | ⟨rfl, rfl⟩ <;> (simp [bi_av, bi_ai, bi_new, hs, newarray.typeOf, defaultValue] <;> rfl)
    · rcases ht with ⟨rfl, rfl⟩ | ⟨rfl, rfl⟩ | ⟨rfl, rfl⟩ <;> cases hC
theorem bi_anew (hx : p.tables.exec = Jvm.exec) (hb : cd.code = cc) {own : String} {index c : Nat} {q : vw_C} {n : Int32} (hown : s.vm.findClass own = some m.cls) (hr : bi_rp D B0 Hb h s H) (hq : vwCl[c]? = some q) (hcl : Cond.classLink own index q.1 ∈ lw_tbl) (hov : Cond.arrayOver (.object q.1) ∈ lw_tbl) (hn : ¬ n < 0) (hle : n.toNatClampNeg ≤ 1000000) (hdg : decode cc pc = .ok (.anewarray index, 3)) (hcells : cells + 1 ≤ R.cells) (hslots : slots + n.toNatClampNeg ≤ R.slots)
    (kk : ∀ H' : Heap, bi_rp D B0 Hb (bi_new h (40 + c, n.toNatClampNeg) n.toNatClampNeg) s H' → W p l e R s m args below meth cd H' locs (cells + 1) (slots + n.toNatClampNeg) Q (F0 m (pc + 3) ls (bi_tr (bi_nx h) :: rest))) : W p l e R s m args below meth cd H locs cells slots Q (F0 m pc ls (.int n :: rest)) := by
  have h13 := bi_c13 hq
  have hs : H.size + 1 = bi_nx h := hr.1.1
  rw [bi_nxr hr] at kk
  refine W.anew hx hb hown (bi_hts hr hcl rfl) (bi_hts hr hov rfl) rfl hdg rfl hn (by omega) hcells hslots fun cA kA comp h1 h2 h3 h4 => ?_
  have hAr : ArrOfT s cA (.object q.1) := fun n z => ⟨fun k h => (by cases h), kA, h2, comp, h3⟩
  rw [arrV_new]
  refine kk _ (hr.born (by simp) (fun x hx => by rw [Array.getElem?_push, if_neg (Nat.ne_of_lt hx)]) ⟨fun c0 g1 g2 => ?_, fun ty hty => ?_⟩)
  · rw [bi_new_k hs] at g1
    have g1 : 40 + c = 10 + c0 := g1
    omega
  · rw [bi_new_k hs] at hty ⊢
    have hty : bi_aty (40 + c) = some ty := hty
    have hte : ty = .object q.1 := by
      unfold bi_aty at hty
      rw [if_neg (by omega), if_neg (by omega), if_neg (by omega), if_neg (by omega), if_pos (by omega), show 40 + c - 40 = c by omega, hq] at hty
      exact (Option.some.inj hty).symm
    subst hte
    refine ⟨_, Array.getElem?_push_size, hAr _ _, (fun z => by cases z), arrV_size _ _ _, fun j hj => ?_, fun C hC => ?_⟩
    · rw [arrV_read _ _ hj]
      have h3 : ¬ 40 + c = 3 := by omega
      have h40 : 40 ≤ 40 + c := by omega
      simp [bi_av, h3, h40, bi_ar, bi_new, hs, bi_tr]
    · cases hC
      exact ⟨kA, comp, h2, h3, h4⟩
end BN
end
section
/-! the interpreter's straight instructions, of the machine -/
def bi_lq (q : Nat × bi_V) : Nat × Value := (q.1, bi_tv q.2)
/-- the machine at a place of a method, its locals, its stack and its heap as the interpreter has them, comes to Q -/
def bi_At (p : Program) (l : Launch) (e : Env) (R : Room) (s : State) (m : MethodId) (args : Array Value) (below : List Frame) (meth : Method) (cd : Code) (Q : State → Prop) (D : va_G) (B0 : Nat) (Hb : Heap) (nL n0 m0 : Nat) (pc : Nat) (L : bi_L) (st : List bi_V) (h : bi_H) : Prop :=
  ∀ (H : Heap) (locs : List Loc) (ls : Array Slot) (cells slots : Nat), bi_rp D B0 Hb h s H → lv_has ls nL (L.map bi_lq) → (∀ q ∈ L, bi_w q.2 = 1) → (∀ q ∈ locs, B0 ≤ q.base) → n0 + cells = bi_nc h → m0 + slots = bi_ns h → W p l e R s m args below meth cd H locs cells slots Q (F0 m pc ls (st.map bi_tv))
theorem bi_cat (v : bi_V) : (bi_tv v).category = bi_w v := by
  rcases v with x | a | x
  · rfl
  · cases a <;> rfl
  · rfl
theorem bi_lk {L : bi_L} {i : Nat} {v : bi_V} (h : L.lookup i = some v) : (i, v) ∈ L := by
  induction L with
  | nil => cases h
  | cons q L ih =>
    obtain ⟨k, w⟩ := q
    rw [List.lookup_cons] at h
    by_cases e : (i == k) = true
    · rw [e] at h
      cases h
      have e : i = k := by simpa using e
      subst e
      exact List.mem_cons_self
    · have e' : (i == k) = false := by simpa using e
      rw [e'] at h
      exact List.mem_cons_of_mem _ (ih h)
theorem bi_lka {L : bi_L} {i nL : Nat} {v : bi_V} {ls : Array Slot} (h : L.lookup i = some v) (hl : lv_has ls nL (L.map bi_lq)) : ls[i]? = some (.val (bi_tv v)) := hl.2.2 (i, bi_tv v) (List.mem_map.mpr ⟨(i, v), bi_lk h, rfl⟩)
theorem bi_stl {L : bi_L} {i nL : Nat} {v : bi_V} {ls : Array Slot} (hw : ∀ q ∈ L, bi_w q.2 = 1) (hl : lv_has ls nL ((i, bi_tv v) :: (L.map bi_lq).filter (fun q => !(q.1 == i) && !(q.1 + 1 == i && q.2.category == 2)))) : lv_has ls nL ((bi_st L i v).map bi_lq) := by
  refine ⟨hl.1, hl.2.1, fun q hq => hl.2.2 q ?_⟩
  obtain ⟨x, hx, rfl⟩ := List.mem_map.mp hq
  rcases List.mem_cons.mp hx with rfl | hx
  · exact List.mem_cons_self
  · obtain ⟨h1, h2⟩ := List.mem_filter.mp hx
    refine List.mem_cons_of_mem _ (List.mem_filter.mpr ⟨List.mem_map.mpr ⟨x, h1, rfl⟩, ?_⟩)
    have h3 : (bi_lq x).2.category = 1 := by rw [show (bi_lq x).2 = bi_tv x.2 from rfl, bi_cat, hw x h1]
    have h4 : (bi_lq x).1 = x.1 := rfl
    simp only [h3, h4]
    simpa using h2
theorem bi_stw {L : bi_L} {i : Nat} {v : bi_V} (hw : ∀ q ∈ L, bi_w q.2 = 1) (hv : bi_w v = 1) : ∀ q ∈ bi_st L i v, bi_w q.2 = 1 := by
  intro q hq
  rcases List.mem_cons.mp hq with rfl | hq
  · exact hv
  · exact hw q (List.mem_filter.mp hq).1
/-- an instruction's length -/
def bi_len (i : Instr) : Nat := match i with
  | .iload _ | .aload _ | .istore _ | .astore _ | .bipush _ | .ldc _ | .newarray _ => 2
  | .sipush _ | .ldc_w _ | .iinc _ _ | .getfield _ | .putfield _ | .anewarray _ | .new _ | .invokestatic _ | .invokevirtual _ | .invokespecial _ => 3
  | .multianewarray _ _ => 4
  | _ => 1
/-- what must hold of an instruction, its pool entry and the method that it stands in -/
def bi_oki (own : String) (nL : Nat) (ini : Bool) (i : Instr) (r : bi_R) : Prop := match i with
  | .bipush n => (Int8.ofInt n).toInt32 = Int32.ofInt n
  | .sipush n => (Int16.ofInt n).toInt32 = Int32.ofInt n
  | .ldc k => Cond.constant own k (Int32.ofNat r.1) ∈ lw_tbl
  | .ldc_w k => Cond.constant own k (Int32.ofNat r.1) ∈ lw_tbl
  | .istore_n k => k.val < nL
  | .istore k => k < nL
  | .astore_n k => k.val < nL
  | .astore k => k < nL
  | .iinc k _ => k < nL
  | .getfield k => ∃ q, vwCl[r.1]? = some q ∧ r.2.1 < q.2.2 ∧ bi_fl own k q r.2.1 ∧ r.2.2.1 = bi_ft r.1 r.2.1
  | .putfield k => ∃ q, vwCl[r.1]? = some q ∧ r.2.1 < q.2.2 ∧ bi_fl own k q r.2.1 ∧ r.2.2.1 = bi_ft r.1 r.2.1 ∧ ((q.2.1 r.2.1).2.2.2 = false ∨ ((q.2.1 r.2.1).1 = own ∧ ini = true ∧ Cond.fieldLink own k (q.2.1 r.2.1).1 (q.2.1 r.2.1).2.1 (q.2.1 r.2.1).2.2.1 ∈ lw_tbl))
  | .newarray t => Cond.arrayClass (newarray.typeOf t) ∈ lw_tbl
  | .anewarray k => ∃ q, vwCl[r.1]? = some q ∧ Cond.classLink own k q.1 ∈ lw_tbl ∧ Cond.arrayOver (.object q.1) ∈ lw_tbl
  | .new k => ∃ q, vwCl[r.1]? = some q ∧ r.2.1 = q.2.2 ∧ Cond.classLink own k q.1 ∈ lw_tbl ∧ Cond.instantiable q.1 q.2.2 ∈ lw_tbl ∧ Cond.initialized q.1 ∈ lw_tbl
  | .multianewarray k d => d = 2 ∧ Cond.classLink own k "[[I" ∈ lw_tbl ∧ Cond.arrayOver (.array .int) ∈ lw_tbl ∧ Cond.arrayClass .int ∈ lw_tbl
  | _ => True
section BX
variable {p : Program} {l : Launch} {e : Env} {R : Room} {s : State} {m : MethodId} {args : Array Value} {below : List Frame} {meth : Method} {cd : Code} {Q : State → Prop} {D : va_G} {B0 : Nat} {Hb : Heap} {nL n0 m0 : Nat} {cc : ByteArray} {pc : Nat} {own : String} {L L' : bi_L} {st st' : List bi_V} {h h' : bi_H} {ini : Bool} {r : bi_R} {cf : Nat → List bi_V → bi_H → Option (Option bi_V × bi_H)}
theorem bi_s_ldi {k : Nat} {i : Instr} (hx : p.tables.exec = Jvm.exec) (hb : cd.code = cc) (hi : (∃ n : Fin 4, i = .iload_n n ∧ n.val = k) ∨ i = .iload k) (hdg : decode cc pc = .ok (i, bi_len i)) (he : bi_ldi L k st h = some (L', st', h')) (kk : bi_At p l e R s m args below meth cd Q D B0 Hb nL n0 m0 (pc + bi_len i) L' st' h') : bi_At p l e R s m args below meth cd Q D B0 Hb nL n0 m0 pc L st h := by
  intro H locs ls cells slots hr hl hw hlc hc hs
  unfold bi_ldi at he
  split at he
  · rename_i x hx0
    cases he
    have h1 := bi_lka hx0 hl
    rcases hi with ⟨n, rfl, rfl⟩ | rfl
    · exact lv_iload_n hx hb hdg rfl h1 (kk H locs ls cells slots hr hl hw hlc hc hs)
    · exact lv_iload hx hb hdg h1 (kk H locs ls cells slots hr hl hw hlc hc hs)
  · cases he
theorem bi_s_lda {k : Nat} {i : Instr} (hx : p.tables.exec = Jvm.exec) (hb : cd.code = cc) (hi : (∃ n : Fin 4, i = .aload_n n ∧ n.val = k) ∨ i = .aload k) (hdg : decode cc pc = .ok (i, bi_len i)) (he : bi_lda L k st h = some (L', st', h')) (kk : bi_At p l e R s m args below meth cd Q D B0 Hb nL n0 m0 (pc + bi_len i) L' st' h') : bi_At p l e R s m args below meth cd Q D B0 Hb nL n0 m0 pc L st h := by
  intro H locs ls cells slots hr hl hw hlc hc hs
  unfold bi_lda at he
  split at he
  · rename_i a hx0
    cases he
    have h1 := bi_lka hx0 hl
    have k1 := kk H locs ls cells slots hr hl hw hlc hc hs
    cases a with
    | zero =>
      rcases hi with ⟨n, rfl, rfl⟩ | rfl
      · exact lv_aload_nN hx hb hdg rfl h1 k1
      · exact lv_aloadN hx hb hdg h1 k1
    | succ a =>
      rcases hi with ⟨n, rfl, rfl⟩ | rfl
      · exact lv_aload_n hx hb hdg rfl h1 k1
      · exact lv_aload hx hb hdg h1 k1
  · cases he
theorem bi_s_sti {k : Nat} {i : Instr} (hx : p.tables.exec = Jvm.exec) (hb : cd.code = cc) (hi : (∃ n : Fin 4, i = .istore_n n ∧ n.val = k) ∨ i = .istore k) (hk : k < nL) (hdg : decode cc pc = .ok (i, bi_len i)) (he : bi_sti L k st h = some (L', st', h')) (kk : bi_At p l e R s m args below meth cd Q D B0 Hb nL n0 m0 (pc + bi_len i) L' st' h') : bi_At p l e R s m args below meth cd Q D B0 Hb nL n0 m0 pc L st h := by
  intro H locs ls cells slots hr hl hw hlc hc hs
  unfold bi_sti at he
  split at he
  · rename_i x st0
    cases he
    have k1 : ∀ ls' : Array Slot, lv_has ls' nL ((k, Value.int x) :: (L.map bi_lq).filter (fun q => !(q.1 == k) && !(q.1 + 1 == k && q.2.category == 2))) → W p l e R s m args below meth cd H locs cells slots Q (F0 m (pc + bi_len i) ls' (st'.map bi_tv)) := fun ls' h9 => kk H locs ls' cells slots hr (bi_stl (v := .inl x) hw h9) (bi_stw hw rfl) hlc hc hs
    rcases hi with ⟨n, rfl, rfl⟩ | rfl
    · exact lv_istore_n hx hb hdg rfl hl hk rfl k1
    · exact lv_istore hx hb hdg hl hk rfl k1
  · cases he
theorem bi_s_sta {k : Nat} {i : Instr} (hx : p.tables.exec = Jvm.exec) (hb : cd.code = cc) (hi : (∃ n : Fin 4, i = .astore_n n ∧ n.val = k) ∨ i = .astore k) (hk : k < nL) (hdg : decode cc pc = .ok (i, bi_len i)) (he : bi_sta L k st h = some (L', st', h')) (kk : bi_At p l e R s m args below meth cd Q D B0 Hb nL n0 m0 (pc + bi_len i) L' st' h') : bi_At p l e R s m args below meth cd Q D B0 Hb nL n0 m0 pc L st h := by
  intro H locs ls cells slots hr hl hw hlc hc hs
  unfold bi_sta at he
  split at he
  · rename_i a st0
    cases he
    have k1 : ∀ ls' : Array Slot, lv_has ls' nL ((k, bi_tr a) :: (L.map bi_lq).filter (fun q => !(q.1 == k) && !(q.1 + 1 == k && q.2.category == 2))) → W p l e R s m args below meth cd H locs cells slots Q (F0 m (pc + bi_len i) ls' (st'.map bi_tv)) := fun ls' h9 => kk H locs ls' cells slots hr (bi_stl (v := .inr (.inl a)) hw h9) (bi_stw hw rfl) hlc hc hs
    cases a with
    | zero =>
      rcases hi with ⟨n, rfl, rfl⟩ | rfl
      · exact lv_astore_nN hx hb hdg rfl hl hk rfl k1
      · exact lv_astoreN hx hb hdg hl hk rfl k1
    | succ a =>
      rcases hi with ⟨n, rfl, rfl⟩ | rfl
      · exact lv_astore_n hx hb hdg rfl hl hk rfl k1
      · exact lv_astore hx hb hdg hl hk rfl k1
  · cases he
end BX
end
section
/-! the interpreter's straight instructions, of the machine: numbers, fields, arrays, new cells -/
section BY
variable {p : Program} {l : Launch} {e : Env} {R : Room} {s : State} {m : MethodId} {args : Array Value} {below : List Frame} {meth : Method} {cd : Code} {Q : State → Prop} {D : va_G} {B0 : Nat} {Hb : Heap} {nL n0 m0 : Nat} {cc : ByteArray} {pc : Nat} {own : String} {L L' : bi_L} {st st' : List bi_V} {h h' : bi_H} {ini : Bool} {r : bi_R} {cf : Nat → List bi_V → bi_H → Option (Option bi_V × bi_H)}
theorem bi_s_op2 {f : Int32 → Int32 → Int32} (row : ∀ (x y : Int32) (H : Heap) (locs : List Loc) (ls : Array Slot) (cells slots : Nat) (rest : List Value), W p l e R s m args below meth cd H locs cells slots Q (F0 m (pc + 1) ls (.int (f x y) :: rest)) → W p l e R s m args below meth cd H locs cells slots Q (F0 m pc ls (.int y :: .int x :: rest))) (he : bi_op2 f L st h = some (L', st', h')) (kk : bi_At p l e R s m args below meth cd Q D B0 Hb nL n0 m0 (pc + 1) L' st' h') : bi_At p l e R s m args below meth cd Q D B0 Hb nL n0 m0 pc L st h := by
  intro H locs ls cells slots hr hl hw hlc hc hs
  unfold bi_op2 at he
  split at he
  · cases he
    exact row _ _ H locs ls cells slots _ (kk H locs ls cells slots hr hl hw hlc hc hs)
  · cases he
theorem bi_s_num {v : Int32} {n : Nat} (row : ∀ (H : Heap) (locs : List Loc) (ls : Array Slot) (cells slots : Nat) (rest : List Value) (s0 : bi_rp D B0 Hb h s H), W p l e R s m args below meth cd H locs cells slots Q (F0 m (pc + n) ls (.int v :: rest)) → W p l e R s m args below meth cd H locs cells slots Q (F0 m pc ls rest)) (kk : bi_At p l e R s m args below meth cd Q D B0 Hb nL n0 m0 (pc + n) L (.inl v :: st) h) : bi_At p l e R s m args below meth cd Q D B0 Hb nL n0 m0 pc L st h := by
  intro H locs ls cells slots hr hl hw hlc hc hs
  exact row H locs ls cells slots _ hr (kk H locs ls cells slots hr hl hw hlc hc hs)
theorem bi_s_iinc {k : Nat} {v : Int} (hx : p.tables.exec = Jvm.exec) (hb : cd.code = cc) (hk : k < nL) (hdg : decode cc pc = .ok (.iinc k v, 3)) (he : bi_x cf (.iinc k v) r L st h = some (L', st', h')) (kk : bi_At p l e R s m args below meth cd Q D B0 Hb nL n0 m0 (pc + 3) L' st' h') : bi_At p l e R s m args below meth cd Q D B0 Hb nL n0 m0 pc L st h := by
  intro H locs ls cells slots hr hl hw hlc hc hs
  unfold bi_x at he
  dsimp only at he
  split at he
  · rename_i x hx0
    cases he
    have hm : (k, bi_tv (.inl x)) ∈ L.map bi_lq := List.mem_map.mpr ⟨(k, .inl x), bi_lk hx0, rfl⟩
    obtain ⟨j, hj⟩ := List.getElem?_of_mem hm
    exact lv_iinc hx hb hdg hl hj rfl hk rfl (fun ls' h9 => kk H locs ls' cells slots hr (bi_stl (v := .inl (x + Int32.ofInt v)) hw h9) (bi_stw hw rfl) hlc hc hs)
  · cases he
theorem bi_s_div (hx : p.tables.exec = Jvm.exec) (hb : cd.code = cc) (hdg : decode cc pc = .ok (.idiv, 1)) (he : bi_x cf .idiv r L st h = some (L', st', h')) (kk : bi_At p l e R s m args below meth cd Q D B0 Hb nL n0 m0 (pc + 1) L' st' h') : bi_At p l e R s m args below meth cd Q D B0 Hb nL n0 m0 pc L st h := by
  intro H locs ls cells slots hr hl hw hlc hc hs
  unfold bi_x at he
  dsimp only at he
  split at he
  · split at he
    · cases he
    · rename_i hy
      cases he
      exact lv_idiv hx hb hdg hy (kk H locs ls cells slots hr hl hw hlc hc hs)
  · cases he
theorem bi_s_rem (hx : p.tables.exec = Jvm.exec) (hb : cd.code = cc) (hdg : decode cc pc = .ok (.irem, 1)) (he : bi_x cf .irem r L st h = some (L', st', h')) (kk : bi_At p l e R s m args below meth cd Q D B0 Hb nL n0 m0 (pc + 1) L' st' h') : bi_At p l e R s m args below meth cd Q D B0 Hb nL n0 m0 pc L st h := by
  intro H locs ls cells slots hr hl hw hlc hc hs
  unfold bi_x at he
  dsimp only at he
  split at he
  · split at he
    · cases he
    · rename_i hy
      cases he
      exact lv_irem hx hb hdg hy (kk H locs ls cells slots hr hl hw hlc hc hs)
  · cases he
theorem bi_lt64 (x y : Int32) : x.toInt64 < y.toInt64 ↔ x < y := by
  rw [Int64.lt_iff_toInt_lt, Int32.lt_iff_toInt_lt, Int32.toInt_toInt64, Int32.toInt_toInt64]
theorem bi_eq64 (x y : Int32) : x.toInt64 = y.toInt64 ↔ x = y := by
  rw [← Int64.toInt_inj, ← Int32.toInt_inj, Int32.toInt_toInt64, Int32.toInt_toInt64]
theorem bi_lcmp (x y : Int32) : lg_cmp x.toInt64 y.toInt64 = (if y < x then 1 else if x = y then 0 else -1) := by
  simp only [lg_cmp, bi_lt64, bi_eq64]
theorem bi_s_i2l (hx : p.tables.exec = Jvm.exec) (hb : cd.code = cc) (hdg : decode cc pc = .ok (.i2l, 1)) (he : bi_x cf .i2l r L st h = some (L', st', h')) (kk : bi_At p l e R s m args below meth cd Q D B0 Hb nL n0 m0 (pc + 1) L' st' h') : bi_At p l e R s m args below meth cd Q D B0 Hb nL n0 m0 pc L st h := by
  intro H locs ls cells slots hr hl hw hlc hc hs
  unfold bi_x at he
  dsimp only at he
  split at he
  · cases he
    exact lv_i2l hx hb hdg rfl (kk H locs ls cells slots hr hl hw hlc hc hs)
  · cases he
theorem bi_s_lcmp (hx : p.tables.exec = Jvm.exec) (hb : cd.code = cc) (hdg : decode cc pc = .ok (.lcmp, 1)) (he : bi_x cf .lcmp r L st h = some (L', st', h')) (kk : bi_At p l e R s m args below meth cd Q D B0 Hb nL n0 m0 (pc + 1) L' st' h') : bi_At p l e R s m args below meth cd Q D B0 Hb nL n0 m0 pc L st h := by
  intro H locs ls cells slots hr hl hw hlc hc hs
  unfold bi_x at he
  dsimp only at he
  split at he
  · rename_i y x st0
    cases he
    refine W.lcmp hx hb hdg ?_
    rw [bi_lcmp]
    exact kk H locs ls cells slots hr hl hw hlc hc hs
  · cases he
theorem bi_s_dup (hx : p.tables.exec = Jvm.exec) (hb : cd.code = cc) (hdg : decode cc pc = .ok (.dup, 1)) (he : bi_x cf .dup r L st h = some (L', st', h')) (kk : bi_At p l e R s m args below meth cd Q D B0 Hb nL n0 m0 (pc + 1) L' st' h') : bi_At p l e R s m args below meth cd Q D B0 Hb nL n0 m0 pc L st h := by
  intro H locs ls cells slots hr hl hw hlc hc hs
  unfold bi_x at he
  dsimp only at he
  split at he
  · split at he
    · rename_i hv
      cases he
      exact lv_dup hx hb hdg (by rw [bi_cat]; exact hv) (kk H locs ls cells slots hr hl hw hlc hc hs)
    · cases he
  · cases he
theorem bi_s_dup2 (hx : p.tables.exec = Jvm.exec) (hb : cd.code = cc) (hdg : decode cc pc = .ok (.dup2, 1)) (he : bi_x cf .dup2 r L st h = some (L', st', h')) (kk : bi_At p l e R s m args below meth cd Q D B0 Hb nL n0 m0 (pc + 1) L' st' h') : bi_At p l e R s m args below meth cd Q D B0 Hb nL n0 m0 pc L st h := by
  intro H locs ls cells slots hr hl hw hlc hc hs
  unfold bi_x at he
  dsimp only at he
  split at he
  · split at he
    · rename_i hv
      cases he
      exact lv_dup2_11 hx hb hdg (by rw [bi_cat]; exact hv.1) (by rw [bi_cat]; exact hv.2) (kk H locs ls cells slots hr hl hw hlc hc hs)
    · cases he
  · cases he
theorem bi_kz {H : Heap} (hr : bi_rp D B0 Hb h s H) {a : Nat} (ha : (bi_k h a).1 ≠ 0) : ∃ b, a = b + 1 := by
  cases a with
  | zero => exact absurd hr.2.2.2.1 ha
  | succ b => exact ⟨b, rfl⟩
theorem bi_s_get {k : Nat} (hx : p.tables.exec = Jvm.exec) (hb : cd.code = cc) (hown : s.vm.findClass own = some m.cls) (hok : bi_oki own nL ini (.getfield k) r) (hdg : decode cc pc = .ok (.getfield k, 3)) (he : bi_x cf (.getfield k) r L st h = some (L', st', h')) (kk : bi_At p l e R s m args below meth cd Q D B0 Hb nL n0 m0 (pc + 3) L' st' h') : bi_At p l e R s m args below meth cd Q D B0 Hb nL n0 m0 pc L st h := by
  intro H locs ls cells slots hr hl hw hlc hc hs
  obtain ⟨q, hq, hkn, hfl, hft⟩ := hok
  unfold bi_x at he
  dsimp only at he
  split at he
  · rename_i a st0
    split at he
    · rename_i ha
      cases he
      obtain ⟨b, rfl⟩ := bi_kz hr (a := a) (by omega)
      have k1 := kk H locs ls cells slots hr hl hw hlc hc hs
      refine bi_get hx hb hown hr ha hq hkn hfl hdg ?_
      rw [hft] at k1
      have e0 : bi_tv (if bi_ft r.1 r.2.1 = 1 then .inr (.inl (bi_fr h r.1 r.2.1 (b + 1))) else .inl (bi_fi h r.1 r.2.1 (b + 1))) = bi_fv h r.1 r.2.1 (b + 1) := by
        unfold bi_fv
        split <;> rfl
      rw [List.map_cons, e0] at k1
      exact k1
    · cases he
  · cases he
theorem bi_s_put {k : Nat} (hx : p.tables.exec = Jvm.exec) (hb : cd.code = cc) (hown : s.vm.findClass own = some m.cls) (hini : ini = true → meth.name = "<init>") (hok : bi_oki own nL ini (.putfield k) r) (hdg : decode cc pc = .ok (.putfield k, 3)) (he : bi_x cf (.putfield k) r L st h = some (L', st', h')) (kk : bi_At p l e R s m args below meth cd Q D B0 Hb nL n0 m0 (pc + 3) L' st' h') : bi_At p l e R s m args below meth cd Q D B0 Hb nL n0 m0 pc L st h := by
  intro H locs ls cells slots hr hl hw hlc hc hs
  obtain ⟨q, hq, hkn, hfl, hft, hfin⟩ := hok
  have h13 := bi_c13 hq
  have h39 := Nat.lt_of_lt_of_le hkn (bi_n39 _ q hq)
  have hfin' : (q.2.1 r.2.1).2.2.2 = false ∨ ((q.2.1 r.2.1).1 = own ∧ meth.name = "<init>" ∧ Cond.fieldLink own k (q.2.1 r.2.1).1 (q.2.1 r.2.1).2.1 (q.2.1 r.2.1).2.2.1 ∈ lw_tbl) := hfin.imp id (fun z => ⟨z.1, hini z.2.1, z.2.2⟩)
  have hlc' : ∀ {a i : Nat}, B0 ≤ a → ∀ z ∈ locs ++ [(⟨a, i⟩ : Loc)], B0 ≤ z.base := fun ha z hz => by
    rcases List.mem_append.mp hz with hz | hz
    · exact hlc z hz
    · rw [List.mem_singleton.mp hz]; exact ha
  unfold bi_x at he
  dsimp only at he
  split at he
  · rename_i x a st0
    split at he
    · rename_i ha
      cases he
      obtain ⟨b, rfl⟩ := bi_kz hr (a := a) (by omega)
      have hB : B0 ≤ b := (hr.2.2.2.2.1 b (by omega)).2 (by omega)
      have hft1 : bi_ft r.1 r.2.1 ≠ 1 := by omega
      have hn : narrow (bi_ty r.1 r.2.1) (.int x) = .int x ∧ fits (bi_ty r.1 r.2.1) (.int x) = true := by
        rcases ha.2 with z | ⟨z, z2⟩
        · rw [bi_ty_i _ h13 _ h39 (by omega)]
          exact ⟨rfl, rfl⟩
        · rw [bi_ty_z _ h13 _ h39 (by omega)]
          exact bi_nar_z z2
      refine bi_put (h' := bi_sfi h r.1 r.2.1 (b + 1) x) hx hb hown hr ha.1 hq hkn hfl hfin' hn (fun _ => rfl) rfl (fun c0 k0 b0 hb0 => ?_) (fun j => ?_) (fun t b0 j0 _ => rfl) hdg (fun H' i hr' => kk H' _ ls cells slots hr' hl hw (hlc' hB) hc hs)
      · simp [bi_fv, bi_fr, bi_fi, bi_sfi, hb0]
      · by_cases ej : j = r.2.1
        · subst ej
          simp [bi_fv, bi_fr, bi_fi, bi_sfi, updV, hft1, bi_tv]
        · simp [bi_fv, bi_fr, bi_fi, bi_sfi, updV, ej]
    · cases he
  · rename_i x a st0
    split at he
    · rename_i ha
      cases he
      obtain ⟨b, rfl⟩ := bi_kz hr (a := a) (by omega)
      have hB : B0 ≤ b := (hr.2.2.2.2.1 b (by omega)).2 (by omega)
      have hft1 : bi_ft r.1 r.2.1 = 1 := by omega
      have hn := bi_nar_r (bi_ty_r _ h13 _ h39 hft1) x
      refine bi_put (v := bi_tr x) (h' := bi_sfr h r.1 r.2.1 (b + 1) x) hx hb hown hr ha.1 hq hkn hfl hfin' hn (fun _ => rfl) rfl (fun c0 k0 b0 hb0 => ?_) (fun j => ?_) (fun t b0 j0 _ => rfl) hdg (fun H' i hr' => kk H' _ ls cells slots hr' hl hw (hlc' hB) hc hs)
      · simp [bi_fv, bi_fr, bi_fi, bi_sfr, hb0]
      · by_cases ej : j = r.2.1
        · subst ej
          simp [bi_fv, bi_fr, bi_fi, bi_sfr, updV, hft1]
        · simp [bi_fv, bi_fr, bi_fi, bi_sfr, updV, ej]
    · cases he
  · cases he
end BY
end
section
/-! the interpreter's straight instructions, of the machine: arrays, new cells; then all of them -/
section BZ
variable {p : Program} {l : Launch} {e : Env} {R : Room} {s : State} {m : MethodId} {args : Array Value} {below : List Frame} {meth : Method} {cd : Code} {Q : State → Prop} {D : va_G} {B0 : Nat} {Hb : Heap} {nL n0 m0 : Nat} {cc : ByteArray} {pc : Nat} {own : String} {L L' : bi_L} {st st' : List bi_V} {h h' : bi_H} {ini : Bool} {r : bi_R} {cf : Nat → List bi_V → bi_H → Option (Option bi_V × bi_H)}
theorem bi_lcs {locs : List Loc} {B0 a i : Nat} (hlc : ∀ z ∈ locs, B0 ≤ z.base) (ha : B0 ≤ a) : ∀ z ∈ locs ++ [(⟨a, i⟩ : Loc)], B0 ≤ z.base := fun z hz => by
  rcases List.mem_append.mp hz with hz | hz
  · exact hlc z hz
  · rw [List.mem_singleton.mp hz]; exact ha
theorem bi_lo {H : Heap} (hr : bi_rp D B0 Hb h s H) {b : Nat} (h0 : (bi_k h (b + 1)).1 ≠ 0) (h4 : (bi_k h (b + 1)).1 ≠ 4) : B0 ≤ b := (hr.2.2.2.2.1 b h0).2 h4
theorem bi_s_iald (hx : p.tables.exec = Jvm.exec) (hb : cd.code = cc) (hdg : decode cc pc = .ok (.iaload, 1)) (he : bi_x cf .iaload r L st h = some (L', st', h')) (kk : bi_At p l e R s m args below meth cd Q D B0 Hb nL n0 m0 (pc + 1) L' st' h') : bi_At p l e R s m args below meth cd Q D B0 Hb nL n0 m0 pc L st h := by
  intro H locs ls cells slots hr hl hw hlc hc hs
  unfold bi_x at he
  dsimp only at he
  split at he
  · split at he
    · rename_i j a st0 ha
      cases he
      obtain ⟨b, rfl⟩ := bi_kz hr (a := a) (by omega)
      exact bi_iald hx hb hr ha.1 ha.2.1 ha.2.2 hdg (kk H locs ls cells slots hr hl hw hlc hc hs)
    · cases he
  · cases he
theorem bi_s_bald (hx : p.tables.exec = Jvm.exec) (hb : cd.code = cc) (hdg : decode cc pc = .ok (.baload, 1)) (he : bi_x cf .baload r L st h = some (L', st', h')) (kk : bi_At p l e R s m args below meth cd Q D B0 Hb nL n0 m0 (pc + 1) L' st' h') : bi_At p l e R s m args below meth cd Q D B0 Hb nL n0 m0 pc L st h := by
  intro H locs ls cells slots hr hl hw hlc hc hs
  unfold bi_x at he
  dsimp only at he
  split at he
  · split at he
    · rename_i j a st0 ha
      cases he
      obtain ⟨b, rfl⟩ := bi_kz hr (a := a) (by omega)
      exact bi_zald hx hb hr ha.1 ha.2.1 ha.2.2 hdg (kk H locs ls cells slots hr hl hw hlc hc hs)
    · cases he
  · cases he
theorem bi_s_lald (hx : p.tables.exec = Jvm.exec) (hb : cd.code = cc) (hdg : decode cc pc = .ok (.laload, 1)) (he : bi_x cf .laload r L st h = some (L', st', h')) (kk : bi_At p l e R s m args below meth cd Q D B0 Hb nL n0 m0 (pc + 1) L' st' h') : bi_At p l e R s m args below meth cd Q D B0 Hb nL n0 m0 pc L st h := by
  intro H locs ls cells slots hr hl hw hlc hc hs
  unfold bi_x at he
  dsimp only at he
  split at he
  · split at he
    · rename_i j a st0 ha
      cases he
      obtain ⟨b, rfl⟩ := bi_kz hr (a := a) (by omega)
      exact bi_lald hx hb hr ha.1 ha.2.1 ha.2.2 hdg (kk H locs ls cells slots hr hl hw hlc hc hs)
    · cases he
  · cases he
theorem bi_aty_q {c : Nat} (h : c < 13) : ∃ q, vwCl[c]? = some q ∧ bi_aty (40 + c) = some (.object q.1) := by
  have hl : c < vwCl.length := h
  refine ⟨vwCl[c], List.getElem?_eq_getElem hl, ?_⟩
  unfold bi_aty
  rw [if_neg (by omega), if_neg (by omega), if_neg (by omega), if_neg (by omega), if_pos (by omega), show 40 + c - 40 = c by omega, List.getElem?_eq_getElem hl]
  rfl
theorem bi_aty_some {t : Nat} (h : (1 ≤ t ∧ t ≤ 5) ∨ (40 ≤ t ∧ t < 53)) : ∃ ty, bi_aty t = some ty := by
  rcases h with ⟨h1, h2⟩ | ⟨h1, h2⟩
  · have : t = 1 ∨ t = 2 ∨ t = 3 ∨ t = 4 ∨ t = 5 := by omega
    rcases this with rfl | rfl | rfl | rfl | rfl <;> exact ⟨_, rfl⟩
  · obtain ⟨q, -, hq⟩ := bi_aty_q (c := t - 40) (by omega)
    rw [show 40 + (t - 40) = t by omega] at hq
    exact ⟨_, hq⟩
theorem bi_s_aald (hx : p.tables.exec = Jvm.exec) (hb : cd.code = cc) (hdg : decode cc pc = .ok (.aaload, 1)) (he : bi_x cf .aaload r L st h = some (L', st', h')) (kk : bi_At p l e R s m args below meth cd Q D B0 Hb nL n0 m0 (pc + 1) L' st' h') : bi_At p l e R s m args below meth cd Q D B0 Hb nL n0 m0 pc L st h := by
  intro H locs ls cells slots hr hl hw hlc hc hs
  unfold bi_x at he
  dsimp only at he
  split at he
  · split at he
    · rename_i j a st0 ha
      cases he
      obtain ⟨b, rfl⟩ := bi_kz hr (a := a) (by omega)
      obtain ⟨ty, hty⟩ := bi_aty_some (t := (bi_k h (b + 1)).1) (by omega)
      exact bi_aald hx hb hr (by omega) hty ha.2.1 ha.2.2 hdg (kk H locs ls cells slots hr hl hw hlc hc hs)
    · cases he
  · cases he
theorem bi_s_alen (hx : p.tables.exec = Jvm.exec) (hb : cd.code = cc) (hdg : decode cc pc = .ok (.arraylength, 1)) (he : bi_x cf .arraylength r L st h = some (L', st', h')) (kk : bi_At p l e R s m args below meth cd Q D B0 Hb nL n0 m0 (pc + 1) L' st' h') : bi_At p l e R s m args below meth cd Q D B0 Hb nL n0 m0 pc L st h := by
  intro H locs ls cells slots hr hl hw hlc hc hs
  unfold bi_x at he
  dsimp only at he
  split at he
  · split at he
    · rename_i a st0 ha
      cases he
      obtain ⟨b, rfl⟩ := bi_kz hr (a := a) (by omega)
      obtain ⟨ty, hty⟩ := bi_aty_some ha
      exact bi_alen hx hb hr hty hdg (kk H locs ls cells slots hr hl hw hlc hc hs)
    · cases he
  · cases he
theorem bi_s_iast (hx : p.tables.exec = Jvm.exec) (hb : cd.code = cc) (hdg : decode cc pc = .ok (.iastore, 1)) (he : bi_x cf .iastore r L st h = some (L', st', h')) (kk : bi_At p l e R s m args below meth cd Q D B0 Hb nL n0 m0 (pc + 1) L' st' h') : bi_At p l e R s m args below meth cd Q D B0 Hb nL n0 m0 pc L st h := by
  intro H locs ls cells slots hr hl hw hlc hc hs
  unfold bi_x at he
  dsimp only at he
  split at he
  · split at he
    · rename_i x j a st0 ha
      cases he
      obtain ⟨b, rfl⟩ := bi_kz hr (a := a) (by omega)
      exact bi_iast hx hb hr ha.1 ha.2.1 ha.2.2 hdg (fun H' i hr' => kk H' _ ls cells slots hr' hl hw (bi_lcs hlc (bi_lo hr (by omega) (by omega))) hc hs)
    · cases he
  · cases he
theorem bi_s_bast (hx : p.tables.exec = Jvm.exec) (hb : cd.code = cc) (hdg : decode cc pc = .ok (.bastore, 1)) (he : bi_x cf .bastore r L st h = some (L', st', h')) (kk : bi_At p l e R s m args below meth cd Q D B0 Hb nL n0 m0 (pc + 1) L' st' h') : bi_At p l e R s m args below meth cd Q D B0 Hb nL n0 m0 pc L st h := by
  intro H locs ls cells slots hr hl hw hlc hc hs
  unfold bi_x at he
  dsimp only at he
  split at he
  · split at he
    · rename_i x j a st0 ha
      cases he
      obtain ⟨b, rfl⟩ := bi_kz hr (a := a) (by omega)
      exact bi_zast hx hb hr ha.1 ha.2.1 ha.2.2.1 ha.2.2.2 hdg (fun H' i hr' => kk H' _ ls cells slots hr' hl hw (bi_lcs hlc (bi_lo hr (by omega) (by omega))) hc hs)
    · cases he
  · cases he
theorem bi_s_last (hx : p.tables.exec = Jvm.exec) (hb : cd.code = cc) (hdg : decode cc pc = .ok (.lastore, 1)) (he : bi_x cf .lastore r L st h = some (L', st', h')) (kk : bi_At p l e R s m args below meth cd Q D B0 Hb nL n0 m0 (pc + 1) L' st' h') : bi_At p l e R s m args below meth cd Q D B0 Hb nL n0 m0 pc L st h := by
  intro H locs ls cells slots hr hl hw hlc hc hs
  unfold bi_x at he
  dsimp only at he
  split at he
  · split at he
    · rename_i x j a st0 ha
      cases he
      obtain ⟨b, rfl⟩ := bi_kz hr (a := a) (by omega)
      exact bi_last hx hb hr ha.1 ha.2.1 ha.2.2 hdg (fun H' i hr' => kk H' _ ls cells slots hr' hl hw (bi_lcs hlc (bi_lo hr (by omega) (by omega))) hc hs)
    · cases he
  · cases he
theorem bi_s_aast (hx : p.tables.exec = Jvm.exec) (hb : cd.code = cc) (hdg : decode cc pc = .ok (.aastore, 1)) (he : bi_x cf .aastore r L st h = some (L', st', h')) (kk : bi_At p l e R s m args below meth cd Q D B0 Hb nL n0 m0 (pc + 1) L' st' h') : bi_At p l e R s m args below meth cd Q D B0 Hb nL n0 m0 pc L st h := by
  intro H locs ls cells slots hr hl hw hlc hc hs
  unfold bi_x at he
  dsimp only at he
  split at he
  · split at he
    · rename_i x j a st0 ha
      cases he
      obtain ⟨b, rfl⟩ := bi_kz hr (a := a) (by omega)
      obtain ⟨q, hq, -⟩ := bi_aty_q (c := (bi_k h (b + 1)).1 - 40) (by omega)
      exact bi_aast hx hb hr (c := (bi_k h (b + 1)).1 - 40) (by omega) hq (ha.2.1.imp id (fun z => by omega)) ha.2.2.1 ha.2.2.2 hdg (fun H' i hr' => kk H' _ ls cells slots hr' hl hw (bi_lcs hlc (bi_lo hr (by omega) (by omega))) hc hs)
    · cases he
  · cases he
theorem bi_s_newa {t : ArrayType} (hx : p.tables.exec = Jvm.exec) (hb : cd.code = cc) (hok : bi_oki own nL ini (.newarray t) r) (hdg : decode cc pc = .ok (.newarray t, 2)) (he : bi_x cf (.newarray t) r L st h = some (L', st', h')) (hRc : bi_nc h' ≤ n0 + R.cells) (hRs : bi_ns h' ≤ m0 + R.slots) (kk : bi_At p l e R s m args below meth cd Q D B0 Hb nL n0 m0 (pc + 2) L' st' h') : bi_At p l e R s m args below meth cd Q D B0 Hb nL n0 m0 pc L st h := by
  intro H locs ls cells slots hr hl hw hlc hc hs
  unfold bi_x at he
  dsimp only at he
  split at he
  · split at he
    · rename_i n st0 ha
      cases he
      have ht : (t = .int ∧ (if t = .int then 1 else if t = .boolean then 2 else 3) = 1) ∨ (t = .boolean ∧ (if t = .int then 1 else if t = .boolean then 2 else 3) = 2) ∨ (t = .long ∧ (if t = .int then 1 else if t = .boolean then 2 else 3) = 3) := by
        rcases ha.2.2 with rfl | rfl | rfl
        · exact Or.inl ⟨rfl, rfl⟩
        · exact Or.inr (Or.inl ⟨rfl, rfl⟩)
        · exact Or.inr (Or.inr ⟨rfl, rfl⟩)
      have e1 : bi_nc (bi_new h (if t = .int then 1 else if t = .boolean then 2 else 3, n.toNatClampNeg) n.toNatClampNeg) = bi_nc h + 1 := rfl
      have e2 : bi_ns (bi_new h (if t = .int then 1 else if t = .boolean then 2 else 3, n.toNatClampNeg) n.toNatClampNeg) = bi_ns h + n.toNatClampNeg := rfl
      exact bi_newa hx hb hr ht hok ha.1 ha.2.1 hdg (by omega) (by omega) (fun H' hr' => kk H' locs ls (cells + 1) (slots + n.toNatClampNeg) hr' hl hw hlc (by omega) (by omega))
    · cases he
  · cases he
theorem bi_s_anew {k : Nat} (hx : p.tables.exec = Jvm.exec) (hb : cd.code = cc) (hown : s.vm.findClass own = some m.cls) (hok : bi_oki own nL ini (.anewarray k) r) (hdg : decode cc pc = .ok (.anewarray k, 3)) (he : bi_x cf (.anewarray k) r L st h = some (L', st', h')) (hRc : bi_nc h' ≤ n0 + R.cells) (hRs : bi_ns h' ≤ m0 + R.slots) (kk : bi_At p l e R s m args below meth cd Q D B0 Hb nL n0 m0 (pc + 3) L' st' h') : bi_At p l e R s m args below meth cd Q D B0 Hb nL n0 m0 pc L st h := by
  intro H locs ls cells slots hr hl hw hlc hc hs
  obtain ⟨q, hq, h1, h2⟩ := hok
  unfold bi_x at he
  dsimp only at he
  split at he
  · split at he
    · rename_i n st0 ha
      cases he
      have e1 : bi_nc (bi_new h (40 + r.1, n.toNatClampNeg) n.toNatClampNeg) = bi_nc h + 1 := rfl
      have e2 : bi_ns (bi_new h (40 + r.1, n.toNatClampNeg) n.toNatClampNeg) = bi_ns h + n.toNatClampNeg := rfl
      exact bi_anew hx hb hown hr hq h1 h2 ha.1 ha.2 hdg (by omega) (by omega) (fun H' hr' => kk H' locs ls (cells + 1) (slots + n.toNatClampNeg) hr' hl hw hlc (by omega) (by omega))
    · cases he
  · cases he
theorem bi_s_new {k : Nat} (hx : p.tables.exec = Jvm.exec) (hb : cd.code = cc) (hown : s.vm.findClass own = some m.cls) (hok : bi_oki own nL ini (.new k) r) (hdg : decode cc pc = .ok (.new k, 3)) (he : bi_x cf (.new k) r L st h = some (L', st', h')) (hRc : bi_nc h' ≤ n0 + R.cells) (hRs : bi_ns h' ≤ m0 + R.slots) (kk : bi_At p l e R s m args below meth cd Q D B0 Hb nL n0 m0 (pc + 3) L' st' h') : bi_At p l e R s m args below meth cd Q D B0 Hb nL n0 m0 pc L st h := by
  intro H locs ls cells slots hr hl hw hlc hc hs
  obtain ⟨q, hq, hN, h1, h2, h3⟩ := hok
  unfold bi_x at he
  dsimp only at he
  cases he
  have e1 : bi_nc (bi_new h (10 + r.1, 0) r.2.1) = bi_nc h + 1 := rfl
  have e2 : bi_ns (bi_new h (10 + r.1, 0) r.2.1) = bi_ns h + r.2.1 := rfl
  refine bi_newc hx hb hown hr hq h1 h2 h3 hdg (by omega) (by omega) (fun H' hr' => ?_)
  rw [← hN] at hr' ⊢
  exact kk H' locs ls (cells + 1) (slots + r.2.1) hr' hl hw hlc (by omega) (by omega)
end BZ
end
section
/-! new int[n][m] -/
theorem bi_outer (c : ClassId) (N h0 : Nat) : ∀ i : Nat, Jvm.Free.Multi.outerC c N h0 i = arrV c N (fun j => bi_tr (if j < i then h0 + 1 + j + 1 else 0))
  | 0 => by
    show ({ cls := c, slots := Array.replicate N .null, vm := .none } : Cell) = _
    rw [arrV_new]
    refine congrArg (arrV c N) (funext fun j => ?_)
    simp [bi_tr]
  | i + 1 => by
    show (Jvm.Free.Multi.outerC c N h0 i).setSlot i (.ref (h0 + 1 + i)) = _
    rw [bi_outer c N h0 i, arrV_store]
    refine congrArg (arrV c N) (funext fun j => ?_)
    by_cases e : j = i
    · subst e
      simp [updV, bi_tr]
    · by_cases h : j < i
      · simp [updV, e, h, Nat.lt_succ_of_lt h]
      · simp [updV, e, h, show ¬ j < i + 1 by omega]
theorem bi_rp.born2 {D : va_G} {B0 : Nat} {Hb : Heap} {s : State} {h : bi_H} {H H' : Heap} {N K : Nat} (hr : bi_rp D B0 Hb h s H) (hz : H'.size = H.size + 1 + N) (ho : ∀ q, q < H.size → H'[q]? = H[q]?) (h5 : bi_ca s (bi_new2 h N K) H' H.size 5 N) (h1 : ∀ j, j < N → bi_ca s (bi_new2 h N K) H' (H.size + 1 + j) 1 K) : bi_rp D B0 Hb (bi_new2 h N K) s H' := by
  obtain ⟨⟨z1, z2, z3⟩, g2, g3, g4, g5, g6⟩ := hr
  have e0 : ∀ x, x < bi_nx h ∨ bi_nx h + N < x → bi_k (bi_new2 h N K) x = bi_k h x := fun x hx => by
    have a1 : ¬ x = bi_nx h := by omega
    have a2 : ¬ (bi_nx h < x ∧ x ≤ bi_nx h + N) := by omega
    show (if x = bi_nx h then (5, N) else if bi_nx h < x ∧ x ≤ bi_nx h + N then (1, K) else bi_k h x) = bi_k h x
    rw [if_neg a1, if_neg a2]
  have e5 : bi_k (bi_new2 h N K) (H.size + 1) = (5, N) := by
    show (if H.size + 1 = bi_nx h then (5, N) else if bi_nx h < H.size + 1 ∧ H.size + 1 ≤ bi_nx h + N then (1, K) else bi_k h (H.size + 1)) = (5, N)
    rw [if_pos z1]
  have e1 : ∀ j, j < N → bi_k (bi_new2 h N K) (H.size + 1 + j + 1) = (1, K) := fun j hj => by
    show (if H.size + 1 + j + 1 = bi_nx h then (5, N) else if bi_nx h < H.size + 1 + j + 1 ∧ H.size + 1 + j + 1 ≤ bi_nx h + N then (1, K) else bi_k h (H.size + 1 + j + 1)) = (1, K)
    rw [if_neg (by omega), if_pos (by omega)]
  refine ⟨⟨by rw [hz]; show H.size + 1 + N + 1 = bi_nx h + N + 1; omega, by omega, fun q hq => by rw [ho q (by omega)]; exact z3 q hq⟩, g2, g3, by rw [e0 0 (by omega)]; exact g4, fun b hb => ?_, fun b => ?_⟩
  · by_cases c1 : b < H.size
    · rw [e0 _ (by omega)] at hb ⊢
      obtain ⟨q1, q2⟩ := g5 b hb
      exact ⟨by omega, q2⟩
    · by_cases c2 : b ≤ H.size + N
      · exact ⟨by omega, fun _ => by omega⟩
      · rw [e0 _ (by omega)] at hb
        have := (g5 b hb).1
        omega
  · by_cases c1 : b < H.size
    · have hx1 : ¬ (bi_nx h ≤ b + 1 ∧ b + 1 ≤ bi_nx h + N) := by omega
      have hx2 : ¬ b + 1 = bi_nx h := by omega
      have hx3 : ¬ (bi_nx h < b + 1 ∧ b + 1 ≤ bi_nx h + N) := by omega
      refine (g6 b).kept (ho b c1) (e0 _ (by omega)) (fun c k => ?_) (fun t j => ?_)
      · simp only [bi_fv, bi_fr, bi_fi, bi_new2, if_neg hx1]
      · simp only [bi_av, bi_ar, bi_ai, bi_new2, if_neg hx1, if_neg hx2, if_neg hx3]
    · by_cases c2 : b = H.size
      · subst c2
        refine ⟨fun c k1 _ => by rw [e5] at k1; have k1 : 5 = 10 + c := k1; omega, ?_⟩
        rw [e5]
        exact h5
      · by_cases c3 : b ≤ H.size + N
        · obtain ⟨j, hj, rfl⟩ : ∃ j, j < N ∧ b = H.size + 1 + j := ⟨b - H.size - 1, by omega, by omega⟩
          refine ⟨fun c k1 _ => by rw [e1 j hj] at k1; have k1 : 1 = 10 + c := k1; omega, ?_⟩
          rw [e1 j hj]
          exact h1 j hj
        · refine bi_cell.none ?_
          rw [e0 _ (by omega)]
          by_cases hb : (bi_k h (b + 1)).1 = 0
          · exact hb
          · have := (g5 b hb).1
            omega
section BM
variable {p : Program} {l : Launch} {e : Env} {R : Room} {s : State} {m : MethodId} {args : Array Value} {below : List Frame} {meth : Method} {cd : Code} {Q : State → Prop} {D : va_G} {B0 : Nat} {Hb : Heap} {nL n0 m0 : Nat} {cc : ByteArray} {pc : Nat} {own : String} {L L' : bi_L} {st st' : List bi_V} {h h' : bi_H} {ini : Bool} {r : bi_R} {cf : Nat → List bi_V → bi_H → Option (Option bi_V × bi_H)}
theorem bi_s_multi {k d : Nat} (hx : p.tables.exec = Jvm.exec) (hb : cd.code = cc) (hown : s.vm.findClass own = some m.cls) (hok : bi_oki own nL ini (.multianewarray k d) r) (hdg : decode cc pc = .ok (.multianewarray k d, 4)) (he : bi_x cf (.multianewarray k d) r L st h = some (L', st', h')) (hRc : bi_nc h' ≤ n0 + R.cells) (hRs : bi_ns h' ≤ m0 + R.slots) (kk : bi_At p l e R s m args below meth cd Q D B0 Hb nL n0 m0 (pc + 4) L' st' h') : bi_At p l e R s m args below meth cd Q D B0 Hb nL n0 m0 pc L st h := by
  intro H locs ls cells slots hr hl hw hlc hc hs
  obtain ⟨rfl, w1, w2, w3⟩ := hok
  unfold bi_x at he
  dsimp only at he
  split at he
  · split at he
    · rename_i mm n st0 ha
      cases he
      obtain ⟨hn, hn2, hk, hk2⟩ := ha
      have e1 : bi_nc (bi_new2 h n.toNatClampNeg mm.toNatClampNeg) = bi_nc h + n.toNatClampNeg + 1 := rfl
      have e2 : bi_ns (bi_new2 h n.toNatClampNeg mm.toNatClampNeg) = bi_ns h + n.toNatClampNeg + n.toNatClampNeg * mm.toNatClampNeg := rfl
      have hs1 : H.size + 1 = bi_nx h := hr.1.1
      intro T hT X
      obtain ⟨vm₁, cA, comp, -, fA, fC, hO, hI, X', step⟩ := X.multianewarray2F hx (ty := .int) hown (bi_hts hr w1 rfl) (bi_hts hr w2 rfl) (bi_hts hr w3 rfl) (g := F0 m pc ls (.int mm :: .int n :: st0.map bi_tv)) rfl (by rw [hb]; exact hdg) rfl hn hk (by omega) (by simp [componentBytes]; omega) (by omega) rfl rfl (by omega) (by omega)
      generalize hF : Jvm.Free.Multi.fill (T.setVm vm₁) cA comp n.toNatClampNeg mm.toNatClampNeg (defaultValue .int) n.toNatClampNeg = F at X' step
      have hTh : (T.setVm vm₁).heap = H := hT
      obtain ⟨f1, f2, -, -⟩ := Jvm.Free.Multi.fill_facts (T.setVm vm₁) cA comp n.toNatClampNeg mm.toNatClampNeg (defaultValue .int) n.toNatClampNeg
      rw [hF, hTh] at f1 f2
      have hold : ∀ x : Nat, x < H.size → F.heap[x]? = H[x]? := fun x hx => by
        have := Jvm.Free.Multi.fill_old (T.setVm vm₁) cA comp n.toNatClampNeg mm.toNatClampNeg (defaultValue .int) (a := x) (by rw [hTh]; exact hx) n.toNatClampNeg
        rw [hF, hTh] at this
        exact this
      have hrow : ∀ j : Nat, j < n.toNatClampNeg → F.heap[H.size + 1 + j]? = some (Jvm.Free.Multi.innerC comp mm.toNatClampNeg (defaultValue .int)) := fun j hj => by
        have := Jvm.Free.Multi.fill_inner (T.setVm vm₁) cA comp n.toNatClampNeg mm.toNatClampNeg (defaultValue .int) n.toNatClampNeg j hj
        rw [hF, hTh] at this
        exact this
      have hrp : bi_rp D B0 Hb (bi_new2 h n.toNatClampNeg mm.toNatClampNeg) s F.heap := by
        refine hr.born2 (by rw [f1]) hold (fun ty hty => ?_) (fun j hj ty hty => ?_)
        · have hty : ty = .array .int := by simp [bi_aty] at hty; exact hty.symm
          subst hty
          refine ⟨_, f2, (hO _ _ _).1, (hO _ _ _).2, by rw [bi_outer, arrV_size], fun j hj => ?_, fun C hC => by cases hC⟩
          rw [bi_outer, arrV_read _ _ hj]
          have e7 : bi_av (bi_new2 h n.toNatClampNeg mm.toNatClampNeg) 5 (H.size + 1) j = bi_tr (if H.size + 1 = bi_nx h then (if j < n.toNatClampNeg then bi_nx h + 1 + j else 0) else if bi_nx h < H.size + 1 ∧ H.size + 1 ≤ bi_nx h + n.toNatClampNeg then 0 else bi_ar h (H.size + 1) j) := rfl
          rw [e7, if_pos hs1, if_pos hj, if_pos hj, ← hs1, show H.size + 1 + 1 + j = H.size + 1 + j + 1 by omega]
        · have hty : ty = .int := by simp [bi_aty] at hty; exact hty.symm
          subst hty
          have hin : Jvm.Free.Multi.innerC comp mm.toNatClampNeg (defaultValue .int) = arrV comp mm.toNatClampNeg (fun _ => .int 0) := arrV_new comp mm.toNatClampNeg (.int 0)
          refine ⟨_, hrow j hj, (hI _ _).1, (hI _ _).2, by rw [hin, arrV_size], fun i hi => ?_, fun C hC => by cases hC⟩
          rw [hin, arrV_read _ _ hi]
          have a1 : bi_nx h ≤ H.size + 1 + j + 1 ∧ H.size + 1 + j + 1 ≤ bi_nx h + n.toNatClampNeg := by omega
          simp only [bi_av, bi_ai, bi_new2, if_pos a1]
          rfl
      obtain ⟨t, a1, b1⟩ := kk F.heap locs ls (cells + 1 + n.toNatClampNeg) (slots + n.toNatClampNeg + n.toNatClampNeg * mm.toNatClampNeg) hrp hl hw hlc (by omega) (by omega) F rfl X'
      refine ⟨t, step t ?_, b1⟩
      have e9 : T.heap.size = H.size := by rw [hT]
      rw [e9]
      have e8 : bi_tr (bi_nx h) = .ref H.size := bi_nxr hr
      have a2 := a1
      simp only [List.map_cons, bi_tv, e8] at a2
      exact a2
    · cases he
  · cases he
end BM
end
section
/-! calls: a method's contract as the interpreter has it, and the three kinds of call over it -/
/-- a method: its name, code, locals, answer's type, the class that it stands in, the frames and the locals' words that it needs, its exception table -/
abbrev bi_M : Type := MethodName × ByteArray × Nat × Option FieldType × String × Nat × Nat × List (Nat × Nat × Nat × Nat)
def bi_cw (q : bi_M) : Cond := if q.2.2.2.2.2.2.2 = [] then .code q.1 q.2.1 q.2.2.1 q.2.2.2.1 else .codeWith q.1 q.2.1 q.2.2.1 q.2.2.2.1 q.2.2.2.2.2.2.2
theorem bi_cw0 {q : bi_M} (h : q.2.2.2.2.2.2.2 = []) : bi_cw q = .code q.1 q.2.1 q.2.2.1 q.2.2.2.1 := if_pos h
theorem bi_cw1 {q : bi_M} (h : ¬ q.2.2.2.2.2.2.2 = []) : bi_cw q = .codeWith q.1 q.2.1 q.2.2.1 q.2.2.2.1 q.2.2.2.2.2.2.2 := if_neg h
theorem bi_cwok (q : bi_M) : bi_ok (bi_cw q) = true := by
  unfold bi_cw
  split <;> rfl
def bi_rm (q : bi_M) (h h' : bi_H) : Room := { frames := q.2.2.2.2.2.1, cells := bi_nc h' - bi_nc h, slots := bi_ns h' - bi_ns h, locals := q.2.2.2.2.2.2.1 }
def bi_Pc (D : va_G) (B0 : Nat) (Hb : Heap) (as : List bi_V) (h : bi_H) : Array Value → State → Prop := va_Pc (as.map bi_tv) (fun U => bi_rp D B0 Hb h U U.heap)
def bi_Qc (D : va_G) (B0 : Nat) (Hb : Heap) (v : Option bi_V) (h' : bi_H) : Array Value → State → Outcome → State → Prop := fun _ _ o t => o = .returned (v.map bi_tv) ∧ bi_rp D B0 Hb h' t t.heap
/-- called with as over h the method answers v, and the heap is h' -/
def bi_Ct (l : Launch) (D : va_G) (B0 : Nat) (Hb : Heap) (q : bi_M) (as : List bi_V) (h : bi_H) (v : Option bi_V) (h' : bi_H) : Prop :=
  bi_nc h ≤ bi_nc h' ∧ bi_ns h ≤ bi_ns h' ∧ Met l q.1 [bi_cw q] (bi_rm q h h') (bi_Pc D B0 Hb as h) (bi_Qc D B0 Hb v h') (bi_nc h' - bi_nc h) (bi_ns h' - bi_ns h) (fun x => B0 ≤ x)
theorem bi_rp.to {D : va_G} {B0 : Nat} {Hb : Heap} {h : bi_H} {u U : State} {H : Heap} (hvm : u.vm.Alike U.vm) (hwd : bi_wd B0 Hb U) (hr : bi_rp D B0 Hb h u H) : bi_rp D B0 Hb h U H := by
  obtain ⟨h1, h2, h3, h4, h5, h6⟩ := hr
  exact ⟨h1, va_K.moved hvm h2, hwd, h4, h5, fun a => ⟨(h6 a).1, (h6 a).2.moved hvm⟩⟩
theorem bi_blind {D : va_G} {B0 : Nat} {Hb : Heap} {as : List bi_V} {h : bi_H} : FrameBlind (bi_Pc D B0 Hb as h) := by
  intro a U g mk q
  exact ⟨q.1, bi_rp.moved (s := U) (U := U.calling g mk a) (State.WarmedH.refl U) q.2⟩
/-- what a call wants of the tables: the callee's code and name, its arguments' number, room -/
def bi_okb (R : Room) (q : bi_M) (n : Nat) : Prop := bi_cw q ∈ lw_tbl ∧ Cond.initialized q.1.cls ∈ lw_tbl ∧ (q.1.cls ≠ "java/lang/invoke/MethodHandle" ∧ q.1.cls ≠ "java/lang/invoke/VarHandle") ∧ (parseMethodDescriptor q.1.desc).map (fun d => d.parameters.length) = some n ∧ q.2.2.2.2.2.1 + 1 ≤ R.frames ∧ 8 + (q.2.2.1 + 11) + q.2.2.2.2.2.2.1 ≤ R.locals
/-- the callee of a call -/
def bi_okc (M : Nat → Option bi_M) (own : String) (R : Room) (i : Instr) (r : bi_R) : Prop := match i with
  | .invokestatic k => ∃ q, M r.1 = some q ∧ r.2.1 ≤ q.2.2.1 ∧ bi_okb R q r.2.1 ∧ Cond.methodLink own k q.1 ∈ lw_tbl ∧ Cond.static q.1 ∈ lw_tbl
  | .invokevirtual k => ∃ q cq, M r.1 = some q ∧ r.2.1 + 1 ≤ q.2.2.1 ∧ q.2.2.2.2.2.2.2 = [] ∧ bi_okb R q r.2.1 ∧ vwCl[r.2.2.1]? = some cq ∧ Cond.methodLink own k q.1 ∈ lw_tbl ∧ Cond.instanceMethod q.1 ∈ lw_tbl ∧ Cond.selects cq.1 q.1 q.1 ∈ lw_tbl
  | .invokespecial k => if r.1 = 9999 then Cond.methodLink own k objectInit ∈ lw_tbl ∧ Cond.instanceMethod objectInit ∈ lw_tbl ∧ Cond.code objectInit ⟨#[0xb1]⟩ 1 none ∈ lw_tbl ∧ 1 ≤ R.frames ∧ 20 ≤ R.locals
    else ∃ q cq, M r.1 = some q ∧ r.2.1 + 1 ≤ q.2.2.1 ∧ q.2.2.2.2.2.2.2 = [] ∧ bi_okb R q r.2.1 ∧ vwCl[r.2.2.1]? = some cq ∧ q.1.name = "<init>" ∧ q.2.2.2.1 = none ∧ Cond.instanceMethod q.1 ∈ lw_tbl ∧ (Cond.methodLink own k q.1 ∈ lw_tbl ∨ ∃ host, Cond.methodLinkNest own k q.1 host ∈ lw_tbl)
  | _ => True
section BC
variable {p : Program} {l : Launch} {e : Env} {R : Room} {s : State} {m : MethodId} {args : Array Value} {below : List Frame} {meth : Method} {cd : Code} {Q : State → Prop} {D : va_G} {B0 : Nat} {Hb : Heap} {nL n0 m0 : Nat} {cc : ByteArray} {pc : Nat} {own : String} {L L' : bi_L} {st st' : List bi_V} {h h' : bi_H} {ini : Bool} {r : bi_R} {cf : Nat → List bi_V → bi_H → Option (Option bi_V × bi_H)} {M : Nat → Option bi_M}
/-- behind a call -/
theorem bi_after {H : Heap} {locs : List Loc} {cells slots mc ms : Nat} {ls : Array Slot} {st0 rest : List Value} {v : Option bi_V} {a : Array Value} (hr : bi_rp D B0 Hb h s H) (hlc : ∀ q ∈ locs, B0 ≤ q.base) (hrun : va_Run p l e R s m args below meth cd H locs cells slots mc ms (F0 m pc ls st0) rest (bi_Qc D B0 Hb v h' a) (fun x => B0 ≤ x))
    (kk : ∀ (H' : Heap) (locs' : List Loc), bi_rp D B0 Hb h' s H' → (∀ q ∈ locs', B0 ≤ q.base) → W p l e R s m args below meth cd H' locs' (cells + mc) (slots + ms) Q (F0 m (pc + 3) ls ((v.map bi_tv).toList ++ rest))) : W p l e R s m args below meth cd H locs cells slots Q (F0 m pc ls st0) := by
  intro T hT X
  obtain ⟨v', st₀, t, T', LL, h0, X', hL, e1, e2, ⟨hv, hq⟩, st⟩ := hrun T hT X
  cases hv
  have hal : t.vm.Alike s.vm := by rw [← e2]; exact X'.warmed.alike.symm
  have hrp : bi_rp D B0 Hb h' s T'.heap := by rw [e1]; exact hq.to hal hr.2.2.1
  obtain ⟨t2, a1, b1⟩ := kk T'.heap (locs ++ LL) hrp (fun q hq => (List.mem_append.mp hq).elim (hlc q) (hL q)) T' rfl X'
  exact ⟨t2, st t2 a1, b1⟩
theorem bi_wcode {H : Heap} (hr : bi_rp D B0 Hb h s H) {q : bi_M} (hc : bi_cw q ∈ lw_tbl) : ∀ w ∈ [bi_cw q], ∀ (a' : Array Value) (U : State), s.WarmedH U.vm → w.before a' U = true := by
  intro w hw a' U hW
  rw [List.mem_singleton.mp hw]
  exact bi_wd1 hW (bi_cwok q) (hr.2.2.1.1 _ hc (bi_cwok q)) a'
theorem bi_callB {H : Heap} {n k : Nat} (hr : bi_rp D B0 Hb h s H) {q : bi_M} (h0 : q.2.2.2.2.2.2.2 = []) (hk : bi_okb R q n) (hl : Cond.methodLink own k q.1 ∈ lw_tbl) : CallB R s args own k q.1 q.2.1 q.2.2.1 q.2.2.2.1 [bi_cw q] (bi_rm q h h') (bi_nc h' - bi_nc h) (bi_ns h' - bi_ns h) n := by
  obtain ⟨o1, o2, o3, o4, o5, o6⟩ := hk
  refine ⟨rfl, rfl, o5, o6, bi_wcode hr o1, by rw [bi_cw0 h0]; exact List.mem_singleton.mpr rfl, by rw [← bi_cw0 h0]; exact bi_hts hr o1 (bi_cwok q), bi_hts hr o2 rfl, o3, fun sig hsig => ?_, bi_hts hr hl rfl⟩
  rw [hsig] at o4
  exact (Option.some.inj o4).symm
theorem bi_callN {H : Heap} {n k : Nat} {host : String} (hr : bi_rp D B0 Hb h s H) {q : bi_M} (h0 : q.2.2.2.2.2.2.2 = []) (hk : bi_okb R q n) (hl : Cond.methodLinkNest own k q.1 host ∈ lw_tbl) : va_CN R s args own k q.1 host q.2.1 q.2.2.1 q.2.2.2.1 [bi_cw q] (bi_rm q h h') (bi_nc h' - bi_nc h) (bi_ns h' - bi_ns h) n := by
  obtain ⟨o1, o2, o3, o4, o5, o6⟩ := hk
  refine ⟨⟨rfl, rfl, o5, o6, bi_wcode hr o1, by rw [bi_cw0 h0]; exact List.mem_singleton.mpr rfl⟩, by rw [← bi_cw0 h0]; exact bi_hts hr o1 (bi_cwok q), bi_hts hr o2 rfl, o3, fun sig hsig => ?_, bi_hts hr hl rfl⟩
  rw [hsig] at o4
  exact (Option.some.inj o4).symm
theorem bi_callW {H : Heap} {n k : Nat} (hr : bi_rp D B0 Hb h s H) {q : bi_M} (h0 : ¬ q.2.2.2.2.2.2.2 = []) (hk : bi_okb R q n) (hl : Cond.methodLink own k q.1 ∈ lw_tbl) (hst : Cond.static q.1 ∈ lw_tbl) : vx_CSW R s args own k q.1 q.2.1 q.2.2.1 q.2.2.2.1 q.2.2.2.2.2.2.2 [bi_cw q] (bi_rm q h h') (bi_nc h' - bi_nc h) (bi_ns h' - bi_ns h) n := by
  obtain ⟨o1, o2, o3, o4, o5, o6⟩ := hk
  refine ⟨⟨rfl, rfl, o5, o6, bi_wcode hr o1, by rw [bi_cw1 h0]; exact List.mem_singleton.mpr rfl⟩, by rw [← bi_cw1 h0]; exact bi_hts hr o1 (bi_cwok q), bi_hts hr o2 rfl, o3, fun sig hsig => ?_, bi_hts hr hl rfl, bi_hts hr hst rfl⟩
  rw [hsig] at o4
  exact (Option.some.inj o4).symm
theorem bi_sumr (st : List bi_V) : ((st.map bi_tv).map fun v => v.category).sum = bi_sum st := by
  unfold bi_sum
  rw [List.map_map]
  congr 1
  apply List.map_congr_left
  intro v _
  exact bi_cat v
theorem bi_room {st : List bi_V} {ls : Array Slot} {st0 : List Value} (h8 : bi_sum st ≤ 8) : 2 * (F0 m pc ls st0).monitorRoom + ((st.map bi_tv).map fun v => v.category).sum ≤ 8 := lv_room (by rw [bi_sumr]; exact h8)
theorem bi_w1 : ∀ (st : List bi_V), bi_sum st = st.length → ∀ x ∈ st, bi_w x = 1
  | [], _, x, hx => by cases hx
  | v :: st, hs, x, hx => by
    have hle : ∀ (q : List bi_V), q.length ≤ bi_sum q := by
      intro q
      induction q with
      | nil => exact Nat.le_refl _
      | cons a q ih =>
        have h1 : 1 ≤ bi_w a := by rcases a with _ | _ | _ <;> simp [bi_w]
        show q.length + 1 ≤ (bi_w a :: q.map bi_w).sum
        rw [List.sum_cons]
        have : (q.map bi_w).sum = bi_sum q := rfl
        omega
    have h1 : 1 ≤ bi_w v := by rcases v with _ | _ | _ <;> simp [bi_w]
    have h2 : bi_sum (v :: st) = bi_w v + bi_sum st := by unfold bi_sum; rw [List.map_cons, List.sum_cons]
    have h3 := hle st
    rw [h2, List.length_cons] at hs
    rcases List.mem_cons.mp hx with rfl | hx
    · omega
    · exact bi_w1 st (by omega) x hx
theorem bi_tolist (v : Option bi_V) (rest : List bi_V) : (v.toList ++ rest).map bi_tv = (v.map bi_tv).toList ++ rest.map bi_tv := by cases v <;> rfl
/-- what the calls of a step come to -/
def bi_cfok (l : Launch) (D : va_G) (B0 : Nat) (Hb : Heap) (M : Nat → Option bi_M) (cf : Nat → List bi_V → bi_H → Option (Option bi_V × bi_H)) : Prop :=
  ∀ (mi : Nat) (as : List bi_V) (h : bi_H) (v : Option bi_V) (h' : bi_H), cf mi as h = some (v, h') → (∀ x ∈ as, bi_w x = 1) → ∀ q, M mi = some q → as.length ≤ q.2.2.1 → bi_Ct l D B0 Hb q as h v h'
theorem bi_s_static {k : Nat} (hx : p.tables.exec = Jvm.exec) (hb : cd.code = cc) (hml : cd.maxLocals = nL) (hown : s.vm.findClass own = some m.cls) (hcf : bi_cfok l D B0 Hb M cf) (hok : bi_okc M own R (.invokestatic k) r) (hdg : decode cc pc = .ok (.invokestatic k, 3)) (he : bi_x cf (.invokestatic k) r L st h = some (L', st', h')) (hRc : bi_nc h' ≤ n0 + R.cells) (hRs : bi_ns h' ≤ m0 + R.slots) (kk : bi_At p l e R s m args below meth cd Q D B0 Hb nL n0 m0 (pc + 3) L' st' h') : bi_At p l e R s m args below meth cd Q D B0 Hb nL n0 m0 pc L st h := by
  intro H locs ls cells slots hr hl hw hlc hc hs
  obtain ⟨q, hM, hqn, hkb, hlk, hstat⟩ := hok
  have he : bi_calls cf r.1 r.2.1 L st h = some (L', st', h') := he
  unfold bi_calls at he
  split at he
  · rename_i hn
    obtain ⟨hn1, hn2, hn3⟩ := hn
    unfold bi_ret at he
    split at he
    · rename_i v h1 hcall
      cases he
      have hlen : (st.take r.2.1).length = r.2.1 := by rw [List.length_take]; omega
      have hw1 := bi_w1 (st.take r.2.1) (by rw [hlen]; exact hn3)
      obtain ⟨g1, g2, hMet⟩ := hcf r.1 _ h v h' hcall (fun x hx => hw1 x (List.mem_reverse.mp hx)) q hM (by rw [List.length_reverse, hlen]; exact hqn)
      have hpre : PreS s H (bi_Pc D B0 Hb (st.take r.2.1).reverse h) ((st.take r.2.1).reverse.map bi_tv) := ⟨bi_blind, fun U hU hW => ⟨rfl, by show bi_rp D B0 Hb h U U.heap; rw [hU]; exact hr.moved hW⟩⟩
      have hstk : st.map bi_tv = ((st.take r.2.1).reverse.map bi_tv).reverse ++ (st.drop r.2.1).map bi_tv := by
        rw [← List.map_reverse, List.reverse_reverse, ← List.map_append, List.take_append_drop]
      have hrun : va_Run p l e R s m args below meth cd H locs cells slots (bi_nc h' - bi_nc h) (bi_ns h' - bi_ns h) (F0 m pc ls (st.map bi_tv)) ((st.drop r.2.1).map bi_tv) (bi_Qc D B0 Hb v h' ((st.take r.2.1).reverse.map bi_tv).toArray) (fun x => B0 ≤ x) := by
        by_cases h0 : q.2.2.2.2.2.2.2 = []
        · exact va_runS (H := H) (g := F0 m pc ls (st.map bi_tv)) (As := (st.take r.2.1).reverse.map bi_tv) (rest := (st.drop r.2.1).map bi_tv) (Ts := []) ⟨hx, hb, hml, hown, fun w hw => by cases hw⟩ hMet ⟨bi_callB hr h0 hkb hlk, bi_hts hr hstat rfl⟩ hpre rfl (by rw [List.length_map, List.length_reverse, hlen]) hl.1 hstk (bi_room hn2) hdg ⟨by omega, by omega⟩
        · exact vx_runSW (H := H) (g := F0 m pc ls (st.map bi_tv)) (As := (st.take r.2.1).reverse.map bi_tv) (rest := (st.drop r.2.1).map bi_tv) (Ts := []) ⟨hx, hb, hml, hown, fun w hw => by cases hw⟩ hMet (bi_callW hr h0 hkb hlk hstat) hpre rfl (by rw [List.length_map, List.length_reverse, hlen]) hl.1 hstk (bi_room hn2) hdg ⟨by omega, by omega⟩
      refine bi_after hr hlc hrun (fun H' locs' hr' hlc' => ?_)
      rw [← bi_tolist]
      exact kk H' locs' ls _ _ hr' hl hw hlc' (by omega) (by omega)
    · cases he
  · cases he
end BC
end
section
/-! calls with a receiver -/
section BV
variable {p : Program} {l : Launch} {e : Env} {R : Room} {s : State} {m : MethodId} {args : Array Value} {below : List Frame} {meth : Method} {cd : Code} {Q : State → Prop} {D : va_G} {B0 : Nat} {Hb : Heap} {nL n0 m0 : Nat} {cc : ByteArray} {pc : Nat} {own : String} {L L' : bi_L} {st st' : List bi_V} {h h' : bi_H} {ini : Bool} {r : bi_R} {cf : Nat → List bi_V → bi_H → Option (Option bi_V × bi_H)} {M : Nat → Option bi_M}
theorem bi_recv {H : Heap} {a c : Nat} {cq : vw_C} (hr : bi_rp D B0 Hb h s H) (hk : (bi_k h (a + 1)).1 = 10 + c) (hq : vwCl[c]? = some cq) : ∃ cellB : Cell, H[a]? = some cellB ∧ cellB.vm.isStatics = false ∧ s.vm.findClass cq.1 = some cellB.cls := by
  obtain ⟨q', hq', cell, q1, q2, q3, -⟩ := (hr.2.2.2.2.2 a).1 c hk (bi_c13 hq)
  exact ⟨cell, q1, by rw [q3]; rfl, by rw [q2]; exact (hr.2.1.1 c cq hq).2.1⟩
/-- the stack of a call with a receiver -/
theorem bi_stk {n a : Nat} {rest : List bi_V} (hd : st.drop n = .inr (.inl (a + 1)) :: rest) : st.map bi_tv = ((st.take n).reverse.map bi_tv).reverse ++ .ref a :: rest.map bi_tv := by
  have h1 : st = st.take n ++ .inr (.inl (a + 1)) :: rest := by rw [← hd, List.take_append_drop]
  rw [← List.map_reverse, List.reverse_reverse]
  conv => lhs; rw [h1]
  rw [List.map_append, List.map_cons]
  rfl
theorem bi_take {n a : Nat} {rest : List bi_V} (hd : st.drop n = .inr (.inl a) :: rest) : (st.take n).length = n := by
  have h1 : (st.drop n).length = rest.length + 1 := by rw [hd]; rfl
  rw [List.length_drop] at h1
  rw [List.length_take]
  omega
theorem bi_s_virtual {k : Nat} (hx : p.tables.exec = Jvm.exec) (hb : cd.code = cc) (hml : cd.maxLocals = nL) (hown : s.vm.findClass own = some m.cls) (hcf : bi_cfok l D B0 Hb M cf) (hok : bi_okc M own R (.invokevirtual k) r) (hdg : decode cc pc = .ok (.invokevirtual k, 3)) (he : bi_x cf (.invokevirtual k) r L st h = some (L', st', h')) (hRc : bi_nc h' ≤ n0 + R.cells) (hRs : bi_ns h' ≤ m0 + R.slots) (kk : bi_At p l e R s m args below meth cd Q D B0 Hb nL n0 m0 (pc + 3) L' st' h') : bi_At p l e R s m args below meth cd Q D B0 Hb nL n0 m0 pc L st h := by
  intro H locs ls cells slots hr hl hw hlc hc hs
  obtain ⟨q, cq, hM, hqn, hq0, hkb, hcq, hlk, hins, hsel⟩ := hok
  have he : bi_callo cf r.1 r.2.1 r.2.2.1 L st h = some (L', st', h') := he
  unfold bi_callo at he
  split at he
  · rename_i a rest hdrop
    split at he
    · rename_i hn
      obtain ⟨hn1, hn2, hn3⟩ := hn
      unfold bi_ret at he
      split at he
      · rename_i v h1 hcall
        cases he
        obtain ⟨b, rfl⟩ := bi_kz hr (a := a) (by omega)
        have hlen := bi_take hdrop
        have hw1 := bi_w1 (st.take r.2.1) (by rw [hlen]; exact hn3)
        obtain ⟨g1, g2, hMet⟩ := hcf r.1 _ h v h' hcall (fun x hx => (List.mem_cons.mp hx).elim (fun z => by rw [z]; rfl) (fun z => hw1 x (List.mem_reverse.mp z))) q hM (by rw [List.length_cons, List.length_reverse, hlen]; exact hqn)
        have hrun := va_runV (args := args) (R := R) (H := H) (locs := locs) (cells := cells) (slots := slots) (below := below) (meth := meth) (e := e) (C := cq.1) (b := b) (g := F0 m pc ls (st.map bi_tv)) (As := (st.take r.2.1).reverse.map bi_tv) (rest := rest.map bi_tv) (Ts := []) ⟨hx, hb, hml, hown, fun w hw => by cases hw⟩ hMet ⟨bi_callB hr hq0 hkb hlk, bi_hts hr hins rfl, bi_hts hr hsel rfl⟩ ⟨bi_blind, bi_recv hr hn1 hcq, fun U hU hW => ⟨rfl, by show bi_rp D B0 Hb h U U.heap; rw [hU]; exact hr.moved hW⟩⟩ rfl (by rw [List.length_map, List.length_reverse, hlen]) hl.1 (bi_stk hdrop) (bi_room hn2) hdg ⟨by omega, by omega⟩
        refine bi_after hr hlc hrun (fun H' locs' hr' hlc' => ?_)
        rw [← bi_tolist]
        exact kk H' locs' ls _ _ hr' hl hw hlc' (by omega) (by omega)
      · cases he
    · cases he
  · cases he
theorem bi_s_special {k : Nat} (hx : p.tables.exec = Jvm.exec) (hb : cd.code = cc) (hml : cd.maxLocals = nL) (hown : s.vm.findClass own = some m.cls) (hcf : bi_cfok l D B0 Hb M cf) (hok : bi_okc M own R (.invokespecial k) r) (hdg : decode cc pc = .ok (.invokespecial k, 3)) (he : bi_x cf (.invokespecial k) r L st h = some (L', st', h')) (hRc : bi_nc h' ≤ n0 + R.cells) (hRs : bi_ns h' ≤ m0 + R.slots) (kk : bi_At p l e R s m args below meth cd Q D B0 Hb nL n0 m0 (pc + 3) L' st' h') : bi_At p l e R s m args below meth cd Q D B0 Hb nL n0 m0 pc L st h := by
  intro H locs ls cells slots hr hl hw hlc hc hs
  have hok : if r.1 = 9999 then Cond.methodLink own k objectInit ∈ lw_tbl ∧ Cond.instanceMethod objectInit ∈ lw_tbl ∧ Cond.code objectInit ⟨#[0xb1]⟩ 1 none ∈ lw_tbl ∧ 1 ≤ R.frames ∧ 20 ≤ R.locals
    else ∃ q cq, M r.1 = some q ∧ r.2.1 + 1 ≤ q.2.2.1 ∧ q.2.2.2.2.2.2.2 = [] ∧ bi_okb R q r.2.1 ∧ vwCl[r.2.2.1]? = some cq ∧ q.1.name = "<init>" ∧ q.2.2.2.1 = none ∧ Cond.instanceMethod q.1 ∈ lw_tbl ∧ (Cond.methodLink own k q.1 ∈ lw_tbl ∨ ∃ host, Cond.methodLinkNest own k q.1 host ∈ lw_tbl) := hok
  unfold bi_x at he
  dsimp only at he
  by_cases h9 : r.1 = 9999
  · rw [if_pos h9] at he hok
    obtain ⟨o1, o2, o3, o4, o5⟩ := hok
    split at he
    · rename_i a st0
      split at he
      · rename_i ha
        cases he
        obtain ⟨b, rfl⟩ := bi_kz hr ha.1
        refine W.objInit hx hb hown (bi_hts hr o1 rfl) (bi_hts hr o2 rfl) (bi_hts hr o3 rfl) (g := F0 m pc ls (.ref b :: st'.map bi_tv)) rfl (by rw [hml]; exact hl.1) rfl hdg o4 ?_ (kk H locs ls cells slots hr hl hw hlc hc hs)
        show 2 * 0 + _ + 12 ≤ R.locals
        rw [bi_sumr]
        omega
      · cases he
    · cases he
  · rw [if_neg h9] at he hok
    obtain ⟨q, cq, hM, hqn, hq0, hkb, hcq, hnm, hret, hins, hlk⟩ := hok
    unfold bi_callo at he
    split at he
    · rename_i a rest hdrop
      split at he
      · rename_i hn
        obtain ⟨hn1, hn2, hn3⟩ := hn
        unfold bi_ret at he
        split at he
        · rename_i v h1 hcall
          cases he
          obtain ⟨b, rfl⟩ := bi_kz hr (a := a) (by omega)
          have hlen := bi_take hdrop
          have hw1 := bi_w1 (st.take r.2.1) (by rw [hlen]; exact hn3)
          obtain ⟨g1, g2, hMet⟩ := hcf r.1 _ h v h' hcall (fun x hx => (List.mem_cons.mp hx).elim (fun z => by rw [z]; rfl) (fun z => hw1 x (List.mem_reverse.mp z))) q hM (by rw [List.length_cons, List.length_reverse, hlen]; exact hqn)
          have hpre : PreS s H (bi_Pc D B0 Hb (.inr (.inl (b + 1)) :: (st.take r.2.1).reverse) h) (.ref b :: (st.take r.2.1).reverse.map bi_tv) := ⟨bi_blind, fun U hU hW => ⟨rfl, by show bi_rp D B0 Hb h U U.heap; rw [hU]; exact hr.moved hW⟩⟩
          have hrun : va_Run p l e R s m args below meth cd H locs cells slots (bi_nc h' - bi_nc h) (bi_ns h' - bi_ns h) (F0 m pc ls (st.map bi_tv)) (rest.map bi_tv) (bi_Qc D B0 Hb v h' (Value.ref b :: (st.take r.2.1).reverse.map bi_tv).toArray) (fun x => B0 ≤ x) := by
            rcases hlk with hlk | ⟨host, hlk⟩
            · have cb := bi_callB (args := args) (own := own) (h' := h') hr hq0 hkb hlk
              rw [hret] at cb
              exact va_runI (H := H) (b := b) (g := F0 m pc ls (st.map bi_tv)) (As := (st.take r.2.1).reverse.map bi_tv) (rest := rest.map bi_tv) (Ts := []) ⟨hx, hb, hml, hown, fun w hw => by cases hw⟩ hMet ⟨cb, hnm, bi_hts hr hins rfl⟩ hpre rfl (by rw [List.length_map, List.length_reverse, hlen]) hl.1 (bi_stk hdrop) (bi_room hn2) hdg ⟨by omega, by omega⟩
            · have cb := bi_callN (args := args) (own := own) (h' := h') hr hq0 hkb hlk
              rw [hret] at cb
              exact va_runIN (H := H) (b := b) (g := F0 m pc ls (st.map bi_tv)) (As := (st.take r.2.1).reverse.map bi_tv) (rest := rest.map bi_tv) (Ts := []) ⟨hx, hb, hml, hown, fun w hw => by cases hw⟩ hMet ⟨cb, hnm, bi_hts hr hins rfl⟩ hpre rfl (by rw [List.length_map, List.length_reverse, hlen]) hl.1 (bi_stk hdrop) (bi_room hn2) hdg ⟨by omega, by omega⟩
          refine bi_after hr hlc hrun (fun H' locs' hr' hlc' => ?_)
          rw [← bi_tolist]
          exact kk H' locs' ls _ _ hr' hl hw hlc' (by omega) (by omega)
        · cases he
      · cases he
    · cases he
end BV
end
section
/-! all straight instructions, and rows of them -/
section BW
variable {p : Program} {l : Launch} {e : Env} {R : Room} {s : State} {m : MethodId} {args : Array Value} {below : List Frame} {meth : Method} {cd : Code} {Q : State → Prop} {D : va_G} {B0 : Nat} {Hb : Heap} {nL n0 m0 : Nat} {cc : ByteArray} {pc : Nat} {own : String} {L L' : bi_L} {st st' : List bi_V} {h h' : bi_H} {ini : Bool} {r : bi_R} {cf : Nat → List bi_V → bi_H → Option (Option bi_V × bi_H)} {M : Nat → Option bi_M}
theorem bi_s_null (hx : p.tables.exec = Jvm.exec) (hb : cd.code = cc) (hdg : decode cc pc = .ok (.aconst_null, 1)) (kk : bi_At p l e R s m args below meth cd Q D B0 Hb nL n0 m0 (pc + 1) L (.inr (.inl 0) :: st) h) : bi_At p l e R s m args below meth cd Q D B0 Hb nL n0 m0 pc L st h := by
  intro H locs ls cells slots hr hl hw hlc hc hs
  exact lv_null hx hb hdg (kk H locs ls cells slots hr hl hw hlc hc hs)
set_option maxHeartbeats 4000000 in
theorem bi_sx {i : Instr} (hx : p.tables.exec = Jvm.exec) (hb : cd.code = cc) (hml : cd.maxLocals = nL) (hown : s.vm.findClass own = some m.cls) (hini : ini = true → meth.name = "<init>") (hcf : bi_cfok l D B0 Hb M cf) (hok : bi_oki own nL ini i r) (hokc : bi_okc M own R i r) (hdg : decode cc pc = .ok (i, bi_len i)) (he : bi_x cf i r L st h = some (L', st', h')) (hRc : bi_nc h' ≤ n0 + R.cells) (hRs : bi_ns h' ≤ m0 + R.slots) (kk : bi_At p l e R s m args below meth cd Q D B0 Hb nL n0 m0 (pc + bi_len i) L' st' h') : bi_At p l e R s m args below meth cd Q D B0 Hb nL n0 m0 pc L st h := by
  cases i with
  | iconst n => cases he; exact bi_s_num (n := 1) (fun H locs ls cells slots rest _ k => lv_iconst hx hb hdg rfl k) kk
  | bipush n => cases he; exact bi_s_num (n := 2) (fun H locs ls cells slots rest _ k => lv_bipush hx hb hdg hok k) kk
  | sipush n => cases he; exact bi_s_num (n := 3) (fun H locs ls cells slots rest _ k => lv_sipush hx hb hdg hok k) kk
  | ldc n => cases he; exact bi_s_num (n := 2) (fun H locs ls cells slots rest hr k => lv_ldc hx hb hown (bi_hts hr hok rfl) hdg k) kk
  | ldc_w n => cases he; exact bi_s_num (n := 3) (fun H locs ls cells slots rest hr k => lv_ldcw hx hb hown (bi_hts hr hok rfl) hdg k) kk
  | aconst_null => cases he; exact bi_s_null hx hb hdg kk
  | iload_n n => exact bi_s_ldi hx hb (Or.inl ⟨n, rfl, rfl⟩) hdg he kk
  | iload n => exact bi_s_ldi hx hb (Or.inr rfl) hdg he kk
  | aload_n n => exact bi_s_lda hx hb (Or.inl ⟨n, rfl, rfl⟩) hdg he kk
  | aload n => exact bi_s_lda hx hb (Or.inr rfl) hdg he kk
  | istore_n n => exact bi_s_sti hx hb (Or.inl ⟨n, rfl, rfl⟩) hok hdg he kk
  | istore n => exact bi_s_sti hx hb (Or.inr rfl) hok hdg he kk
  | astore_n n => exact bi_s_sta hx hb (Or.inl ⟨n, rfl, rfl⟩) hok hdg he kk
  | astore n => exact bi_s_sta hx hb (Or.inr rfl) hok hdg he kk
  | iinc n v => exact bi_s_iinc hx hb hok hdg he kk
  | iadd => exact bi_s_op2 (fun x y H locs ls cells slots rest k => lv_iadd hx hb hdg k) he kk
  | isub => exact bi_s_op2 (fun x y H locs ls cells slots rest k => lv_isub hx hb hdg k) he kk
  | imul => exact bi_s_op2 (fun x y H locs ls cells slots rest k => lv_imul hx hb hdg k) he kk
  | iand => exact bi_s_op2 (fun x y H locs ls cells slots rest k => lv_iand hx hb hdg k) he kk
  | ixor => exact bi_s_op2 (fun x y H locs ls cells slots rest k => lv_ixor hx hb hdg k) he kk
  | idiv => exact bi_s_div hx hb hdg he kk
  | irem => exact bi_s_rem hx hb hdg he kk
  | i2l => exact bi_s_i2l hx hb hdg he kk
  | lcmp => exact bi_s_lcmp hx hb hdg he kk
  | dup => exact bi_s_dup hx hb hdg he kk
  | dup2 => exact bi_s_dup2 hx hb hdg he kk
  | getfield k => exact bi_s_get hx hb hown hok hdg he kk
  | putfield k => exact bi_s_put hx hb hown hini hok hdg he kk
  | iaload => exact bi_s_iald hx hb hdg he kk
  | baload => exact bi_s_bald hx hb hdg he kk
  | laload => exact bi_s_lald hx hb hdg he kk
  | aaload => exact bi_s_aald hx hb hdg he kk
  | iastore => exact bi_s_iast hx hb hdg he kk
  | bastore => exact bi_s_bast hx hb hdg he kk
  | lastore => exact bi_s_last hx hb hdg he kk
  | aastore => exact bi_s_aast hx hb hdg he kk
  | arraylength => exact bi_s_alen hx hb hdg he kk
  | newarray t => exact bi_s_newa hx hb hok hdg he hRc hRs kk
  | anewarray k => exact bi_s_anew hx hb hown hok hdg he hRc hRs kk
  | multianewarray k d => exact bi_s_multi hx hb hown hok hdg he hRc hRs kk
  | new k => exact bi_s_new hx hb hown hok hdg he hRc hRs kk
  | invokestatic k => exact bi_s_static hx hb hml hown hcf hokc hdg he hRc hRs kk
  | invokevirtual k => exact bi_s_virtual hx hb hml hown hcf hokc hdg he hRc hRs kk
  | invokespecial k => exact bi_s_special hx hb hml hown hcf hokc hdg he hRc hRs kk
  | _ => cases he
/-- what is made only grows -/
def bi_up (h h' : bi_H) : Prop := bi_nc h ≤ bi_nc h' ∧ bi_ns h ≤ bi_ns h' ∧ bi_nx h ≤ bi_nx h'
theorem bi_up_rf {h : bi_H} : bi_up h h := ⟨Nat.le_refl _, Nat.le_refl _, Nat.le_refl _⟩
theorem bi_up.tr {h1 h2 h3 : bi_H} (a : bi_up h1 h2) (b : bi_up h2 h3) : bi_up h1 h3 := ⟨Nat.le_trans a.1 b.1, Nat.le_trans a.2.1 b.2.1, Nat.le_trans a.2.2 b.2.2⟩
theorem bi_up_new {h : bi_H} {kd : Nat × Nat} {n : Nat} : bi_up h (bi_new h kd n) := ⟨Nat.le_add_right _ _, Nat.le_add_right _ _, Nat.le_add_right _ _⟩
theorem bi_up_new2 {h : bi_H} {n k : Nat} : bi_up h (bi_new2 h n k) := ⟨by show bi_nc h ≤ bi_nc h + n + 1; omega, by show bi_ns h ≤ bi_ns h + n + n * k; omega, by show bi_nx h ≤ bi_nx h + n + 1; omega⟩
theorem bi_up_ret {mi : Nat} {as : List bi_V} {rest : List bi_V} (hcf : ∀ (mi : Nat) (as : List bi_V) (h : bi_H) (v : Option bi_V) (h' : bi_H), cf mi as h = some (v, h') → bi_up h h') (he : bi_ret L rest (cf mi as h) = some (L', st', h')) : bi_up h h' := by
  unfold bi_ret at he
  split at he
  · rename_i v h1 hc
    cases he
    exact hcf _ _ _ _ _ hc
  · cases he
theorem bi_up_callo {mi n c : Nat} (hcf : ∀ (mi : Nat) (as : List bi_V) (h : bi_H) (v : Option bi_V) (h' : bi_H), cf mi as h = some (v, h') → bi_up h h') (he : bi_callo cf mi n c L st h = some (L', st', h')) : bi_up h h' := by
  unfold bi_callo at he
  split at he
  · split at he
    · exact bi_up_ret hcf he
    · cases he
  · cases he
theorem bi_up_calls {mi n : Nat} (hcf : ∀ (mi : Nat) (as : List bi_V) (h : bi_H) (v : Option bi_V) (h' : bi_H), cf mi as h = some (v, h') → bi_up h h') (he : bi_calls cf mi n L st h = some (L', st', h')) : bi_up h h' := by
  unfold bi_calls at he
  split at he
  · exact bi_up_ret hcf he
  · cases he
set_option maxHeartbeats 4000000 in
theorem bi_up_x {i : Instr} (hcf : ∀ (mi : Nat) (as : List bi_V) (h : bi_H) (v : Option bi_V) (h' : bi_H), cf mi as h = some (v, h') → bi_up h h') (he : bi_x cf i r L st h = some (L', st', h')) : bi_up h h' := by
  cases i with
  | invokestatic k => exact bi_up_calls hcf he
  | invokevirtual k => exact bi_up_callo hcf he
  | invokespecial k =>
    unfold bi_x at he
    dsimp only at he
    split at he
    · split at he
      · split at he
        · cases he; exact bi_up_rf
        · cases he
      · cases he
    · exact bi_up_callo hcf he
  | _ =>
    unfold bi_x at he
    dsimp only at he
    try unfold bi_ldi at he
    try unfold bi_lda at he
    try unfold bi_sti at he
    try unfold bi_sta at he
    try unfold bi_op2 at he
    repeat' (split at he)
    all_goals first | (cases he; first | exact bi_up_rf | exact bi_up_new | exact bi_up_new2) | cases he
theorem bi_up_xs (hcf : ∀ (mi : Nat) (as : List bi_V) (h : bi_H) (v : Option bi_V) (h' : bi_H), cf mi as h = some (v, h') → bi_up h h') : ∀ (is : List bi_I) {L L' : bi_L} {st st' : List bi_V} {h h' : bi_H}, bi_xs cf is L st h = some (L', st', h') → bi_up h h'
  | [], _, _, _, _, _, _, he => by cases he; exact bi_up_rf
  | i :: is, L, L', st, st', h, h', he => by
    unfold bi_xs at he
    split at he
    · cases he
    · rename_i q hq
      exact bi_up.tr (bi_up_x hcf hq) (bi_up_xs hcf is he)
/-- the place behind a row of instructions -/
def bi_end : Nat → List bi_I → Nat
  | pc, [] => pc
  | pc, i :: is => bi_end (pc + bi_len i.1) is
/-- a row of instructions as the code has it -/
def bi_okr (M : Nat → Option bi_M) (own : String) (nL : Nat) (ini : Bool) (R : Room) (cc : ByteArray) : Nat → List bi_I → Prop
  | _, [] => True
  | pc, i :: is => decode cc pc = .ok (i.1, bi_len i.1) ∧ bi_oki own nL ini i.1 i.2 ∧ bi_okc M own R i.1 i.2 ∧ bi_okr M own nL ini R cc (pc + bi_len i.1) is
theorem bi_okr_room {M : Nat → Option bi_M} {own : String} {nL : Nat} {ini : Bool} {R R' : Room} {cc : ByteArray} (hf : R'.frames = R.frames) (hl : R'.locals = R.locals) : ∀ (is : List bi_I) (pc : Nat), bi_okr M own nL ini R cc pc is → bi_okr M own nL ini R' cc pc is
  | [], _, h => h
  | i :: is, pc, h => by
    obtain ⟨h1, h2, h3, h4⟩ := h
    refine ⟨h1, h2, ?_, bi_okr_room hf hl is _ h4⟩
    unfold bi_okc at h3 ⊢
    unfold bi_okb at h3 ⊢
    rw [hf, hl]
    exact h3
theorem bi_sxs (hx : p.tables.exec = Jvm.exec) (hb : cd.code = cc) (hml : cd.maxLocals = nL) (hown : s.vm.findClass own = some m.cls) (hini : ini = true → meth.name = "<init>") (hcf : bi_cfok l D B0 Hb M cf) (hup : ∀ (mi : Nat) (as : List bi_V) (h : bi_H) (v : Option bi_V) (h' : bi_H), cf mi as h = some (v, h') → bi_up h h') : ∀ (is : List bi_I) (pc : Nat) {L L' : bi_L} {st st' : List bi_V} {h h' : bi_H}, bi_okr M own nL ini R cc pc is → bi_xs cf is L st h = some (L', st', h') → bi_nc h' ≤ n0 + R.cells → bi_ns h' ≤ m0 + R.slots → bi_At p l e R s m args below meth cd Q D B0 Hb nL n0 m0 (bi_end pc is) L' st' h' → bi_At p l e R s m args below meth cd Q D B0 Hb nL n0 m0 pc L st h
  | [], pc, _, _, _, _, _, _, _, he, _, _, kk => by cases he; exact kk
  | i :: is, pc, L, L', st, st', h, h', hok, he, hRc, hRs, kk => by
    obtain ⟨h1, h2, h3, h4⟩ := hok
    unfold bi_xs at he
    split at he
    · cases he
    · rename_i q hq
      have u := bi_up_xs hup is he
      have hRc' : bi_nc q.2.2 ≤ n0 + R.cells := Nat.le_trans u.1 hRc
      have hRs' : bi_ns q.2.2 ≤ m0 + R.slots := Nat.le_trans u.2.1 hRs
      exact bi_sx hx hb hml hown hini hcf h2 h3 h1 hq hRc' hRs' (bi_sxs hx hb hml hown hini hcf hup is _ h4 he hRc hRs kk)
end BW
end
section
/-! blocks and runs: what the interpreter comes to, the machine comes to -/
def bi_pc (P : bi_P) (mi b : Nat) : Option Nat := (P mi b).map (fun q => q.1)
/-- the end of a block as the code has it -/
def bi_okt (P : bi_P) (mi : Nat) (cc : ByteArray) (ret : Option FieldType) (pc : Nat) (t : bi_I) (bs : List Nat) : Prop := match t.1 with
  | .nop => bi_pc P mi (bs.getD 0 0) = some pc
  | .goto off => decode cc pc = .ok (.goto off, 3) ∧ ∃ tg : Nat, (pc : Int) + off = (tg : Int) ∧ bi_pc P mi (bs.getD 0 0) = some tg
  | .ifCond c off => decode cc pc = .ok (.ifCond c off, 3) ∧ bi_pc P mi (bs.getD 1 0) = some (pc + 3) ∧ ∃ tg : Nat, (pc : Int) + off = (tg : Int) ∧ bi_pc P mi (bs.getD 0 0) = some tg
  | .if_icmp c off => decode cc pc = .ok (.if_icmp c off, 3) ∧ bi_pc P mi (bs.getD 1 0) = some (pc + 3) ∧ ∃ tg : Nat, (pc : Int) + off = (tg : Int) ∧ bi_pc P mi (bs.getD 0 0) = some tg
  | .ifnull off => decode cc pc = .ok (.ifnull off, 3) ∧ bi_pc P mi (bs.getD 1 0) = some (pc + 3) ∧ ∃ tg : Nat, (pc : Int) + off = (tg : Int) ∧ bi_pc P mi (bs.getD 0 0) = some tg
  | .ifnonnull off => decode cc pc = .ok (.ifnonnull off, 3) ∧ bi_pc P mi (bs.getD 1 0) = some (pc + 3) ∧ ∃ tg : Nat, (pc : Int) + off = (tg : Int) ∧ bi_pc P mi (bs.getD 0 0) = some tg
  | .tableswitch df lo hi offs => (∃ len, decode cc pc = .ok (.tableswitch df lo hi offs, len)) ∧ (∃ tg : Nat, (pc : Int) + df = (tg : Int) ∧ bi_pc P mi (bs.getD 0 0) = some tg) ∧ ∀ k, k < (hi - lo + 1).toNat → ∃ (off : Int) (tg : Nat), offs[k]? = some off ∧ (pc : Int) + off = (tg : Int) ∧ bi_pc P mi (bs.getD (k + 1) 0) = some tg
  | .ireturn => decode cc pc = .ok (.ireturn, 1) ∧ ((t.2.1 = 0 ∧ ret = some .int) ∨ (t.2.1 = 1 ∧ ret = some .boolean))
  | .areturn => decode cc pc = .ok (.areturn, 1) ∧ ∃ rt, ret = some rt ∧ bi_isr rt = true
  | .return_ => decode cc pc = .ok (.return_, 1) ∧ ret = none
  | _ => True
theorem bi_up_t {cf : Nat → List bi_V → bi_H → Option (bi_O × bi_H)} {t : bi_I} {bs : List Nat} {L : bi_L} {st : List bi_V} {h : bi_H} (hcf : ∀ (mi : Nat) (as : List bi_V) (h : bi_H) (o : bi_O) (h' : bi_H), cf mi as h = some (o, h') → bi_up h h') :
    (∀ o h', bi_t cf t bs L st h = some (.inl (o, h')) → bi_up h h') ∧ (∀ b L' st' h', bi_t cf t bs L st h = some (.inr (b, L', st', h')) → bi_up h h') := by
  obtain ⟨i, r⟩ := t
  constructor
  · intro o h' he
    unfold bi_t at he
    dsimp only at he
    repeat' (split at he)
    all_goals first | (cases he; first | exact bi_up_rf | exact bi_up_new) | cases he
  · intro b L' st' h' he
    unfold bi_t at he
    dsimp only at he
    repeat' (split at he)
    all_goals first | (cases he; first | exact bi_up_rf | (apply hcf; assumption)) | cases he
theorem bi_up_run (P : bi_P) : ∀ (n mi b : Nat) (L : bi_L) (st : List bi_V) (h : bi_H) (o : bi_O) (h' : bi_H), bi_run P n mi b L st h = some (o, h') → bi_up h h'
  | 0, _, _, _, _, _, _, _, he => by cases he
  | n + 1, mi, b, L, st, h, o, h', he => by
    unfold bi_run at he
    split at he
    · cases he
    · rename_i q hq
      split at he
      · cases he
      · rename_i z hz
        have u1 : bi_up h z.2.2 := bi_up_xs (fun mi as h v h' hc => by
          split at hc
          · rename_i v0 h0 hr
            cases hc
            exact bi_up_run P n _ _ _ _ _ _ _ hr
          · cases hc) _ hz
        have u2 := bi_up_t (t := q.2.2.1) (bs := q.2.2.2) (L := z.1) (st := z.2.1) (h := z.2.2) (cf := fun m as h => bi_run P n m 0 (bi_loc as) [] h) (fun mi as h o h' hc => bi_up_run P n _ _ _ _ _ _ _ hc)
        split at he
        · cases he
        · rename_i o1 ht
          cases he
          exact u1.tr (u2.1 _ _ ht)
        · rename_i w ht
          exact (u1.tr (u2.2 _ _ _ _ ht)).tr (bi_up_run P n _ _ _ _ _ _ _ he)
/-- the calls of a run of n blocks -/
def bi_cfn (P : bi_P) (n : Nat) : Nat → List bi_V → bi_H → Option (Option bi_V × bi_H) := fun m as h => match bi_run P n m 0 (bi_loc as) [] h with
  | some (.inl v, h') => some (v, h')
  | _ => none
theorem bi_up_cfn (P : bi_P) (n : Nat) : ∀ (mi : Nat) (as : List bi_V) (h : bi_H) (v : Option bi_V) (h' : bi_H), bi_cfn P n mi as h = some (v, h') → bi_up h h' := by
  intro mi as h v h' hc
  unfold bi_cfn at hc
  split at hc
  · rename_i v0 h0 hr
    cases hc
    exact bi_up_run P n _ _ _ _ _ _ _ hr
  · cases hc
section BR
variable {p : Program} {l : Launch} {e : Env} {R : Room} {s : State} {m : MethodId} {args : Array Value} {below : List Frame} {meth : Method} {cd : Code} {Q : State → Prop} {D : va_G} {B0 : Nat} {Hb : Heap} {nL n0 m0 : Nat} {cc : ByteArray} {pc : Nat} {own : String} {L L' : bi_L} {st st' : List bi_V} {h h' : bi_H} {ini : Bool} {r : bi_R} {M : Nat → Option bi_M} {P : bi_P}
/-- a jump: its condition decides -/
theorem bi_if {c : ClassFile.Cond} {off : Int} {tg : Nat} {H : Heap} {locs : List Loc} {cells slots : Nat} {ls : Array Slot} {rest : List Value} {x : Int32} (hx : p.tables.exec = Jvm.exec) (hb : cd.code = cc) (hdg : decode cc pc = .ok (.ifCond c off, 3)) (htg : (pc : Int) + off = (tg : Int)) (kt : bi_c c x 0 = true → W p l e R s m args below meth cd H locs cells slots Q (F0 m tg ls rest)) (kf : ¬ bi_c c x 0 = true → W p l e R s m args below meth cd H locs cells slots Q (F0 m (pc + 3) ls rest)) : W p l e R s m args below meth cd H locs cells slots Q (F0 m pc ls (.int x :: rest)) := by
  cases c with
  | eq => exact lv_if_eq hx hb hdg htg (fun z => kt (decide_eq_true z)) (fun z => kf (fun w => z (of_decide_eq_true w)))
  | ne => exact lv_if_ne hx hb hdg htg (fun z => kt (decide_eq_true z)) (fun z => kf (fun w => (of_decide_eq_true w) z))
  | lt => exact lv_if_lt hx hb hdg htg (fun z => kt (decide_eq_true z)) (fun z => kf (fun w => z (of_decide_eq_true w)))
  | ge => exact lv_if_ge hx hb hdg htg (fun z => kt (decide_eq_true z)) (fun z => kf (fun w => z (of_decide_eq_true w)))
  | gt => exact lv_if_gt hx hb hdg htg (fun z => kt (decide_eq_true z)) (fun z => kf (fun w => z (of_decide_eq_true w)))
  | le => exact lv_if_le hx hb hdg htg (fun z => kt (decide_eq_true z)) (fun z => kf (fun w => z (of_decide_eq_true w)))
theorem bi_icmp {c : ClassFile.Cond} {off : Int} {tg : Nat} {H : Heap} {locs : List Loc} {cells slots : Nat} {ls : Array Slot} {rest : List Value} {x y : Int32} (hx : p.tables.exec = Jvm.exec) (hb : cd.code = cc) (hdg : decode cc pc = .ok (.if_icmp c off, 3)) (htg : (pc : Int) + off = (tg : Int)) (kt : bi_c c x y = true → W p l e R s m args below meth cd H locs cells slots Q (F0 m tg ls rest)) (kf : ¬ bi_c c x y = true → W p l e R s m args below meth cd H locs cells slots Q (F0 m (pc + 3) ls rest)) : W p l e R s m args below meth cd H locs cells slots Q (F0 m pc ls (.int y :: .int x :: rest)) := by
  cases c with
  | eq => exact lv_icmp_eq hx hb hdg htg (fun z => kt (decide_eq_true z)) (fun z => kf (fun w => z (of_decide_eq_true w)))
  | ne => exact lv_icmp_ne hx hb hdg htg (fun z => kt (decide_eq_true z)) (fun z => kf (fun w => (of_decide_eq_true w) z))
  | lt => exact lv_icmp_lt hx hb hdg htg (fun z => kt (decide_eq_true z)) (fun z => kf (fun w => z (of_decide_eq_true w)))
  | ge => exact lv_icmp_ge hx hb hdg htg (fun z => kt (decide_eq_true z)) (fun z => kf (fun w => z (of_decide_eq_true w)))
  | gt => exact lv_icmp_gt hx hb hdg htg (fun z => kt (decide_eq_true z)) (fun z => kf (fun w => z (of_decide_eq_true w)))
  | le => exact lv_icmp_le hx hb hdg htg (fun z => kt (decide_eq_true z)) (fun z => kf (fun w => z (of_decide_eq_true w)))
/-- the ends of blocks that go on, but for calls -/
theorem bi_st_next {t : bi_I} {bs : List Nat} {ret : Option FieldType} {mi : Nat} {w : Nat × bi_L × List bi_V × bi_H} {cf : Nat → List bi_V → bi_H → Option (bi_O × bi_H)} (hx : p.tables.exec = Jvm.exec) (hb : cd.code = cc) (hok : bi_okt P mi cc ret pc t bs) (hnc : ∀ k, t.1 ≠ .invokevirtual k) (he : bi_t cf t bs L st h = some (.inr w)) (kk : ∀ pc', bi_pc P mi w.1 = some pc' → bi_At p l e R s m args below meth cd Q D B0 Hb nL n0 m0 pc' w.2.1 w.2.2.1 w.2.2.2) : bi_At p l e R s m args below meth cd Q D B0 Hb nL n0 m0 pc L st h := by
  obtain ⟨i, r⟩ := t
  intro H locs ls cells slots hr hl hw hlc hc hs
  cases i with
  | nop =>
    cases he
    exact kk pc hok H locs ls cells slots hr hl hw hlc hc hs
  | goto off =>
    obtain ⟨hdg, tg, htg, hp⟩ := hok
    cases he
    exact lv_goto hx hb hdg htg (kk tg hp H locs ls cells slots hr hl hw hlc hc hs)
  | ifCond c off =>
    obtain ⟨hdg, hp3, tg, htg, hp⟩ := hok
    unfold bi_t at he
    dsimp only at he
    split at he
    · rename_i x st0
      cases he
      dsimp only at kk
      refine bi_if hx hb hdg htg (fun z => ?_) (fun z => ?_)
      · rw [if_pos z] at kk
        exact kk tg hp H locs ls cells slots hr hl hw hlc hc hs
      · rw [if_neg z] at kk
        exact kk (pc + 3) hp3 H locs ls cells slots hr hl hw hlc hc hs
    · cases he
  | if_icmp c off =>
    obtain ⟨hdg, hp3, tg, htg, hp⟩ := hok
    unfold bi_t at he
    dsimp only at he
    split at he
    · rename_i y x st0
      cases he
      dsimp only at kk
      refine bi_icmp hx hb hdg htg (fun z => ?_) (fun z => ?_)
      · rw [if_pos z] at kk
        exact kk tg hp H locs ls cells slots hr hl hw hlc hc hs
      · rw [if_neg z] at kk
        exact kk (pc + 3) hp3 H locs ls cells slots hr hl hw hlc hc hs
    · cases he
  | ifnull off =>
    obtain ⟨hdg, hp3, tg, htg, hp⟩ := hok
    unfold bi_t at he
    dsimp only at he
    split at he
    · rename_i a st0
      cases he
      dsimp only at kk
      cases a with
      | zero =>
        rw [if_pos rfl] at kk
        exact lv_ifnullN hx hb hdg htg (kk tg hp H locs ls cells slots hr hl hw hlc hc hs)
      | succ a =>
        rw [if_neg (Nat.succ_ne_zero a)] at kk
        exact lv_ifnull hx hb hdg (kk (pc + 3) hp3 H locs ls cells slots hr hl hw hlc hc hs)
    · cases he
  | ifnonnull off =>
    obtain ⟨hdg, hp3, tg, htg, hp⟩ := hok
    unfold bi_t at he
    dsimp only at he
    split at he
    · rename_i a st0
      cases he
      dsimp only at kk
      cases a with
      | zero =>
        rw [if_pos rfl] at kk
        exact lv_ifnonnullN hx hb hdg (kk (pc + 3) hp3 H locs ls cells slots hr hl hw hlc hc hs)
      | succ a =>
        rw [if_neg (Nat.succ_ne_zero a)] at kk
        exact lv_ifnonnull hx hb hdg htg (kk tg hp H locs ls cells slots hr hl hw hlc hc hs)
    · cases he
  | tableswitch df lo hi offs =>
    obtain ⟨⟨len, hdg⟩, ⟨tg, htg, hp⟩, hcs⟩ := hok
    unfold bi_t at he
    dsimp only at he
    split at he
    · rename_i x st0
      cases he
      dsimp only at kk
      by_cases hxx : x.toInt < lo ∨ hi < x.toInt
      · rw [if_pos hxx] at kk
        exact lv_tableOut hx hb hdg hxx htg (kk tg hp H locs ls cells slots hr hl hw hlc hc hs)
      · rw [if_neg hxx] at kk
        obtain ⟨off, tg2, ho, htg2, hp2⟩ := hcs (x.toInt - lo).toNat (by omega)
        exact lv_tableIn hx hb hdg (by omega) (by omega) ho htg2 (kk tg2 hp2 H locs ls cells slots hr hl hw hlc hc hs)
    · cases he
  | invokevirtual k => exact absurd rfl (hnc k)
  | ireturn =>
    unfold bi_t at he
    dsimp only at he
    repeat' (split at he)
    all_goals cases he
  | areturn =>
    unfold bi_t at he
    dsimp only at he
    repeat' (split at he)
    all_goals cases he
  | return_ =>
    unfold bi_t at he
    dsimp only at he
    repeat' (split at he)
    all_goals cases he
  | athrow =>
    unfold bi_t at he
    dsimp only at he
    repeat' (split at he)
    all_goals cases he
  | _ => cases he
/-- a method's own end -/
theorem bi_st_end {t : bi_I} {bs : List Nat} {ret : Option FieldType} {mi : Nat} {v : Option bi_V} {cf : Nat → List bi_V → bi_H → Option (bi_O × bi_H)} (hx : p.tables.exec = Jvm.exec) (hb : cd.code = cc) (hret : meth.sig.returnType = ret) (hlocks : meth.locks = false) (hok : bi_okt P mi cc ret pc t bs) (he : bi_t cf t bs L st h = some (.inl (.inl v, h'))) (hn0 : n0 ≤ bi_nc h') (hm0 : m0 ≤ bi_ns h') : bi_At p l e R s m args below meth cd (MQ below (bi_Qc D B0 Hb v h') args s (bi_nc h' - n0) (bi_ns h' - m0) (fun x => B0 ≤ x)) D B0 Hb nL n0 m0 pc L st h := by
  obtain ⟨i, r⟩ := t
  intro H locs ls cells slots hr hl hw hlc hc hs
  have hq : ∀ (o : Outcome) (t : State), o = .returned (v.map bi_tv) → h' = h → t.heap = H → s.WarmedH t.vm → bi_Qc D B0 Hb v h' args s o t := fun o t ho hh ht hW => by
    subst hh
    exact ⟨ho, by rw [ht]; exact hr.moved hW⟩
  cases i with
  | ireturn =>
    obtain ⟨hdg, hrt⟩ := hok
    unfold bi_t at he
    dsimp only at he
    split at he
    · rename_i x
      split at he
      · rename_i hx01
        cases he
        have e1 : cells = bi_nc h - n0 := by omega
        have e2 : slots = bi_ns h - m0 := by omega
        subst e1
        subst e2
        rcases hrt with ⟨ht0, hrt⟩ | ⟨ht0, hrt⟩
        · exact W.iret hx hb (by rw [hret]; exact hrt) (fun t ht hW => hq _ t rfl rfl ht hW) hlc hdg hlocks
        · have h01 : x = 0 ∨ x = 1 := hx01.resolve_left (by have ht0 : r.1 = 1 := ht0; show ¬ r.1 = 0; omega)
          exact W.zret hx hb (by rw [hret]; exact hrt) (bi_nar_z h01).1 (fun t ht hW => hq _ t rfl rfl ht hW) hlc hdg hlocks
      · cases he
    · cases he
  | areturn =>
    obtain ⟨hdg, rt, hrt, hir⟩ := hok
    unfold bi_t at he
    dsimp only at he
    split at he
    · rename_i a
      cases he
      have e1 : cells = bi_nc h - n0 := by omega
      have e2 : slots = bi_ns h - m0 := by omega
      subst e1
      subst e2
      have hrt2 : (∃ n, rt = .object n) ∨ ∃ t, rt = .array t := by
        cases rt <;> first | (simp [bi_isr] at hir; done) | exact Or.inl ⟨_, rfl⟩ | exact Or.inr ⟨_, rfl⟩
      have hv : bi_tr a = .null ∨ ∃ b, bi_tr a = .ref b := by
        cases a with
        | zero => exact Or.inl rfl
        | succ a => exact Or.inr ⟨a, rfl⟩
      exact W.aret hx hb (by rw [hret]; exact hrt) hrt2 hv (fun t ht hW => hq _ t rfl rfl ht hW) hlc hdg hlocks
    · cases he
  | return_ =>
    obtain ⟨hdg, hrt⟩ := hok
    unfold bi_t at he
    dsimp only at he
    split at he
    · cases he
      have e1 : cells = bi_nc h - n0 := by omega
      have e2 : slots = bi_ns h - m0 := by omega
      subst e1
      subst e2
      exact W.vret hx hb (by rw [hret]; exact hrt) (fun t ht hW => hq _ t rfl rfl ht hW) hlc hdg hlocks
    · cases he
  | athrow =>
    unfold bi_t at he
    dsimp only at he
    repeat' (split at he)
    all_goals cases he
  | _ =>
    unfold bi_t at he
    dsimp only at he
    repeat' (split at he)
    all_goals cases he
end BR
end
section
/-! throws out of a method, with the size of the heap behind them (after the kit's vx_throwS, vx_throwSW), and what a method that throws is -/
section BT
variable {p : Program} {l : Launch} {e : Env} {R : Room} {s : State} {m : MethodId} {args : Array Value} {below : List Frame} {meth : Method} {c : Code} {H : Heap} {locs : List Loc} {cells slots : Nat} {Q : State → Prop}
variable {mc ms : Nat} {free : Addr → Prop} {A0 A1 : Nat → Prop} {H0 : Heap} {a : Array Value} {ls : Array Slot} {st0 rest : List Value}
variable {Qc : Array Value → State → Outcome → State → Prop} {XC : String → State → State → Prop}
/-- 'throw new E("text")': new; dup; ldc; invokespecial; athrow -/
theorem bi_throwS {cc : ByteArray} {pc : Nat} (hexec : p.tables.exec = Jvm.exec) (hb : c.code = cc) (hl : l.stackTraces = false) {own cls text : String} {names : List String} {ik is ic mc ms sa : Nat} {A : Nat → Prop}
    (hown : s.vm.findClass own = some m.cls) (hcls : Bundle.fit cls = true) (hnames : ∀ n ∈ names, Bundle.fit n = true)
    (hk : (Cond.classLink own ik cls).before args s = true) (hini : (Cond.initialized cls).before args s = true) (hstr : vk_R own is text sa s) (hat : ∀ w ∈ vx_atS own ic cls names, w.before args s = true)
    (hgood : ∀ w ∈ Cond.classLink own ik cls :: Cond.initialized cls :: vx_atS own ic cls names, vx_ot w = true)
    (hU : vx_Zq Bundle.tN "UNASSIGNED_STACK" Bundle.steD A s s.heap) (hN : vx_Zq Bundle.tN "SUPPRESSED_SENTINEL" Bundle.listD A s s.heap) (hS : va_S A s.heap H locs) (hsize : ls.size = c.maxLocals)
    (d0 : decode cc pc = .ok (.new ik, 3)) (d3 : decode cc (pc + 3) = .ok (.dup, 1)) (d4 : decode cc (pc + 4) = .ok (.ldc is, 2)) (d6 : decode cc (pc + 6) = .ok (.invokespecial ic, 3)) (d9 : decode cc (pc + 9) = .ok (.athrow, 1))
    (hout : ∀ x ∈ c.exceptionTable.toList, covers x (pc + 9) = false)
    (hRframes : names.length + 3 < R.frames) (hRlocals : (rest.map fun v => v.category).sum + (13 * (names.length + 1) + 43) ≤ R.locals) (hRcells : cells + 1 ≤ R.cells) (hRslots : slots + 6 ≤ R.slots) (hlocks : meth.locks = false)
    (hx : ∀ t : State, s.WarmedH t.vm → t.heap.size = H.size + 1 → (∀ q : Nat, q < H.size → t.heap[q]? = H[q]?) → XC cls s t)
    (hf : ∀ z ∈ locs, free z.base) (hc : cells + 1 ≤ mc) (hs : slots + 6 ≤ ms) :
    W p l e R s m args below meth c H locs cells slots (vx_MQ below Qc XC args s mc ms free) (F0 m pc ls rest) := by
  intro T hT X
  have htr : e.platform.stackTraces = false := (show e.platform.stackTraces = l.stackTraces by rw [X.admits.platform]).trans hl
  have Y := vx_rebase X (R' := { frames := R.frames, locals := R.locals, cells := 1, slots := 6 }) (Nat.le_refl _) (Nat.le_refl _) hRcells hRslots
  obtain ⟨s', hA⟩ : ∃ z, z = (T.setVm s.vm).setFrames (.invoking m args :: below) := ⟨_, rfl⟩
  rw [← hA] at Y
  have hvm : s'.vm = s.vm := by rw [hA]; rfl
  have hhp : s'.heap = H := by rw [hA]; exact hT
  have hW0 : s.WarmedH s'.vm := by rw [hvm]; exact State.WarmedH.refl s
  have hat' : ∀ w ∈ vx_atS own ic cls names, w.before args s' = true := fun w hw => vx_ot_at hW0 hvm.symm (hgood w (List.mem_cons_of_mem _ (List.mem_cons_of_mem _ hw))) (hat w hw)
  have hk' : (Cond.classLink own ik cls).before args s' = true := vx_ot_at hW0 hvm.symm (hgood _ List.mem_cons_self) hk
  have hini' : (Cond.initialized cls).before args s' = true := vx_ot_at hW0 hvm.symm (hgood _ (List.mem_cons_of_mem _ List.mem_cons_self)) hini
  have hU' : vx_Zq Bundle.tN "UNASSIGNED_STACK" Bundle.steD A s' s'.heap := by rw [hhp]; exact vx_Zq.moved hW0.alike (hU.kept hS.2.1)
  have hN' : vx_Zq Bundle.tN "SUPPRESSED_SENTINEL" Bundle.listD A s' s'.heap := by rw [hhp]; exact vx_Zq.moved hW0.alike (hN.kept hS.2.1)
  have h : ∀ w ∈ Bundle.ownAtoms own ic cls names, w.before args s' = true := vx_own hat' (vx_isRefq hU'.1) (vx_isRefq hN'.1) hU'.2.word hN'.2.word
  have hown' : s'.vm.findClass own = some m.cls := by rw [hvm]; exact hown
  have hins : (Cond.instantiable cls 6).before args s' = true := h _ (by simp [Bundle.ownAtoms])
  obtain ⟨vm₁, cX, kX, hfX, hkX, -, -, X₁, st1⟩ := Y.newCold hexec (own := own) (C := cls) (index := ik) (n := 6) hown' hk' hins hini'
    (g := F0 m pc ls rest) rfl (by rw [hb]; exact d0) (Nat.le_refl _) (Nat.le_refl _)
  generalize hT1 : (T.setVm vm₁).pushCell { cls := cX, slots := kX.instanceTypes.map defaultValue, vm := .none } = T1 at X₁ st1
  have hcat : (Value.ref T.heap.size).category = 1 := rfl
  have hcellA : T1.heap[T.heap.size]? = some (freshCell cX kX) := by rw [← hT1]; exact State.heap_pushCell_size _ _
  have d3' : decode c.code (pc + 3) = .ok (.dup, 1) := by rw [hb]; exact d3
  have d4' : decode c.code (pc + 4) = .ok (.ldc is, 2) := by rw [hb]; exact d4
  have hstr' : vk_R own is text sa s' := vk_R.warm hW0 hstr
  obtain ⟨U, hsteps, hrun, hend, hW, hsame, ce, hce, hO⟩ := X₁.ctorThrowS hexec htr (own := own) (cls := cls) (names := names) (ic := ic) hown' hcls hnames h (fun x hx => nomatch hx) hfX hkX hcellA (by rw [hhp, hT]; exact Nat.le_refl _) (msg := .ref sa) rfl
    (g := { method := m, pc := pc + 6, locals := ls, stack := .ref sa :: .ref T.heap.size :: .ref T.heap.size :: rest, locked := none }) rfl hsize rfl rfl (rest := rest) rfl
    (by rw [hb]; exact d6) (by rw [hb]; exact d9) hout hRframes (by simp only [List.map_cons, List.sum_cons, hcat]; omega) hlocks
  obtain ⟨f1, f2⟩ := vx_frame hsame
  rw [hhp] at f1 f2
  have hWs : s.WarmedH U.vm := State.WarmedH.trans hW0 hW
  have hsz9 : U.heap.size = H.size + 1 := by
    have g1 := hsame.2.2.1
    rw [hhp] at g1
    have g2 : U.heap.size ≤ H.size + 1 := g1
    have g3 : T.heap.size < U.heap.size := (Array.getElem?_eq_some_iff.mp hce).1
    rw [hT] at g3
    omega
  have hcl : s.vm.findClass cls = some ce.cls := by
    have h9 := hO.cls
    rw [hvm] at h9
    exact h9
  have hall : s.sameButNew ({ U with vm := s.vm } : State) locs mc ms := by
    subst hA
    obtain ⟨e1, e2⟩ := hsame
    rw [State.setFrames_setFrames] at e1
    have h2 : (T.setVm s.vm).sameButNew ({ U with vm := s.vm } : State) [] (0 + 1) (0 + 6) := ⟨e1, e2⟩
    have h3 := X.same.trans h2
    rw [List.append_nil] at h3
    exact h3.mono hc hs
  refine ⟨U, ?_, .threw T.heap.size, hrun, hend, Or.inr ⟨T.heap.size, rfl, cls, ce, locs, hx U hWs hsz9 (fun q hq => f2 q hq (fun z hz => nomatch hz)), hce, hO.vm, hcl, hWs, hall, hf⟩⟩
  refine st1 _ ?_
  show Steps p.tables e below (T1.setTop { method := m, pc := pc + 3, locals := ls, stack := .ref T.heap.size :: rest, locked := none }) _
  jvm_step X₁.here [X₁.here.top, hexec, d3', Value.category]
  exact X₁.ldcString hexec (own := own) (text := text) (index := is) (a := sa) hown' hstr'.1 hstr'.2
    (g := { method := m, pc := pc + 4, locals := ls, stack := .ref T.heap.size :: .ref T.heap.size :: rest, locked := none }) rfl d4' _ hsteps
/-- 'throw new E("text")', the text by a wide index -/
theorem bi_throwSW {cc : ByteArray} {pc : Nat} (hexec : p.tables.exec = Jvm.exec) (hb : c.code = cc) (hl : l.stackTraces = false) {own cls text : String} {names : List String} {ik is ic mc ms sa : Nat} {A : Nat → Prop}
    (hown : s.vm.findClass own = some m.cls) (hcls : Bundle.fit cls = true) (hnames : ∀ n ∈ names, Bundle.fit n = true)
    (hk : (Cond.classLink own ik cls).before args s = true) (hini : (Cond.initialized cls).before args s = true) (hstr : vk_R own is text sa s) (hat : ∀ w ∈ vx_atS own ic cls names, w.before args s = true)
    (hgood : ∀ w ∈ Cond.classLink own ik cls :: Cond.initialized cls :: vx_atS own ic cls names, vx_ot w = true)
    (hU : vx_Zq Bundle.tN "UNASSIGNED_STACK" Bundle.steD A s s.heap) (hN : vx_Zq Bundle.tN "SUPPRESSED_SENTINEL" Bundle.listD A s s.heap) (hS : va_S A s.heap H locs) (hsize : ls.size = c.maxLocals)
    (d0 : decode cc pc = .ok (.new ik, 3)) (d3 : decode cc (pc + 3) = .ok (.dup, 1)) (d4 : decode cc (pc + 4) = .ok (.ldc_w is, 3)) (d7 : decode cc (pc + 7) = .ok (.invokespecial ic, 3)) (d10 : decode cc (pc + 10) = .ok (.athrow, 1))
    (hout : ∀ x ∈ c.exceptionTable.toList, covers x (pc + 10) = false)
    (hRframes : names.length + 3 < R.frames) (hRlocals : (rest.map fun v => v.category).sum + (13 * (names.length + 1) + 43) ≤ R.locals) (hRcells : cells + 1 ≤ R.cells) (hRslots : slots + 6 ≤ R.slots) (hlocks : meth.locks = false)
    (hx : ∀ t : State, s.WarmedH t.vm → t.heap.size = H.size + 1 → (∀ q : Nat, q < H.size → t.heap[q]? = H[q]?) → XC cls s t)
    (hf : ∀ z ∈ locs, free z.base) (hc : cells + 1 ≤ mc) (hs : slots + 6 ≤ ms) :
    W p l e R s m args below meth c H locs cells slots (vx_MQ below Qc XC args s mc ms free) (F0 m pc ls rest) := by
  intro T hT X
  have htr : e.platform.stackTraces = false := (show e.platform.stackTraces = l.stackTraces by rw [X.admits.platform]).trans hl
  have Y := vx_rebase X (R' := { frames := R.frames, locals := R.locals, cells := 1, slots := 6 }) (Nat.le_refl _) (Nat.le_refl _) hRcells hRslots
  obtain ⟨s', hA⟩ : ∃ z, z = (T.setVm s.vm).setFrames (.invoking m args :: below) := ⟨_, rfl⟩
  rw [← hA] at Y
  have hvm : s'.vm = s.vm := by rw [hA]; rfl
  have hhp : s'.heap = H := by rw [hA]; exact hT
  have hW0 : s.WarmedH s'.vm := by rw [hvm]; exact State.WarmedH.refl s
  have hat' : ∀ w ∈ vx_atS own ic cls names, w.before args s' = true := fun w hw => vx_ot_at hW0 hvm.symm (hgood w (List.mem_cons_of_mem _ (List.mem_cons_of_mem _ hw))) (hat w hw)
  have hk' : (Cond.classLink own ik cls).before args s' = true := vx_ot_at hW0 hvm.symm (hgood _ List.mem_cons_self) hk
  have hini' : (Cond.initialized cls).before args s' = true := vx_ot_at hW0 hvm.symm (hgood _ (List.mem_cons_of_mem _ List.mem_cons_self)) hini
  have hU' : vx_Zq Bundle.tN "UNASSIGNED_STACK" Bundle.steD A s' s'.heap := by rw [hhp]; exact vx_Zq.moved hW0.alike (hU.kept hS.2.1)
  have hN' : vx_Zq Bundle.tN "SUPPRESSED_SENTINEL" Bundle.listD A s' s'.heap := by rw [hhp]; exact vx_Zq.moved hW0.alike (hN.kept hS.2.1)
  have h : ∀ w ∈ Bundle.ownAtoms own ic cls names, w.before args s' = true := vx_own hat' (vx_isRefq hU'.1) (vx_isRefq hN'.1) hU'.2.word hN'.2.word
  have hown' : s'.vm.findClass own = some m.cls := by rw [hvm]; exact hown
  have hins : (Cond.instantiable cls 6).before args s' = true := h _ (by simp [Bundle.ownAtoms])
  obtain ⟨vm₁, cX, kX, hfX, hkX, -, -, X₁, st1⟩ := Y.newCold hexec (own := own) (C := cls) (index := ik) (n := 6) hown' hk' hins hini'
    (g := F0 m pc ls rest) rfl (by rw [hb]; exact d0) (Nat.le_refl _) (Nat.le_refl _)
  generalize hT1 : (T.setVm vm₁).pushCell { cls := cX, slots := kX.instanceTypes.map defaultValue, vm := .none } = T1 at X₁ st1
  have hcat : (Value.ref T.heap.size).category = 1 := rfl
  have hcellA : T1.heap[T.heap.size]? = some (freshCell cX kX) := by rw [← hT1]; exact State.heap_pushCell_size _ _
  have d3' : decode c.code (pc + 3) = .ok (.dup, 1) := by rw [hb]; exact d3
  have d4' : decode c.code (pc + 4) = .ok (.ldc_w is, 3) := by rw [hb]; exact d4
  have hstr' : vk_R own is text sa s' := vk_R.warm hW0 hstr
  obtain ⟨U, hsteps, hrun, hend, hW, hsame, ce, hce, hO⟩ := X₁.ctorThrowS hexec htr (own := own) (cls := cls) (names := names) (ic := ic) hown' hcls hnames h (fun x hx => nomatch hx) hfX hkX hcellA (by rw [hhp, hT]; exact Nat.le_refl _) (msg := .ref sa) rfl
    (g := { method := m, pc := pc + 7, locals := ls, stack := .ref sa :: .ref T.heap.size :: .ref T.heap.size :: rest, locked := none }) rfl hsize rfl rfl (rest := rest) rfl
    (by rw [hb]; exact d7) (by rw [hb]; exact d10) hout hRframes (by simp only [List.map_cons, List.sum_cons, hcat]; omega) hlocks
  obtain ⟨f1, f2⟩ := vx_frame hsame
  rw [hhp] at f1 f2
  have hWs : s.WarmedH U.vm := State.WarmedH.trans hW0 hW
  have hsz9 : U.heap.size = H.size + 1 := by
    have g1 := hsame.2.2.1
    rw [hhp] at g1
    have g2 : U.heap.size ≤ H.size + 1 := g1
    have g3 : T.heap.size < U.heap.size := (Array.getElem?_eq_some_iff.mp hce).1
    rw [hT] at g3
    omega
  have hcl : s.vm.findClass cls = some ce.cls := by
    have h9 := hO.cls
    rw [hvm] at h9
    exact h9
  have hall : s.sameButNew ({ U with vm := s.vm } : State) locs mc ms := by
    subst hA
    obtain ⟨e1, e2⟩ := hsame
    rw [State.setFrames_setFrames] at e1
    have h2 : (T.setVm s.vm).sameButNew ({ U with vm := s.vm } : State) [] (0 + 1) (0 + 6) := ⟨e1, e2⟩
    have h3 := X.same.trans h2
    rw [List.append_nil] at h3
    exact h3.mono hc hs
  refine ⟨U, ?_, .threw T.heap.size, hrun, hend, Or.inr ⟨T.heap.size, rfl, cls, ce, locs, hx U hWs hsz9 (fun q hq => f2 q hq (fun z hz => nomatch hz)), hce, hO.vm, hcl, hWs, hall, hf⟩⟩
  refine st1 _ ?_
  show Steps p.tables e below (T1.setTop { method := m, pc := pc + 3, locals := ls, stack := .ref T.heap.size :: rest, locked := none }) _
  jvm_step X₁.here [X₁.here.top, hexec, d3', Value.category]
  exact X₁.ldcStringW hexec (own := own) (text := text) (index := is) (a := sa) hown' hstr'.1 hstr'.2
    (g := { method := m, pc := pc + 4, locals := ls, stack := .ref T.heap.size :: .ref T.heap.size :: rest, locked := none }) rfl d4' _ hsteps
end BT
/-- the exceptions by their numbers, and the pool entry of their class and constructor in the class -/
def bi_en (e : Nat) : String := if e = 0 then "java/lang/IndexOutOfBoundsException" else "java/lang/IllegalStateException"
def bi_nms : List String := ["java/lang/RuntimeException", "java/lang/Exception"]
theorem bi_xw0 : ∀ w ∈ vx_atS RX9 240 "java/lang/IndexOutOfBoundsException" bi_nms, w ∈ lw_tbl := by decide +kernel
theorem bi_xw1 : ∀ w ∈ vx_atS RX9 253 "java/lang/IllegalStateException" bi_nms, w ∈ lw_tbl := by decide +kernel
theorem bi_xo0 : ∀ w ∈ vx_atS RX9 240 "java/lang/IndexOutOfBoundsException" bi_nms, bi_ok w = true ∧ vx_ot w = true := by decide +kernel
theorem bi_xo1 : ∀ w ∈ vx_atS RX9 253 "java/lang/IllegalStateException" bi_nms, bi_ok w = true ∧ vx_ot w = true := by decide +kernel
def bi_XC (D : va_G) (B0 : Nat) (Hb : Heap) (e : Nat) (h' : bi_H) : String → State → State → Prop := fun E _ t => E = bi_en e ∧ bi_rp D B0 Hb h' t t.heap
def bi_No : Array Value → State → Outcome → State → Prop := fun _ _ _ _ => False
/-- called with as over h the method throws e, and the heap is h' -/
def bi_Cx (l : Launch) (D : va_G) (B0 : Nat) (Hb : Heap) (q : bi_M) (as : List bi_V) (h : bi_H) (e : Nat) (h' : bi_H) : Prop :=
  bi_nc h ≤ bi_nc h' ∧ bi_ns h ≤ bi_ns h' ∧ vx_Met l q.1 [bi_cw q] (bi_rm q h h') (bi_Pc D B0 Hb as h) bi_No (bi_XC D B0 Hb e h') (bi_nc h' - bi_nc h) (bi_ns h' - bi_ns h) (fun x => B0 ≤ x)
/-- a throw as the code has it -/
def bi_oktx (own : String) (cc : ByteArray) (R : Room) (pc : Nat) (r : bi_R) : Prop := own = RX9 ∧ 6 ≤ R.frames ∧ 90 ≤ R.locals ∧ (∃ tx, (r.2.2.1, tx) ∈ bi_strs) ∧ ((r.1 = 0 ∧ r.2.1 = 236 ∧ r.2.2.2 = 240) ∨ (r.1 = 1 ∧ r.2.1 = 249 ∧ r.2.2.2 = 253)) ∧ decode cc pc = .ok (.new r.2.1, 3) ∧ decode cc (pc + 3) = .ok (.dup, 1) ∧
  ((decode cc (pc + 4) = .ok (.ldc r.2.2.1, 2) ∧ decode cc (pc + 6) = .ok (.invokespecial r.2.2.2, 3) ∧ decode cc (pc + 9) = .ok (.athrow, 1)) ∨ (decode cc (pc + 4) = .ok (.ldc_w r.2.2.1, 3) ∧ decode cc (pc + 7) = .ok (.invokespecial r.2.2.2, 3) ∧ decode cc (pc + 10) = .ok (.athrow, 1)))
theorem bi_xk0 : Cond.classLink RX9 236 "java/lang/IndexOutOfBoundsException" ∈ lw_tbl ∧ Cond.initialized "java/lang/IndexOutOfBoundsException" ∈ lw_tbl := by decide +kernel
theorem bi_xk1 : Cond.classLink RX9 249 "java/lang/IllegalStateException" ∈ lw_tbl ∧ Cond.initialized "java/lang/IllegalStateException" ∈ lw_tbl := by decide +kernel
theorem bi_fits : Bundle.fit "java/lang/IndexOutOfBoundsException" = true ∧ Bundle.fit "java/lang/IllegalStateException" = true ∧ ∀ n ∈ bi_nms, Bundle.fit n = true := by decide +kernel
section BU
variable {p : Program} {l : Launch} {e : Env} {R : Room} {s : State} {m : MethodId} {args : Array Value} {below : List Frame} {meth : Method} {cd : Code} {Q : State → Prop} {D : va_G} {B0 : Nat} {Hb : Heap} {nL n0 m0 : Nat} {cc : ByteArray} {pc : Nat} {own : String} {L L' : bi_L} {st st' : List bi_V} {h h' : bi_H} {r : bi_R} {M : Nat → Option bi_M} {P : bi_P}
/-- the heap with an exception's cell more -/
theorem bi_rp.thrown {H H' : Heap} {U : State} (hr : bi_rp D B0 Hb h s H) (hW : s.WarmedH U.vm) (hz : H'.size = H.size + 1) (ho : ∀ q, q < H.size → H'[q]? = H[q]?) : bi_rp D B0 Hb (bi_new h (0, 0) 6) U H' := by
  have h1 : bi_rp D B0 Hb (bi_new h (0, 0) 6) s H' := hr.born hz ho (bi_cell.none (by rw [bi_new_k hr.1.1]))
  exact h1.moved hW
/-- a method's end by a throw -/
theorem bi_st_throw {x : Nat} (hx : p.tables.exec = Jvm.exec) (hb : cd.code = cc) (hml : cd.maxLocals = nL) (hlt : l.stackTraces = false) (hown : s.vm.findClass own = some m.cls) (hlocks : meth.locks = false) (hte : ∀ z ∈ cd.exceptionTable.toList, False) (hS0 : ∀ q, q < B0 → s.heap[q]? = Hb[q]?) (hsx : s.heap.size + 1 ≤ bi_nx h) (hok : bi_oktx own cc R pc r) (hrx : r.1 = x) (hn0 : n0 ≤ bi_nc h) (hm0 : m0 ≤ bi_ns h) (hRc : bi_nc h + 1 ≤ n0 + R.cells) (hRs : bi_ns h + 6 ≤ m0 + R.slots) (hst : st = []) : bi_At p l e R s m args below meth cd (vx_MQ below bi_No (bi_XC D B0 Hb x (bi_new h (0, 0) 6)) args s (bi_nc h + 1 - n0) (bi_ns h + 6 - m0) (fun x => B0 ≤ x)) D B0 Hb nL n0 m0 pc L st h := by
  intro H locs ls cells slots hr hl hw hlc hc hs
  subst hst
  obtain ⟨rfl, hfr, hlo, ⟨tx, htx⟩, hcase, d0, d3, hd⟩ := hok
  obtain ⟨sa, hsa⟩ := hr.2.2.1.2.1 _ htx
  have hU : vx_Zq Bundle.tN "UNASSIGNED_STACK" Bundle.steD (fun q => B0 ≤ q) s s.heap := hr.2.2.1.2.2.1.kept (fun a h1 h2 => hS0 a (by omega))
  have hN : vx_Zq Bundle.tN "SUPPRESSED_SENTINEL" Bundle.listD (fun q => B0 ≤ q) s s.heap := hr.2.2.1.2.2.2.1.kept (fun a h1 h2 => hS0 a (by omega))
  have hext : ∀ q : Nat, q < B0 → H[q]? = s.heap[q]? := fun q hq => (hr.1.2.2 q hq).trans (hS0 q hq).symm
  have fin : ∀ (cls : String) (ik ic : Nat), cls = bi_en x → Bundle.fit cls = true → Cond.classLink RX9 ik cls ∈ lw_tbl → Cond.initialized cls ∈ lw_tbl → (∀ w ∈ vx_atS RX9 ic cls bi_nms, w ∈ lw_tbl) → (∀ w ∈ vx_atS RX9 ic cls bi_nms, bi_ok w = true ∧ vx_ot w = true) → r.2.1 = ik → r.2.2.2 = ic → W p l e R s m args below meth cd H locs cells slots (vx_MQ below bi_No (bi_XC D B0 Hb x (bi_new h (0, 0) 6)) args s (bi_nc h + 1 - n0) (bi_ns h + 6 - m0) (fun x => B0 ≤ x)) (F0 m pc ls []) := by
    intro cls ik ic hcls hfit hk hini hin hoks hik hic
    subst hik
    subst hic
    have hXC : ∀ t : State, s.WarmedH t.vm → t.heap.size = H.size + 1 → (∀ q : Nat, q < H.size → t.heap[q]? = H[q]?) → bi_XC D B0 Hb x (bi_new h (0, 0) 6) cls s t := fun t hW hz ho => ⟨hcls, hr.thrown hW hz ho⟩
    have hgood : ∀ w ∈ Cond.classLink RX9 r.2.1 cls :: Cond.initialized cls :: vx_atS RX9 r.2.2.2 cls bi_nms, vx_ot w = true := fun w hw => by
      rcases List.mem_cons.mp hw with rfl | hw
      · rfl
      · rcases List.mem_cons.mp hw with rfl | hw
        · rfl
        · exact (hoks w hw).2
    have hat : ∀ w ∈ vx_atS RX9 r.2.2.2 cls bi_nms, w.before args s = true := fun w hw => bi_hts hr (hin w hw) (hoks w hw).1
    have hSS : va_S (fun q => B0 ≤ q) s.heap H locs := ⟨by have := hr.1.1; omega, fun q _ h2 => hext q (by omega), hlc⟩
    rcases hd with ⟨d4, d6, d9⟩ | ⟨d4, d7, d10⟩
    · exact bi_throwS (A := fun q => B0 ≤ q) hx hb hlt hown hfit bi_fits.2.2 (bi_hts hr hk rfl) (bi_hts hr hini rfl) hsa hat hgood hU hN hSS (by rw [hml]; exact hl.1) d0 d3 d4 d6 d9 (fun z hz => (hte z hz).elim) hfr (by simp [bi_nms]; omega) (by omega) (by omega) hlocks hXC hlc (by omega) (by omega)
    · exact bi_throwSW (A := fun q => B0 ≤ q) hx hb hlt hown hfit bi_fits.2.2 (bi_hts hr hk rfl) (bi_hts hr hini rfl) hsa hat hgood hU hN hSS (by rw [hml]; exact hl.1) d0 d3 d4 d7 d10 (fun z hz => (hte z hz).elim) hfr (by simp [bi_nms]; omega) (by omega) (by omega) hlocks hXC hlc (by omega) (by omega)
  subst hrx
  rcases hcase with ⟨h1, h2, h3⟩ | ⟨h1, h2, h3⟩
  · exact fin _ 236 240 (by rw [h1]; rfl) bi_fits.1 bi_xk0.1 bi_xk0.2 bi_xw0 bi_xo0 h2 h3
  · exact fin _ 249 253 (by rw [h1]; rfl) bi_fits.2.1 bi_xk1.1 bi_xk1.2 bi_xw1 bi_xo1 h2 h3
end BU
end
section
/-! every run of the interpreter is a run of the machine -/
/-- a call that may throw, with its handlers, as the code has it -/
def bi_okty (M : Nat → Option bi_M) (P : bi_P) (mi : Nat) (own : String) (nL : Nat) (R : Room) (cc : ByteArray) (hh : List (Nat × Nat × Nat × Nat)) (pc k : Nat) (r : bi_R) (bs : List Nat) : Prop :=
  bi_okc M own R (.invokevirtual k) r ∧ decode cc pc = .ok (.invokevirtual k, 3) ∧ bi_pc P mi (bs.getD 0 0) = some (pc + 3) ∧ bs.length ≤ 3 ∧ r.2.2.2 < nL ∧
  (1 < bs.length → ∃ a hs, hh = a :: hs ∧ (a.1 ≤ pc ∧ pc < a.2.1) ∧ a.2.2.2 ≠ 0 ∧ Cond.classLink own a.2.2.2 (bi_en 0) ∈ lw_tbl ∧ decode cc a.2.2.1 = .ok (.astore r.2.2.2, 2) ∧ bi_pc P mi (bs.getD 1 0) = some (a.2.2.1 + 2)) ∧
  (2 < bs.length → ∃ a b hs, hh = a :: b :: hs ∧ a.2.2.2 ≠ 0 ∧ Cond.classLink own a.2.2.2 (bi_en 0) ∈ lw_tbl ∧ (b.1 ≤ pc ∧ pc < b.2.1) ∧ b.2.2.2 ≠ 0 ∧ Cond.classLink own b.2.2.2 (bi_en 1) ∈ lw_tbl ∧ decode cc b.2.2.1 = .ok (.astore r.2.2.2, 2) ∧ bi_pc P mi (bs.getD 2 0) = some (b.2.2.1 + 2))
theorem bi_cast : Cond.castable (bi_en 0) (bi_en 0) ∈ lw_tbl ∧ Cond.castable (bi_en 1) (bi_en 1) ∈ lw_tbl := by decide +kernel
theorem bi_casto (a b : String) : bi_ok (.castable a b) = true := rfl
def bi_mr (q : bi_M) : Room := { frames := q.2.2.2.2.2.1, cells := 0, slots := 0, locals := q.2.2.2.2.2.2.1 }
/-- a method's table as the code has it -/
def bi_okk (M : Nat → Option bi_M) (P : bi_P) (mi : Nat) (q : bi_M) (k : bi_K) : Prop :=
  bi_okr M q.2.2.2.2.1 q.2.2.1 (decide (q.1.name = "<init>")) (bi_mr q) q.2.1 k.1 k.2.1 ∧ bi_okt P mi q.2.1 q.2.2.2.1 (bi_end k.1 k.2.1) k.2.2.1 k.2.2.2 ∧ (k.2.2.1.1 = .athrow → bi_oktx q.2.2.2.2.1 q.2.1 (bi_mr q) (bi_end k.1 k.2.1) k.2.2.1.2) ∧ ∀ i, k.2.2.1.1 = .invokevirtual i → bi_okty M P mi q.2.2.2.2.1 q.2.2.1 (bi_mr q) q.2.1 q.2.2.2.2.2.2.2 (bi_end k.1 k.2.1) i k.2.2.1.2 k.2.2.2
def bi_okm (M : Nat → Option bi_M) (P : bi_P) (mi : Nat) (q : bi_M) : Prop := plainName q.1.cls = true ∧ q.1.cls = q.2.2.2.2.1 ∧ bi_pc P mi 0 = some 0 ∧ ∀ b k, P mi b = some k → bi_okk M P mi q k
/-- runs of n blocks are runs of the machine -/
def bi_Sn (l : Launch) (D : va_G) (B0 : Nat) (Hb : Heap) (M : Nat → Option bi_M) (P : bi_P) (n : Nat) : Prop := ∀ (mi : Nat) (q : bi_M) (as : List bi_V) (h : bi_H) (o : bi_O) (h' : bi_H), M mi = some q → bi_run P n mi 0 (bi_loc as) [] h = some (o, h') → (∀ x ∈ as, bi_w x = 1) → as.length ≤ q.2.2.1 →
  match o with
  | .inl v => bi_Ct l D B0 Hb q as h v h'
  | .inr e => q.2.2.2.2.2.2.2 = [] → bi_Cx l D B0 Hb q as h e h'
theorem bi_Sn_cf {l : Launch} {D : va_G} {B0 : Nat} {Hb : Heap} {M : Nat → Option bi_M} {P : bi_P} {n : Nat} (hS : bi_Sn l D B0 Hb M P n) : bi_cfok l D B0 Hb M (bi_cfn P n) := by
  intro mi as h v h' hc hw q hq hl
  unfold bi_cfn at hc
  split at hc
  · rename_i v0 h0 hr
    cases hc
    exact hS mi q as h _ _ hq hr hw hl
  · cases hc
theorem bi_okc_room {M : Nat → Option bi_M} {own : String} {R R' : Room} {i : Instr} {r : bi_R} (hf : R'.frames = R.frames) (hl : R'.locals = R.locals) (h : bi_okc M own R i r) : bi_okc M own R' i r := by
  unfold bi_okc at h ⊢
  unfold bi_okb at h ⊢
  rw [hf, hl]
  exact h
section BK
variable {p : Program} {l : Launch} {e : Env} {R : Room} {s : State} {m : MethodId} {args : Array Value} {below : List Frame} {meth : Method} {cd : Code} {Q : State → Prop} {D : va_G} {B0 : Nat} {Hb : Heap} {nL n0 m0 : Nat} {cc : ByteArray} {pc : Nat} {own : String} {L L' : bi_L} {st st' : List bi_V} {h h' : bi_H} {ini : Bool} {r : bi_R} {M : Nat → Option bi_M} {P : bi_P}
/-- a handler: the exception goes into a local, of which no more is said -/
theorem bi_handler {H : Heap} {locs : List Loc} {cells slots k hp qa : Nat} {ls : Array Slot} (hx : p.tables.exec = Jvm.exec) (hb : cd.code = cc) (hk : k < nL) (hdg : decode cc hp = .ok (.astore k, 2)) (hr : bi_rp D B0 Hb h s H) (hl : lv_has ls nL (L.map bi_lq)) (hw : ∀ q ∈ L, bi_w q.2 = 1) (hlc : ∀ q ∈ locs, B0 ≤ q.base) (hc : n0 + cells = bi_nc h) (hs : m0 + slots = bi_ns h) (kk : bi_At p l e R s m args below meth cd Q D B0 Hb nL n0 m0 (hp + 2) (L.filter (fun q => !(q.1 == k))) [] h) : W p l e R s m args below meth cd H locs cells slots Q (F0 m hp ls [.ref qa]) := by
  refine lv_astore hx hb hdg hl hk rfl (fun ls' h9 => kk H locs ls' cells slots hr ?_ (fun q hq => hw q (List.mem_filter.mp hq).1) hlc hc hs)
  have h8 := bi_stl (v := .inr (.inl (qa + 1))) hw h9
  exact ⟨h8.1, h8.2.1, fun q hq => h8.2.2 q (by
    obtain ⟨x, hx1, rfl⟩ := List.mem_map.mp hq
    exact List.mem_map.mpr ⟨x, List.mem_cons_of_mem _ hx1, rfl⟩)⟩
theorem bi_st_try {N mi k : Nat} {bs : List Nat} {hh : List (Nat × Nat × Nat × Nat)} {w : Nat × bi_L × List bi_V × bi_H} (hx : p.tables.exec = Jvm.exec) (hb : cd.code = cc) (hml : cd.maxLocals = nL) (hown : s.vm.findClass own = some m.cls) (hte : cd.exceptionTable.toList = tableOf hh) (hS : bi_Sn l D B0 Hb M P N) (hok : bi_okty M P mi own nL R cc hh pc k r bs) (he : bi_t (fun m as h => bi_run P N m 0 (bi_loc as) [] h) (.invokevirtual k, r) bs L st h = some (.inr w)) (hRc : bi_nc w.2.2.2 ≤ n0 + R.cells) (hRs : bi_ns w.2.2.2 ≤ m0 + R.slots) (kk : ∀ pc', bi_pc P mi w.1 = some pc' → bi_At p l e R s m args below meth cd Q D B0 Hb nL n0 m0 pc' w.2.1 w.2.2.1 w.2.2.2) : bi_At p l e R s m args below meth cd Q D B0 Hb nL n0 m0 pc L st h := by
  intro H locs ls cells slots hr hl hw hlc hc hs
  obtain ⟨hokc, hdg, hp3, hb3, hkn, hh1, hh2⟩ := hok
  obtain ⟨q, cq, hM, hqn, hq0, hkb, hcq, hlk, hins, hsel⟩ := hokc
  unfold bi_t at he
  dsimp only at he
  split at he
  · rename_i a rest hdrop
    split at he
    · rename_i hn
      obtain ⟨hn1, hn2, hn3⟩ := hn
      obtain ⟨b, rfl⟩ := bi_kz hr (a := a) (by omega)
      have hlen := bi_take hdrop
      have hw1 := bi_w1 (st.take r.2.1) (by rw [hlen]; exact hn3)
      have hwa : ∀ x ∈ (Sum.inr (Sum.inl (b + 1)) : bi_V) :: (st.take r.2.1).reverse, bi_w x = 1 := fun x hx => (List.mem_cons.mp hx).elim (fun z => by rw [z]; rfl) (fun z => hw1 x (List.mem_reverse.mp z))
      have hla : ((Sum.inr (Sum.inl (b + 1)) : bi_V) :: (st.take r.2.1).reverse).length ≤ q.2.2.1 := by rw [List.length_cons, List.length_reverse, hlen]; exact hqn
      have hpre : PreV s H cq.1 b (bi_Pc D B0 Hb (.inr (.inl (b + 1)) :: (st.take r.2.1).reverse) h) ((st.take r.2.1).reverse.map bi_tv) := ⟨bi_blind, bi_recv hr hn1 hcq, fun U hU hW => ⟨rfl, by show bi_rp D B0 Hb h U U.heap; rw [hU]; exact hr.moved hW⟩⟩
      split at he
      · rename_i v h1 hcall
        cases he
        obtain ⟨g1, g2, hMet⟩ := hS _ q _ _ _ _ hM hcall hwa hla
        dsimp only at hRc hRs kk
        have hrun := va_runV (args := args) (R := R) (H := H) (locs := locs) (cells := cells) (slots := slots) (below := below) (meth := meth) (e := e) (C := cq.1) (b := b) (g := F0 m pc ls (st.map bi_tv)) (As := (st.take r.2.1).reverse.map bi_tv) (rest := rest.map bi_tv) (Ts := []) ⟨hx, hb, hml, hown, fun w hw => by cases hw⟩ hMet ⟨bi_callB hr hq0 hkb hlk, bi_hts hr hins rfl, bi_hts hr hsel rfl⟩ hpre rfl (by rw [List.length_map, List.length_reverse, hlen]) hl.1 (bi_stk hdrop) (bi_room hn2) hdg ⟨by omega, by omega⟩
        refine bi_after hr hlc hrun (fun H' locs' hr' hlc' => ?_)
        rw [← bi_tolist]
        exact kk _ hp3 H' locs' ls _ _ hr' hl hw hlc' (by omega) (by omega)
      · rename_i x h1 hcall
        split at he
        · rename_i hxb
          cases he
          obtain ⟨g1, g2, hMet⟩ := hS _ q _ _ _ _ hM hcall hwa hla hq0
          dsimp only at hRc hRs kk
          have hrun := vx_runV (args := args) (R := R) (H := H) (locs := locs) (cells := cells) (slots := slots) (below := below) (meth := meth) (e := e) (C := cq.1) (b := b) (g := F0 m pc ls (st.map bi_tv)) (As := (st.take r.2.1).reverse.map bi_tv) (rest := rest.map bi_tv) (Ts := []) ⟨hx, hb, hml, hown, fun w hw => by cases hw⟩ hMet ⟨bi_callB hr hq0 hkb hlk, bi_hts hr hins rfl, bi_hts hr hsel rfl⟩ hpre rfl (by rw [List.length_map, List.length_reverse, hlen]) hl.1 (bi_stk hdrop) (bi_room hn2) hdg ⟨by omega, by omega⟩
          intro T hT X
          rcases hrun T hT X with ⟨v, st₀, t, T', LL, h0, X', hL, e1, e2, hno, -⟩ | ⟨qa, st₀, t, T', LL, E, ce, h0, X', hL, e1, e2, ⟨hE, hq⟩, hce, hcv, hcl, hsteps⟩
          · exact hno.elim
          · have hal : t.vm.Alike s.vm := by rw [← e2]; exact X'.warmed.alike.symm
            have hrp : bi_rp D B0 Hb h1 s T'.heap := by rw [e1]; exact hq.to hal hr.2.2.1
            have hlc' : ∀ q ∈ locs ++ LL, B0 ≤ q.base := fun q hq => (List.mem_append.mp hq).elim (hlc q) (hL q)
            subst hE
            have hx2 : x = 0 ∨ x = 1 := by omega
            have fin : vx_W p l e R s m args below meth cd T'.heap (locs ++ LL) (cells + (bi_nc h1 - bi_nc h)) (slots + (bi_ns h1 - bi_ns h)) Q (F0 m pc ls (rest.map bi_tv)) qa := by
              rcases hx2 with rfl | rfl
              · obtain ⟨a0, hs0, rfl, hcov, hne, hlk0, hda, hpa⟩ := hh1 (by omega)
                have hcv0 : covers (⟨a0.1, a0.2.1, a0.2.2.1, a0.2.2.2⟩ : ExceptionTableEntry) pc = true := by simp [covers, hcov.1, hcov.2]
                exact vx_catch (name := bi_en 0) hown [] ⟨a0.1, a0.2.1, a0.2.2.1, a0.2.2.2⟩ (tableOf hs0) hte (fun z hz => by cases hz) hcv0 hne (bi_hts hr hlk0 rfl) (bi_hts hr bi_cast.1 (bi_casto _ _)) (by rw [e1]; exact hce) hcv hcl (bi_handler hx hb hkn hda hrp hl hw hlc' (by omega) (by omega) (kk _ hpa))
              · obtain ⟨a0, b0, hs0, rfl, hne0, hlk0, hcov, hne, hlk1, hda, hpa⟩ := hh2 (by omega)
                have hcv0 : covers (⟨b0.1, b0.2.1, b0.2.2.1, b0.2.2.2⟩ : ExceptionTableEntry) pc = true := by simp [covers, hcov.1, hcov.2]
                exact vx_catch (name := bi_en 1) hown [⟨a0.1, a0.2.1, a0.2.2.1, a0.2.2.2⟩] ⟨b0.1, b0.2.1, b0.2.2.1, b0.2.2.2⟩ (tableOf hs0) hte (fun z hz => by
                  rw [List.mem_singleton.mp hz]
                  exact Or.inr ⟨hne0, _, bi_hts hr hlk0 rfl, hr.2.2.1.2.2.2.2⟩) hcv0 hne (bi_hts hr hlk1 rfl) (bi_hts hr bi_cast.2 (bi_casto _ _)) (by rw [e1]; exact hce) hcv hcl (bi_handler hx hb hkn hda hrp hl hw hlc' (by omega) (by omega) (kk _ hpa))
            obtain ⟨t2, a1, b1⟩ := fin T' rfl X'
            exact ⟨t2, hsteps.trans a1, b1⟩
        · cases he
      · cases he
    · cases he
  · cases he
end BK
end
section
/-! every run of the interpreter is a run of the machine: blocks, then methods -/
section BF
variable {p : Program} {l : Launch} {e : Env} {R : Room} {s : State} {m : MethodId} {args : Array Value} {below : List Frame} {meth : Method} {cd : Code} {Q : State → Prop} {D : va_G} {B0 : Nat} {Hb : Heap} {nL n0 m0 : Nat} {cc : ByteArray} {pc : Nat} {own : String} {L L' : bi_L} {st st' : List bi_V} {h h' : bi_H} {ini : Bool} {r : bi_R} {M : Nat → Option bi_M} {P : bi_P}
theorem bi_sblk {N mi : Nat} {q : bi_M} {o : bi_O} {hf h0 : bi_H} (hk : ∀ b k, P mi b = some k → bi_okk M P mi q k) (hS : ∀ k, k < N → bi_Sn l D B0 Hb M P k) (hx : p.tables.exec = Jvm.exec) (hb : cd.code = q.2.1) (hml : cd.maxLocals = q.2.2.1) (hown : s.vm.findClass q.2.2.2.2.1 = some m.cls) (hini : decide (q.1.name = "<init>") = true → meth.name = "<init>") (hRf : R.frames = q.2.2.2.2.2.1) (hRl : R.locals = q.2.2.2.2.2.2.1) (hte : (∀ i b k, P mi b = some k → k.2.2.1.1 ≠ .invokevirtual i) ∨ cd.exceptionTable.toList = tableOf q.2.2.2.2.2.2.2) (hRc : bi_nc hf ≤ n0 + R.cells) (hRs : bi_ns hf ≤ m0 + R.slots)
    (hend : ∀ (n b : Nat) (k : bi_K) (L : bi_L) (st : List bi_V) (h : bi_H), P mi b = some k → bi_t (fun m as h => bi_run P n m 0 (bi_loc as) [] h) k.2.2.1 k.2.2.2 L st h = some (.inl (o, hf)) → bi_up h0 h → bi_At p l e R s m args below meth cd Q D B0 Hb q.2.2.1 n0 m0 (bi_end k.1 k.2.1) L st h) :
    ∀ n, n ≤ N → ∀ (b : Nat) (L : bi_L) (st : List bi_V) (h : bi_H) (pc : Nat), bi_run P n mi b L st h = some (o, hf) → bi_pc P mi b = some pc → bi_up h0 h → bi_At p l e R s m args below meth cd Q D B0 Hb q.2.2.1 n0 m0 pc L st h
  | 0, _, _, _, _, _, _, he, _, _ => by cases he
  | n + 1, hn, b, L, st, h, pc, he, hpc, hu => by
    unfold bi_run at he
    split at he
    · cases he
    · rename_i k hkb
      obtain ⟨o1, o2, o3, o4⟩ := hk b k hkb
      have epc : k.1 = pc := by
        unfold bi_pc at hpc
        rw [hkb] at hpc
        exact Option.some.inj hpc
      subst epc
      split at he
      · cases he
      · rename_i z hz
        have hz : bi_xs (bi_cfn P n) k.2.1 L st h = some z := hz
        have u1 : bi_up h z.2.2 := bi_up_xs (bi_up_cfn P n) _ hz
        have u2 := bi_up_t (t := k.2.2.1) (bs := k.2.2.2) (L := z.1) (st := z.2.1) (h := z.2.2) (cf := fun m as h => bi_run P n m 0 (bi_loc as) [] h) (fun mi as h o h' hc => bi_up_run P n _ _ _ _ _ _ _ hc)
        have hcf := bi_Sn_cf (hS n (by omega))
        have hokr := bi_okr_room (R' := R) (R := bi_mr q) hRf hRl _ _ o1
        have step : bi_up z.2.2 hf → bi_At p l e R s m args below meth cd Q D B0 Hb q.2.2.1 n0 m0 (bi_end k.1 k.2.1) z.1 z.2.1 z.2.2 → bi_At p l e R s m args below meth cd Q D B0 Hb q.2.2.1 n0 m0 k.1 L st h := fun u kk => bi_sxs hx hb hml hown hini hcf (bi_up_cfn P n) k.2.1 k.1 hokr hz (Nat.le_trans u.1 hRc) (Nat.le_trans u.2.1 hRs) kk
        split at he
        · cases he
        · rename_i o9 ht
          cases he
          exact step (u2.1 _ _ ht) (hend n b k z.1 z.2.1 z.2.2 hkb ht (hu.tr u1))
        · rename_i w ht
          have uw : bi_up z.2.2 w.2.2.2 := u2.2 _ _ _ _ ht
          have uf : bi_up w.2.2.2 hf := bi_up_run P n _ _ _ _ _ _ _ he
          refine step (uw.tr uf) ?_
          have ih := fun pc' (hp' : bi_pc P mi w.1 = some pc') => bi_sblk hk hS hx hb hml hown hini hRf hRl hte hRc hRs hend n (by omega) w.1 w.2.1 w.2.2.1 w.2.2.2 pc' he hp' ((hu.tr u1).tr uw)
          by_cases hiv : ∃ i, k.2.2.1.1 = .invokevirtual i
          · obtain ⟨i, hi⟩ := hiv
            have hte' : cd.exceptionTable.toList = tableOf q.2.2.2.2.2.2.2 := hte.resolve_left (fun z => z i b k hkb hi)
            have hty := o4 i hi
            have et : k.2.2.1 = (.invokevirtual i, k.2.2.1.2) := Prod.ext hi rfl
            rw [et] at ht
            have hty' : bi_okty M P mi q.2.2.2.2.1 q.2.2.1 R q.2.1 q.2.2.2.2.2.2.2 (bi_end k.1 k.2.1) i k.2.2.1.2 k.2.2.2 := ⟨bi_okc_room hRf hRl hty.1, hty.2⟩
            exact bi_st_try hx hb hml hown hte' (hS n (by omega)) hty' ht (Nat.le_trans uf.1 hRc) (Nat.le_trans uf.2.1 hRs) ih
          · exact bi_st_next hx hb o2 (fun i hi => hiv ⟨i, hi⟩) ht ih
end BF
theorem bi_loc_args : ∀ (as : List bi_V) (i : Nat), (∀ x ∈ as, bi_w x = 1) → lv_args i (as.map bi_tv) = ((as.zipIdx i).map (fun q => (q.2, q.1))).map bi_lq
  | [], _, _ => rfl
  | a :: as, i, hw => by
    have h1 : (bi_tv a).category = 1 := by rw [bi_cat]; exact hw a List.mem_cons_self
    rw [List.map_cons, lv_args, if_neg (by omega), bi_loc_args as (i + 1) (fun x hx => hw x (List.mem_cons_of_mem _ hx)), List.zipIdx_cons, List.map_cons, List.map_cons]
    rfl
theorem bi_lgsl : ∀ (as : List bi_V), (∀ x ∈ as, bi_w x = 1) → (lg_sl (as.map bi_tv)).length = as.length
  | [], _ => rfl
  | a :: as, hw => by
    have h1 : ¬ (bi_tv a).category = 2 := by rw [bi_cat, hw a List.mem_cons_self]; decide
    have ih := bi_lgsl as (fun x hx => hw x (List.mem_cons_of_mem _ hx))
    unfold lg_sl at ih ⊢
    rw [List.map_cons, List.flatMap_cons, if_neg h1, List.length_append, ih, List.length_cons]
    simp
    omega
theorem bi_locw {as : List bi_V} (hw : ∀ x ∈ as, bi_w x = 1) : ∀ q ∈ bi_loc as, bi_w q.2 = 1 := by
  intro q hq
  obtain ⟨x, hx, rfl⟩ := List.mem_map.mp hq
  exact hw x.1 (List.fst_mem_of_mem_zipIdx hx)
/-- a method's entry -/
theorem bi_entry {p : Program} {l : Launch} {e : Env} {R : Room} {s : State} {m : MethodId} {below : List Frame} {meth : Method} {cd : Code} {Q : State → Prop} {D : va_G} {B0 : Nat} {Hb : Heap} {nL : Nat} {as : List bi_V} {h : bi_H} (hw : ∀ x ∈ as, bi_w x = 1) (hl : as.length ≤ nL) (hr : bi_rp D B0 Hb h s s.heap) (kk : bi_At p l e R s m (as.map bi_tv).toArray below meth cd Q D B0 Hb nL (bi_nc h) (bi_ns h) 0 (bi_loc as) [] h) : W p l e R s m (as.map bi_tv).toArray below meth cd s.heap [] 0 0 Q (entryFrame m (as.map bi_tv).toArray nL) := by
  rw [lg_entry_eq]
  refine kk s.heap [] _ 0 0 hr ?_ (bi_locw hw) (fun q hq => by cases hq) rfl rfl
  have h1 := lv_entry (as.map bi_tv) (n := nL) (by rw [bi_lgsl as hw]; exact hl)
  rw [bi_loc_args as 0 hw] at h1
  exact h1
set_option maxHeartbeats 1000000 in
/-- all runs -/
theorem bi_sound {l : Launch} {D : va_G} {B0 : Nat} {Hb : Heap} {M : Nat → Option bi_M} {P : bi_P} (hlt : l.stackTraces = false) (hok : ∀ mi q, M mi = some q → bi_okm M P mi q) : ∀ N, bi_Sn l D B0 Hb M P N := by
  intro N
  induction N using Nat.strongRecOn with
  | ind N ih =>
    intro mi q as h o h' hM he hw hl
    obtain ⟨m1, m2, m3, m4⟩ := hok mi q hM
    have up := bi_up_run P N mi 0 (bi_loc as) [] h o h' he
    cases o with
    | inl v =>
      refine ⟨up.1, up.2.1, ?_⟩
      have body : ∀ (p : Program) (e : Env) (s : State) (m : MethodId) (args : Array Value) (below : List Frame) (meth : Method) (c : Code) (s₁ : State), BodyLoose p l q.1 (headSpec [bi_cw q] (bi_rm q h h')) q.2.1 q.2.2.1 q.2.2.2.1 e s m args below meth c s₁ → c.maxLocals = q.2.2.1 → ((∀ i b k, P mi b = some k → k.2.2.1.1 ≠ .invokevirtual i) ∨ c.exceptionTable.toList = tableOf q.2.2.2.2.2.2.2) → bi_Pc D B0 Hb as h args s →
          W p l e (headSpec [bi_cw q] (bi_rm q h h')).room s m args below meth c s.heap [] 0 0 (MQ below (bi_Qc D B0 Hb v h') args s (bi_nc h' - bi_nc h) (bi_ns h' - bi_ns h) (fun x => B0 ≤ x)) (entryFrame m args q.2.2.1) := by
        intro p e s m args below meth c s₁ B hml hte hv
        obtain ⟨rfl, hr⟩ := hv
        have hown : s.vm.findClass q.1.cls = some m.cls := findClass_of_methodNamed B.named
        refine bi_entry hw hl hr ?_
        refine bi_sblk (q := q) (o := .inl v) (hf := h') (h0 := h) m4 (fun k hk => ih k hk) B.exec B.bytes hml (by rw [← m2]; exact hown) (fun z => ?_) rfl rfl hte ?_ ?_ ?_ N (Nat.le_refl N) 0 _ _ h 0 he m3 bi_up_rf
        · have z : q.1.name = "<init>" := of_decide_eq_true z
          have := (name_of_methodNamed B.named B.method).1
          rw [this]
          exact z
        · show bi_nc h' ≤ bi_nc h + (bi_nc h' - bi_nc h)
          have := up.1
          omega
        · show bi_ns h' ≤ bi_ns h + (bi_ns h' - bi_ns h)
          have := up.2.1
          omega
        · intro n b k L st h1 hkb ht hu
          obtain ⟨-, o2, -, -⟩ := m4 b k hkb
          exact bi_st_end B.exec B.bytes B.returns B.notSynchronized o2 ht up.1 up.2.1
      by_cases h0 : q.2.2.2.2.2.2.2 = []
      · refine Met.ofW (cc := q.2.1) (maxL := q.2.2.1) (ret := q.2.2.2.1) m1 (by rw [bi_cw0 h0]) (fun p e s m args below meth c s₁ B hml hv => body p e s m args below meth c s₁ B hml (Or.inr ?_) hv)
        have hcode : (Cond.code q.1 q.2.1 q.2.2.1 q.2.2.2.1).before args s = true := by
          have := atoms_spec (ws := [bi_cw q]) B.pre (bi_cw q) (List.mem_singleton.mpr rfl)
          rw [bi_cw0 h0] at this
          exact this
        obtain ⟨meth9, c9, h1, h2, -, -, -, -, h7, -⟩ := Cond.code_spec B.named hcode
        cases Option.some.inj (h1.symm.trans B.method)
        cases Option.some.inj (h2.symm.trans (Stand.of_body B).code)
        rw [Array.isEmpty_iff.mp h7, h0]
        rfl
      · refine va_MetW (cc := q.2.1) (maxL := q.2.2.1) (ret := q.2.2.2.1) (hh := q.2.2.2.2.2.2.2) m1 (by rw [bi_cw1 h0]) (fun p e s m args below meth c s₁ B hml hv => body p e s m args below meth c s₁ B hml (Or.inr ?_) hv)
        have hcode : (Cond.codeWith q.1 q.2.1 q.2.2.1 q.2.2.2.1 q.2.2.2.2.2.2.2).before args s = true := by
          have := atoms_spec (ws := [bi_cw q]) B.pre (bi_cw q) (List.mem_singleton.mpr rfl)
          rw [bi_cw1 h0] at this
          exact this
        exact vx_table (x := q.1) B hcode
    | inr x =>
      intro h0
      refine ⟨up.1, up.2.1, ?_⟩
      refine vx_ofW (cc := q.2.1) (maxL := q.2.2.1) (ret := q.2.2.2.1) m1 (by rw [bi_cw0 h0]) (fun p e s m args below meth c s₁ B hml hte hv => ?_)
      obtain ⟨rfl, hr⟩ := hv
      have hown : s.vm.findClass q.1.cls = some m.cls := findClass_of_methodNamed B.named
      refine bi_entry hw hl hr ?_
      refine bi_sblk (q := q) (o := .inr x) (hf := h') (h0 := h) m4 (fun k hk => ih k hk) B.exec B.bytes hml (by rw [← m2]; exact hown) (fun z => ?_) rfl rfl (Or.inr ?_) ?_ ?_ ?_ N (Nat.le_refl N) 0 _ _ h 0 he m3 bi_up_rf
      · have z : q.1.name = "<init>" := of_decide_eq_true z
        have := (name_of_methodNamed B.named B.method).1
        rw [this]
        exact z
      · rw [h0]
        cases hc : c.exceptionTable.toList with
        | nil => rfl
        | cons a b => exact (hte a (by rw [hc]; exact List.mem_cons_self)).elim
      · show bi_nc h' ≤ bi_nc h + (bi_nc h' - bi_nc h)
        have := up.1
        omega
      · show bi_ns h' ≤ bi_ns h + (bi_ns h' - bi_ns h)
        have := up.2.1
        omega
      · intro n b k L st h1 hkb ht hu
        obtain ⟨-, -, o3, -⟩ := m4 b k hkb
        have hat : k.2.2.1.1 = .athrow ∧ st = [] ∧ k.2.2.1.2.1 = x ∧ h' = bi_new h1 (0, 0) 6 := by
          unfold bi_t at ht
          split at ht
          all_goals first | (rename_i hi; split at ht <;> first | (cases ht; exact ⟨hi, rfl, rfl, rfl⟩) | (repeat' (split at ht)) <;> cases ht) | cases ht
        obtain ⟨a1, a2, a3, a4⟩ := hat
        subst a4
        have hok9 : bi_oktx q.2.2.2.2.1 q.2.1 (headSpec [bi_cw q] (bi_rm q h (bi_new h1 (0, 0) 6))).room (bi_end k.1 k.2.1) k.2.2.1.2 := o3 a1
        have e1 : bi_nc (bi_new h1 (0, 0) 6) = bi_nc h1 + 1 := rfl
        have e2 : bi_ns (bi_new h1 (0, 0) 6) = bi_ns h1 + 6 := rfl
        have hsx : s.heap.size + 1 ≤ bi_nx h1 := by rw [hr.1.1]; exact hu.2.2
        have hu1 := hu.1
        have hu2 := hu.2.1
        refine bi_st_throw B.exec B.bytes hml hlt (by rw [← m2]; exact hown) B.notSynchronized hte hr.1.2.2 hsx hok9 a3 hu.1 hu.2.1 ?_ ?_ a2
        · show bi_nc h1 + 1 ≤ bi_nc h + (bi_nc (bi_new h1 (0, 0) 6) - bi_nc h)
          omega
        · show bi_ns h1 + 6 ≤ bi_ns h + (bi_ns (bi_new h1 (0, 0) 6) - bi_ns h)
          omega
end
section
/-! the tables of the methods are checked by a function; what it says is what the runs want -/
/-- a word by its place: the list's number and the place in it -/
def bi_tw (p : Nat) : Option Cond := match p / 1000 with
  | 0 => (k2_sels lw_privs)[p % 1000]?
  | 1 => tables_1_1[p % 1000]?
  | 2 => tables_1_2[p % 1000]?
  | 3 => tables_1_3[p % 1000]?
  | 4 => tables_1_4[p % 1000]?
  | 5 => tables_1_5[p % 1000]?
  | 6 => tables_1_6[p % 1000]?
  | 7 => tables_1_7[p % 1000]?
  | _ => none
theorem bi_tw_in {p : Nat} {w : Cond} (h : bi_tw p = some w) : w ∈ lw_tbl := by
  show w ∈ k2_sels lw_privs ++ (tables_1_1 ++ (tables_1_2 ++ (tables_1_3 ++ (tables_1_4 ++ (tables_1_5 ++ (tables_1_6 ++ tables_1_7))))))
  simp only [List.mem_append]
  unfold bi_tw at h
  split at h
  · exact Or.inl (List.mem_of_getElem? h)
  · exact Or.inr (Or.inl (List.mem_of_getElem? h))
  · exact Or.inr (Or.inr (Or.inl (List.mem_of_getElem? h)))
  · exact Or.inr (Or.inr (Or.inr (Or.inl (List.mem_of_getElem? h))))
  · exact Or.inr (Or.inr (Or.inr (Or.inr (Or.inl (List.mem_of_getElem? h)))))
  · exact Or.inr (Or.inr (Or.inr (Or.inr (Or.inr (Or.inl (List.mem_of_getElem? h))))))
  · exact Or.inr (Or.inr (Or.inr (Or.inr (Or.inr (Or.inr (Or.inl (List.mem_of_getElem? h)))))))
  · exact Or.inr (Or.inr (Or.inr (Or.inr (Or.inr (Or.inr (Or.inr (List.mem_of_getElem? h)))))))
  · cases h
def bi_is (ps : List Nat) (i : Nat) (w : Cond) : Bool := decide (bi_tw (ps.getD i 9999) = some w)
theorem bi_is_in {ps : List Nat} {i : Nat} {w : Cond} (h : bi_is ps i w = true) : w ∈ lw_tbl := bi_tw_in (of_decide_eq_true h)
/-- a field's pool entry -/
def bi_flB (own : String) (k : Nat) (q : vw_C) (f : Nat) (ps : List Nat) : Bool := match bi_tw (ps.getD 0 9999) with
  | some (.fieldLinkNest a b c d e _) => decide (a = own ∧ b = k ∧ c = (q.2.1 f).1 ∧ d = (q.2.1 f).2.1 ∧ e = (q.2.1 f).2.2.1)
  | some w => decide (w = .fieldLink own k (q.2.1 f).1 (q.2.1 f).2.1 (q.2.1 f).2.2.1)
  | none => false
theorem bi_flB_ok {own : String} {k : Nat} {q : vw_C} {f : Nat} {ps : List Nat} (h : bi_flB own k q f ps = true) : bi_fl own k q f := by
  unfold bi_flB at h
  split at h
  · rename_i a b c d e host hw
    obtain ⟨rfl, rfl, rfl, rfl, rfl⟩ := of_decide_eq_true h
    exact Or.inr ⟨host, bi_tw_in hw⟩
  · rename_i w hw _
    have h := of_decide_eq_true h
    subst h
    exact Or.inl (bi_tw_in (by assumption))
  · cases h
def bi_okiB (own : String) (nL : Nat) (ini : Bool) (i : Instr) (r : bi_R) (ps : List Nat) : Bool := match i with
  | .bipush n => decide ((Int8.ofInt n).toInt32 = Int32.ofInt n)
  | .sipush n => decide ((Int16.ofInt n).toInt32 = Int32.ofInt n)
  | .ldc k => bi_is ps 0 (.constant own k (Int32.ofNat r.1))
  | .ldc_w k => bi_is ps 0 (.constant own k (Int32.ofNat r.1))
  | .istore_n k => decide (k.val < nL)
  | .istore k => decide (k < nL)
  | .astore_n k => decide (k.val < nL)
  | .astore k => decide (k < nL)
  | .iinc k _ => decide (k < nL)
  | .getfield k => (match vwCl[r.1]? with
    | some q => decide (r.2.1 < q.2.2) && (bi_flB own k q r.2.1 ps && decide (r.2.2.1 = bi_ft r.1 r.2.1))
    | none => false)
  | .putfield k => (match vwCl[r.1]? with
    | some q => decide (r.2.1 < q.2.2) && (bi_flB own k q r.2.1 ps && (decide (r.2.2.1 = bi_ft r.1 r.2.1) && (!(q.2.1 r.2.1).2.2.2 || (decide ((q.2.1 r.2.1).1 = own) && (ini && bi_is ps 0 (.fieldLink own k (q.2.1 r.2.1).1 (q.2.1 r.2.1).2.1 (q.2.1 r.2.1).2.2.1))))))
    | none => false)
  | .newarray t => bi_is ps 0 (.arrayClass (newarray.typeOf t))
  | .anewarray k => (match vwCl[r.1]? with
    | some q => bi_is ps 0 (.classLink own k q.1) && bi_is ps 1 (.arrayOver (.object q.1))
    | none => false)
  | .new k => (match vwCl[r.1]? with
    | some q => decide (r.2.1 = q.2.2) && (bi_is ps 0 (.classLink own k q.1) && (bi_is ps 1 (.instantiable q.1 q.2.2) && bi_is ps 2 (.initialized q.1)))
    | none => false)
  | .multianewarray k d => decide (d = 2) && (bi_is ps 0 (.classLink own k "[[I") && (bi_is ps 1 (.arrayOver (.array .int)) && bi_is ps 2 (.arrayClass .int)))
  | _ => true
theorem bi_okiB_ok {own : String} {nL : Nat} {ini : Bool} {i : Instr} {r : bi_R} {ps : List Nat} (h : bi_okiB own nL ini i r ps = true) : bi_oki own nL ini i r := by
  cases i with
  | bipush n =>
    have z : (Int8.ofInt n).toInt32 = Int32.ofInt n := of_decide_eq_true (show decide ((Int8.ofInt n).toInt32 = Int32.ofInt n) = true from h)
    exact z
  | sipush n =>
    have z : (Int16.ofInt n).toInt32 = Int32.ofInt n := of_decide_eq_true (show decide ((Int16.ofInt n).toInt32 = Int32.ofInt n) = true from h)
    exact z
  | ldc k => exact bi_is_in h
  | ldc_w k => exact bi_is_in h
  | istore_n k =>
    have z : k.val < nL := of_decide_eq_true (show decide (k.val < nL) = true from h)
    exact z
  | istore k =>
    have z : k < nL := of_decide_eq_true (show decide (k < nL) = true from h)
    exact z
  | astore_n k =>
    have z : k.val < nL := of_decide_eq_true (show decide (k.val < nL) = true from h)
    exact z
  | astore k =>
    have z : k < nL := of_decide_eq_true (show decide (k < nL) = true from h)
    exact z
  | iinc k v =>
    have z : k < nL := of_decide_eq_true (show decide (k < nL) = true from h)
    exact z
  | getfield k =>
    unfold bi_okiB at h
    dsimp only at h
    split at h
    · rename_i q hq
      simp only [Bool.and_eq_true] at h
      exact ⟨q, hq, of_decide_eq_true h.1, bi_flB_ok h.2.1, of_decide_eq_true h.2.2⟩
    · cases h
  | putfield k =>
    unfold bi_okiB at h
    dsimp only at h
    split at h
    · rename_i q hq
      simp only [Bool.and_eq_true, Bool.or_eq_true, Bool.not_eq_true'] at h
      refine ⟨q, hq, of_decide_eq_true h.1, bi_flB_ok h.2.1, of_decide_eq_true h.2.2.1, ?_⟩
      rcases h.2.2.2 with z | z
      · exact Or.inl z
      · exact Or.inr ⟨of_decide_eq_true z.1, z.2.1, bi_is_in z.2.2⟩
    · cases h
  | newarray t => exact bi_is_in h
  | anewarray k =>
    unfold bi_okiB at h
    dsimp only at h
    split at h
    · rename_i q hq
      simp only [Bool.and_eq_true] at h
      exact ⟨q, hq, bi_is_in h.1, bi_is_in h.2⟩
    · cases h
  | new k =>
    unfold bi_okiB at h
    dsimp only at h
    split at h
    · rename_i q hq
      simp only [Bool.and_eq_true] at h
      exact ⟨q, hq, of_decide_eq_true h.1, bi_is_in h.2.1, bi_is_in h.2.2.1, bi_is_in h.2.2.2⟩
    · cases h
  | multianewarray k d =>
    unfold bi_okiB at h
    dsimp only at h
    simp only [Bool.and_eq_true] at h
    exact ⟨of_decide_eq_true h.1, bi_is_in h.2.1, bi_is_in h.2.2.1, bi_is_in h.2.2.2⟩
  | _ => exact trivial
def bi_okbB (R : Room) (q : bi_M) (n : Nat) (ps : List Nat) : Bool := bi_is ps 0 (bi_cw q) && (bi_is ps 1 (.initialized q.1.cls) && (decide (q.1.cls ≠ "java/lang/invoke/MethodHandle" ∧ q.1.cls ≠ "java/lang/invoke/VarHandle") && (decide ((parseMethodDescriptor q.1.desc).map (fun d => d.parameters.length) = some n) && (decide (q.2.2.2.2.2.1 + 1 ≤ R.frames) && decide (8 + (q.2.2.1 + 11) + q.2.2.2.2.2.2.1 ≤ R.locals)))))
theorem bi_okbB_ok {R : Room} {q : bi_M} {n : Nat} {ps : List Nat} (h : bi_okbB R q n ps = true) : bi_okb R q n := by
  unfold bi_okbB at h
  simp only [Bool.and_eq_true] at h
  exact ⟨bi_is_in h.1, bi_is_in h.2.1, of_decide_eq_true h.2.2.1, of_decide_eq_true h.2.2.2.1, of_decide_eq_true h.2.2.2.2.1, of_decide_eq_true h.2.2.2.2.2⟩
def bi_okcB (M : Nat → Option bi_M) (own : String) (R : Room) (i : Instr) (r : bi_R) (ps : List Nat) : Bool := match i with
  | .invokestatic k => (match M r.1 with
    | some q => decide (r.2.1 ≤ q.2.2.1) && (bi_okbB R q r.2.1 ps && (bi_is ps 2 (.methodLink own k q.1) && bi_is ps 3 (.static q.1)))
    | none => false)
  | .invokevirtual k => (match M r.1, vwCl[r.2.2.1]? with
    | some q, some cq => decide (r.2.1 + 1 ≤ q.2.2.1) && (decide (q.2.2.2.2.2.2.2 = []) && (bi_okbB R q r.2.1 ps && (bi_is ps 2 (.methodLink own k q.1) && (bi_is ps 3 (.instanceMethod q.1) && bi_is ps 4 (.selects cq.1 q.1 q.1)))))
    | _, _ => false)
  | .invokespecial k => if r.1 = 9999 then bi_is ps 0 (.methodLink own k objectInit) && (bi_is ps 1 (.instanceMethod objectInit) && (bi_is ps 2 (.code objectInit ⟨#[0xb1]⟩ 1 none) && (decide (1 ≤ R.frames) && decide (20 ≤ R.locals))))
    else (match M r.1, vwCl[r.2.2.1]? with
    | some q, some _ => decide (r.2.1 + 1 ≤ q.2.2.1) && (decide (q.2.2.2.2.2.2.2 = []) && (bi_okbB R q r.2.1 ps && (decide (q.1.name = "<init>") && (decide (q.2.2.2.1 = none) && (bi_is ps 3 (.instanceMethod q.1) && (match bi_tw (ps.getD 2 9999) with
      | some (.methodLinkNest a b c _) => decide (a = own ∧ b = k ∧ c = q.1)
      | some w => decide (w = .methodLink own k q.1)
      | none => false))))))
    | _, _ => false)
  | _ => true
theorem bi_okcB_ok {M : Nat → Option bi_M} {own : String} {R : Room} {i : Instr} {r : bi_R} {ps : List Nat} (h : bi_okcB M own R i r ps = true) : bi_okc M own R i r := by
  cases i with
  | invokestatic k =>
    unfold bi_okcB at h
    dsimp only at h
    split at h
    · rename_i q hq
      simp only [Bool.and_eq_true] at h
      exact ⟨q, hq, of_decide_eq_true h.1, bi_okbB_ok h.2.1, bi_is_in h.2.2.1, bi_is_in h.2.2.2⟩
    · cases h
  | invokevirtual k =>
    unfold bi_okcB at h
    dsimp only at h
    split at h
    · rename_i q cq hq hcq
      simp only [Bool.and_eq_true] at h
      exact ⟨q, cq, hq, of_decide_eq_true h.1, of_decide_eq_true h.2.1, bi_okbB_ok h.2.2.1, hcq, bi_is_in h.2.2.2.1, bi_is_in h.2.2.2.2.1, bi_is_in h.2.2.2.2.2⟩
    · cases h
  | invokespecial k =>
    unfold bi_okcB at h
    unfold bi_okc
    dsimp only at h ⊢
    split at h
    · rename_i h9
      rw [if_pos h9]
      simp only [Bool.and_eq_true] at h
      exact ⟨bi_is_in h.1, bi_is_in h.2.1, bi_is_in h.2.2.1, of_decide_eq_true h.2.2.2.1, of_decide_eq_true h.2.2.2.2⟩
    · rename_i h9
      rw [if_neg h9]
      split at h
      · rename_i q cq hq hcq
        simp only [Bool.and_eq_true] at h
        refine ⟨q, cq, hq, of_decide_eq_true h.1, of_decide_eq_true h.2.1, bi_okbB_ok h.2.2.1, hcq, of_decide_eq_true h.2.2.2.1, of_decide_eq_true h.2.2.2.2.1, bi_is_in h.2.2.2.2.2.1, ?_⟩
        have h7 := h.2.2.2.2.2.2
        split at h7
        · rename_i a b c host hw
          obtain ⟨rfl, rfl, rfl⟩ := of_decide_eq_true h7
          exact Or.inr ⟨host, bi_tw_in hw⟩
        · rename_i w hw _
          have h7 := of_decide_eq_true h7
          subst h7
          exact Or.inl (bi_tw_in (by assumption))
        · cases h7
      · cases h
  | _ => exact trivial
def bi_okrB (M : Nat → Option bi_M) (own : String) (nL : Nat) (ini : Bool) (R : Room) (cc : ByteArray) : Nat → List bi_I → List (List Nat) → Bool
  | _, [], _ => true
  | pc, i :: is, cs => decide (decode cc pc = .ok (i.1, bi_len i.1)) && (bi_okiB own nL ini i.1 i.2 (cs.headD []) && (bi_okcB M own R i.1 i.2 (cs.headD []) && bi_okrB M own nL ini R cc (pc + bi_len i.1) is cs.tail))
theorem bi_okrB_ok {M : Nat → Option bi_M} {own : String} {nL : Nat} {ini : Bool} {R : Room} {cc : ByteArray} : ∀ (is : List bi_I) (pc : Nat) (cs : List (List Nat)), bi_okrB M own nL ini R cc pc is cs = true → bi_okr M own nL ini R cc pc is
  | [], _, _, _ => trivial
  | i :: is, pc, cs, h => by
    unfold bi_okrB at h
    simp only [Bool.and_eq_true] at h
    exact ⟨of_decide_eq_true h.1, bi_okiB_ok h.2.1, bi_okcB_ok h.2.2.1, bi_okrB_ok is _ _ h.2.2.2⟩
/-- where a jump goes -/
def bi_tgB (P : bi_P) (mi pc : Nat) (off : Int) (b : Nat) : Bool := decide ((pc : Int) + off = ((((pc : Int) + off).toNat : Nat) : Int)) && decide (bi_pc P mi b = some ((pc : Int) + off).toNat)
theorem bi_tgB_ok {P : bi_P} {mi pc : Nat} {off : Int} {b : Nat} (h : bi_tgB P mi pc off b = true) : ∃ tg : Nat, (pc : Int) + off = (tg : Int) ∧ bi_pc P mi b = some tg := by
  unfold bi_tgB at h
  simp only [Bool.and_eq_true] at h
  exact ⟨_, of_decide_eq_true h.1, of_decide_eq_true h.2⟩
def bi_oktB (P : bi_P) (mi : Nat) (cc : ByteArray) (ret : Option FieldType) (pc : Nat) (t : bi_I) (bs : List Nat) : Bool := match t.1 with
  | .nop => decide (bi_pc P mi (bs.getD 0 0) = some pc)
  | .goto off => decide (decode cc pc = .ok (.goto off, 3)) && bi_tgB P mi pc off (bs.getD 0 0)
  | .ifCond c off => decide (decode cc pc = .ok (.ifCond c off, 3)) && (decide (bi_pc P mi (bs.getD 1 0) = some (pc + 3)) && bi_tgB P mi pc off (bs.getD 0 0))
  | .if_icmp c off => decide (decode cc pc = .ok (.if_icmp c off, 3)) && (decide (bi_pc P mi (bs.getD 1 0) = some (pc + 3)) && bi_tgB P mi pc off (bs.getD 0 0))
  | .ifnull off => decide (decode cc pc = .ok (.ifnull off, 3)) && (decide (bi_pc P mi (bs.getD 1 0) = some (pc + 3)) && bi_tgB P mi pc off (bs.getD 0 0))
  | .ifnonnull off => decide (decode cc pc = .ok (.ifnonnull off, 3)) && (decide (bi_pc P mi (bs.getD 1 0) = some (pc + 3)) && bi_tgB P mi pc off (bs.getD 0 0))
  | .tableswitch df lo hi offs => (match decode cc pc with
    | .ok (i, _) => decide (i = .tableswitch df lo hi offs)
    | _ => false) && (bi_tgB P mi pc df (bs.getD 0 0) && (List.range (hi - lo + 1).toNat).all (fun k => match offs[k]? with
      | some off => bi_tgB P mi pc off (bs.getD (k + 1) 0)
      | none => false))
  | .ireturn => decide (decode cc pc = .ok (.ireturn, 1)) && decide ((t.2.1 = 0 ∧ ret = some .int) ∨ (t.2.1 = 1 ∧ ret = some .boolean))
  | .areturn => decide (decode cc pc = .ok (.areturn, 1)) && (match ret with
    | some rt => bi_isr rt
    | none => false)
  | .return_ => decide (decode cc pc = .ok (.return_, 1)) && decide (ret = none)
  | _ => true
theorem bi_oktB_ok {P : bi_P} {mi : Nat} {cc : ByteArray} {ret : Option FieldType} {pc : Nat} {t : bi_I} {bs : List Nat} (h : bi_oktB P mi cc ret pc t bs = true) : bi_okt P mi cc ret pc t bs := by
  obtain ⟨i, r⟩ := t
  cases i with
  | nop =>
    have z : bi_pc P mi (bs.getD 0 0) = some pc := of_decide_eq_true (show decide (bi_pc P mi (bs.getD 0 0) = some pc) = true from h)
    exact z
  | goto off =>
    unfold bi_oktB at h
    simp only [Bool.and_eq_true] at h
    exact ⟨of_decide_eq_true h.1, bi_tgB_ok h.2⟩
  | ifCond c off =>
    unfold bi_oktB at h
    simp only [Bool.and_eq_true] at h
    exact ⟨of_decide_eq_true h.1, of_decide_eq_true h.2.1, bi_tgB_ok h.2.2⟩
  | if_icmp c off =>
    unfold bi_oktB at h
    simp only [Bool.and_eq_true] at h
    exact ⟨of_decide_eq_true h.1, of_decide_eq_true h.2.1, bi_tgB_ok h.2.2⟩
  | ifnull off =>
    unfold bi_oktB at h
    simp only [Bool.and_eq_true] at h
    exact ⟨of_decide_eq_true h.1, of_decide_eq_true h.2.1, bi_tgB_ok h.2.2⟩
  | ifnonnull off =>
    unfold bi_oktB at h
    simp only [Bool.and_eq_true] at h
    exact ⟨of_decide_eq_true h.1, of_decide_eq_true h.2.1, bi_tgB_ok h.2.2⟩
  | tableswitch df lo hi offs =>
    unfold bi_oktB at h
    simp only [Bool.and_eq_true] at h
    obtain ⟨h1, h2, h3⟩ := h
    refine ⟨?_, bi_tgB_ok h2, fun k hk => ?_⟩
    · split at h1
      · rename_i i len hd
        have h1 := of_decide_eq_true h1
        subst h1
        exact ⟨len, hd⟩
      · cases h1
    · have h4 := List.all_eq_true.mp h3 k (List.mem_range.mpr hk)
      split at h4
      · rename_i off ho
        obtain ⟨tg, g1, g2⟩ := bi_tgB_ok h4
        exact ⟨off, tg, ho, g1, g2⟩
      · cases h4
  | ireturn =>
    unfold bi_oktB at h
    simp only [Bool.and_eq_true] at h
    exact ⟨of_decide_eq_true h.1, of_decide_eq_true h.2⟩
  | areturn =>
    unfold bi_oktB at h
    simp only [Bool.and_eq_true] at h
    refine ⟨of_decide_eq_true h.1, ?_⟩
    have h2 := h.2
    split at h2
    · rename_i rt
      exact ⟨rt, rfl, h2⟩
    · cases h2
  | return_ =>
    unfold bi_oktB at h
    simp only [Bool.and_eq_true] at h
    exact ⟨of_decide_eq_true h.1, of_decide_eq_true h.2⟩
  | _ => exact trivial
def bi_oktxB (own : String) (cc : ByteArray) (R : Room) (pc : Nat) (r : bi_R) : Bool := decide (own = RX9) && (decide (6 ≤ R.frames) && (decide (90 ≤ R.locals) && (bi_strs.any (fun q => decide (q.1 = r.2.2.1)) && (decide ((r.1 = 0 ∧ r.2.1 = 236 ∧ r.2.2.2 = 240) ∨ (r.1 = 1 ∧ r.2.1 = 249 ∧ r.2.2.2 = 253)) && (decide (decode cc pc = .ok (.new r.2.1, 3)) && (decide (decode cc (pc + 3) = .ok (.dup, 1)) &&
  ((decide (decode cc (pc + 4) = .ok (.ldc r.2.2.1, 2)) && (decide (decode cc (pc + 6) = .ok (.invokespecial r.2.2.2, 3)) && decide (decode cc (pc + 9) = .ok (.athrow, 1)))) || (decide (decode cc (pc + 4) = .ok (.ldc_w r.2.2.1, 3)) && (decide (decode cc (pc + 7) = .ok (.invokespecial r.2.2.2, 3)) && decide (decode cc (pc + 10) = .ok (.athrow, 1))))))))))) 
theorem bi_oktxB_ok {own : String} {cc : ByteArray} {R : Room} {pc : Nat} {r : bi_R} (h : bi_oktxB own cc R pc r = true) : bi_oktx own cc R pc r := by
  unfold bi_oktxB at h
  simp only [Bool.and_eq_true, Bool.or_eq_true] at h
  obtain ⟨h1, h2, h3, h4, h5, h6, h7, h8⟩ := h
  refine ⟨of_decide_eq_true h1, of_decide_eq_true h2, of_decide_eq_true h3, ?_, of_decide_eq_true h5, of_decide_eq_true h6, of_decide_eq_true h7, ?_⟩
  · obtain ⟨q, hq, hq2⟩ := List.any_eq_true.mp h4
    refine ⟨q.2, ?_⟩
    rw [← of_decide_eq_true hq2]
    exact hq
  · exact h8.imp (fun z => ⟨of_decide_eq_true z.1, of_decide_eq_true z.2.1, of_decide_eq_true z.2.2⟩) (fun z => ⟨of_decide_eq_true z.1, of_decide_eq_true z.2.1, of_decide_eq_true z.2.2⟩)
/-- a handler's row -/
def bi_hrB (P : bi_P) (mi : Nat) (cc : ByteArray) (pc k b : Nat) (a : Nat × Nat × Nat × Nat) : Bool := decide (a.1 ≤ pc ∧ pc < a.2.1) && (decide (a.2.2.2 ≠ 0) && (decide (decode cc a.2.2.1 = .ok (.astore k, 2)) && decide (bi_pc P mi b = some (a.2.2.1 + 2))))
def bi_oktyB (M : Nat → Option bi_M) (P : bi_P) (mi : Nat) (own : String) (nL : Nat) (R : Room) (cc : ByteArray) (hh : List (Nat × Nat × Nat × Nat)) (pc k : Nat) (r : bi_R) (bs : List Nat) (ps : List Nat) : Bool :=
  bi_okcB M own R (.invokevirtual k) r ps && (decide (decode cc pc = .ok (.invokevirtual k, 3)) && (decide (bi_pc P mi (bs.getD 0 0) = some (pc + 3)) && (decide (r.2.2.2 < nL) && (match hh with
    | [a] => decide (bs.length = 2) && (bi_hrB P mi cc pc r.2.2.2 (bs.getD 1 0) a && bi_is ps 5 (.classLink own a.2.2.2 (bi_en 0)))
    | [a, b] => decide (bs.length = 3) && (bi_hrB P mi cc pc r.2.2.2 (bs.getD 1 0) a && (bi_is ps 5 (.classLink own a.2.2.2 (bi_en 0)) && (bi_hrB P mi cc pc r.2.2.2 (bs.getD 2 0) b && bi_is ps 6 (.classLink own b.2.2.2 (bi_en 1)))))
    | _ => false))))
theorem bi_oktyB_ok {M : Nat → Option bi_M} {P : bi_P} {mi : Nat} {own : String} {nL : Nat} {R : Room} {cc : ByteArray} {hh : List (Nat × Nat × Nat × Nat)} {pc k : Nat} {r : bi_R} {bs ps : List Nat} (h : bi_oktyB M P mi own nL R cc hh pc k r bs ps = true) : bi_okty M P mi own nL R cc hh pc k r bs := by
  unfold bi_oktyB at h
  simp only [Bool.and_eq_true] at h
  obtain ⟨h1, h2, h3, h4, h5⟩ := h
  have hrow : ∀ {b : Nat} {a : Nat × Nat × Nat × Nat}, bi_hrB P mi cc pc r.2.2.2 b a = true → (a.1 ≤ pc ∧ pc < a.2.1) ∧ a.2.2.2 ≠ 0 ∧ decode cc a.2.2.1 = .ok (.astore r.2.2.2, 2) ∧ bi_pc P mi b = some (a.2.2.1 + 2) := fun {b a} z => by
    unfold bi_hrB at z
    simp only [Bool.and_eq_true] at z
    exact ⟨of_decide_eq_true z.1, of_decide_eq_true z.2.1, of_decide_eq_true z.2.2.1, of_decide_eq_true z.2.2.2⟩
  split at h5
  · rename_i a
    simp only [Bool.and_eq_true] at h5
    have hl := of_decide_eq_true h5.1
    obtain ⟨g1, g2, g3, g4⟩ := hrow h5.2.1
    exact ⟨bi_okcB_ok h1, of_decide_eq_true h2, of_decide_eq_true h3, by omega, of_decide_eq_true h4, fun _ => ⟨a, [], rfl, g1, g2, bi_is_in h5.2.2, g3, g4⟩, fun z => by omega⟩
  · rename_i a b
    simp only [Bool.and_eq_true] at h5
    have hl := of_decide_eq_true h5.1
    obtain ⟨g1, g2, g3, g4⟩ := hrow h5.2.1
    obtain ⟨f1, f2, f3, f4⟩ := hrow h5.2.2.2.1
    exact ⟨bi_okcB_ok h1, of_decide_eq_true h2, of_decide_eq_true h3, by omega, of_decide_eq_true h4, fun _ => ⟨a, [b], rfl, g1, g2, bi_is_in h5.2.2.1, g3, g4⟩, fun _ => ⟨a, b, [], rfl, g2, bi_is_in h5.2.2.1, f1, f2, bi_is_in h5.2.2.2.2, f3, f4⟩⟩
  · cases h5
def bi_okkB (M : Nat → Option bi_M) (P : bi_P) (mi : Nat) (q : bi_M) (k : bi_K) (cs : List (List Nat)) (ps : List Nat) : Bool :=
  bi_okrB M q.2.2.2.2.1 q.2.2.1 (decide (q.1.name = "<init>")) (bi_mr q) q.2.1 k.1 k.2.1 cs && (bi_oktB P mi q.2.1 q.2.2.2.1 (bi_end k.1 k.2.1) k.2.2.1 k.2.2.2 && (match k.2.2.1.1 with
    | .athrow => bi_oktxB q.2.2.2.2.1 q.2.1 (bi_mr q) (bi_end k.1 k.2.1) k.2.2.1.2
    | .invokevirtual i => bi_oktyB M P mi q.2.2.2.2.1 q.2.2.1 (bi_mr q) q.2.1 q.2.2.2.2.2.2.2 (bi_end k.1 k.2.1) i k.2.2.1.2 k.2.2.2 ps
    | _ => true))
theorem bi_okkB_ok {M : Nat → Option bi_M} {P : bi_P} {mi : Nat} {q : bi_M} {k : bi_K} {cs : List (List Nat)} {ps : List Nat} (h : bi_okkB M P mi q k cs ps = true) : bi_okk M P mi q k := by
  unfold bi_okkB at h
  simp only [Bool.and_eq_true] at h
  refine ⟨bi_okrB_ok _ _ _ h.1, bi_oktB_ok h.2.1, fun ha => ?_, fun i hi => ?_⟩
  · have h3 := h.2.2
    rw [ha] at h3
    exact bi_oktxB_ok h3
  · have h3 := h.2.2
    rw [hi] at h3
    exact bi_oktyB_ok h3
/-- the blocks of a method, each with its words' places -/
def bi_oksB (M : Nat → Option bi_M) (P : bi_P) (mi : Nat) (q : bi_M) : List bi_K → List (List (List Nat) × List Nat) → Bool
  | [], _ => true
  | k :: ks, cs => bi_okkB M P mi q k (cs.headD ([], [])).1 (cs.headD ([], [])).2 && bi_oksB M P mi q ks cs.tail
theorem bi_oksB_ok {M : Nat → Option bi_M} {P : bi_P} {mi : Nat} {q : bi_M} : ∀ (ks : List bi_K) (cs : List (List (List Nat) × List Nat)), bi_oksB M P mi q ks cs = true → ∀ k ∈ ks, bi_okk M P mi q k
  | [], _, _, k, hk => by cases hk
  | a :: ks, cs, h, k, hk => by
    unfold bi_oksB at h
    simp only [Bool.and_eq_true] at h
    rcases List.mem_cons.mp hk with rfl | hk
    · exact bi_okkB_ok h.1
    · exact bi_oksB_ok ks _ h.2 k hk
end
section
/-! the tables of the methods, printed by a program of ours (wip/tools/gen.py) out of the claim -/
/-- 0: java/util/Arrays.copyOf([II)[I -/
def bt_J7_copyOf_59c91 : List bi_K := [(0, [(.iload_n 1, (0, 0, 0, 0)), (.aload_n 0, (0, 0, 0, 0)), (.arraylength, (0, 0, 0, 0))], (.if_icmp .ne 11, (0, 0, 0, 0)), [4, 1]),
  (6, [(.aload_n 0, (0, 0, 0, 0))], (.monitorenter, (0, 0, 0, 0)), []),
  (10, [], (.monitorenter, (0, 0, 0, 0)), []),
  (13, [], (.areturn, (0, 0, 0, 0)), []),
  (14, [(.iload_n 1, (0, 0, 0, 0)), (.newarray .int, (0, 0, 0, 0)), (.astore_n 2, (0, 0, 0, 0)), (.aload_n 0, (0, 0, 0, 0)), (.iconst 0, (0, 0, 0, 0)), (.aload_n 2, (0, 0, 0, 0)), (.iconst 0, (0, 0, 0, 0)), (.aload_n 0, (0, 0, 0, 0)), (.arraylength, (0, 0, 0, 0)), (.iload_n 1, (0, 0, 0, 0)), (.invokestatic 304, (3, 2, 0, 0))], (.monitorenter, (0, 0, 0, 0)), []),
  (31, [(.aload_n 2, (0, 0, 0, 0))], (.areturn, (0, 0, 0, 0)), [])]
/-- 1: java/lang/Math.floorMod(II)I -/
def bt_J9_floorMod_7cf53 : List bi_K := [(0, [(.iload_n 0, (0, 0, 0, 0)), (.iload_n 1, (0, 0, 0, 0)), (.irem, (0, 0, 0, 0)), (.istore_n 2, (0, 0, 0, 0)), (.iload_n 0, (0, 0, 0, 0)), (.iload_n 1, (0, 0, 0, 0)), (.ixor, (0, 0, 0, 0))], (.ifCond .ge 11, (0, 0, 0, 0)), [3, 1]),
  (10, [(.iload_n 2, (0, 0, 0, 0))], (.ifCond .eq 7, (0, 0, 0, 0)), [3, 2]),
  (14, [(.iload_n 2, (0, 0, 0, 0)), (.iload_n 1, (0, 0, 0, 0)), (.iadd, (0, 0, 0, 0))], (.ireturn, (0, 0, 0, 0)), []),
  (18, [(.iload_n 2, (0, 0, 0, 0))], (.ireturn, (0, 0, 0, 0)), [])]
/-- 2: java/lang/Math.max(II)I -/
def bt_J9_max_7cf53 : List bi_K := [(0, [(.iload_n 0, (0, 0, 0, 0)), (.iload_n 1, (0, 0, 0, 0))], (.if_icmp .lt 7, (0, 0, 0, 0)), [2, 1]),
  (5, [(.iload_n 0, (0, 0, 0, 0))], (.goto 4, (0, 0, 0, 0)), [3]),
  (9, [(.iload_n 1, (0, 0, 0, 0))], (.nop, (0, 0, 0, 0)), [3]),
  (10, [], (.ireturn, (0, 0, 0, 0)), [])]
/-- 3: java/lang/Math.min(II)I -/
def bt_J9_min_7cf53 : List bi_K := [(0, [(.iload_n 0, (0, 0, 0, 0)), (.iload_n 1, (0, 0, 0, 0))], (.if_icmp .gt 7, (0, 0, 0, 0)), [2, 1]),
  (5, [(.iload_n 0, (0, 0, 0, 0))], (.goto 4, (0, 0, 0, 0)), [3]),
  (9, [(.iload_n 1, (0, 0, 0, 0))], (.nop, (0, 0, 0, 0)), [3]),
  (10, [], (.ireturn, (0, 0, 0, 0)), [])]
/-- 4: TwinVaults$Link.add(LTwinVaults$Message;)V -/
def bt_X0_add : List bi_K := [(0, [(.aload_n 0, (0, 0, 0, 0)), (.dup, (0, 0, 0, 0)), (.getfield 21, (0, 2, 0, 0)), (.iconst 1, (0, 0, 0, 0)), (.iadd, (0, 0, 0, 0)), (.putfield 21, (0, 2, 0, 0)), (.aload_n 0, (0, 0, 0, 0)), (.getfield 17, (0, 1, 0, 0)), (.bipush 60, (0, 0, 0, 0))], (.if_icmp .lt 14, (0, 0, 0, 0)), [2, 1]),
  (19, [(.aload_n 0, (0, 0, 0, 0)), (.dup, (0, 0, 0, 0)), (.getfield 24, (0, 3, 0, 0)), (.iconst 1, (0, 0, 0, 0)), (.iadd, (0, 0, 0, 0)), (.putfield 24, (0, 3, 0, 0))], (.return_, (0, 0, 0, 0)), []),
  (30, [(.aload_n 0, (0, 0, 0, 0)), (.getfield 11, (0, 0, 1, 0)), (.aload_n 0, (0, 0, 0, 0)), (.getfield 17, (0, 1, 0, 0)), (.aload_n 1, (0, 0, 0, 0)), (.aastore, (0, 0, 0, 0)), (.aload_n 0, (0, 0, 0, 0)), (.dup, (0, 0, 0, 0)), (.getfield 17, (0, 1, 0, 0)), (.iconst 1, (0, 0, 0, 0)), (.iadd, (0, 0, 0, 0)), (.putfield 17, (0, 1, 0, 0))], (.return_, (0, 0, 0, 0)), [])]
/-- 5: TwinVaults$Link.at(I)LTwinVaults$Message; -/
def bt_X0_at : List bi_K := [(0, [(.iload_n 1, (0, 0, 0, 0))], (.ifCond .lt 11, (0, 0, 0, 0)), [2, 1]),
  (4, [(.iload_n 1, (0, 0, 0, 0)), (.aload_n 0, (0, 0, 0, 0)), (.getfield 17, (0, 1, 0, 0))], (.if_icmp .lt 7, (0, 0, 0, 0)), [3, 2]),
  (12, [(.aconst_null, (0, 0, 0, 0))], (.goto 9, (0, 0, 0, 0)), [4]),
  (16, [(.aload_n 0, (0, 0, 0, 0)), (.getfield 11, (0, 0, 1, 0)), (.iload_n 1, (0, 0, 0, 0)), (.aaload, (0, 0, 0, 0))], (.nop, (0, 0, 0, 0)), [4]),
  (22, [], (.areturn, (0, 0, 0, 0)), [])]
/-- 6: TwinVaults$Link.drop(I)V -/
def bt_X0_drop : List bi_K := [(0, [(.iload_n 1, (0, 0, 0, 0))], (.ifCond .lt 11, (0, 0, 0, 0)), [2, 1]),
  (4, [(.iload_n 1, (0, 0, 0, 0)), (.aload_n 0, (0, 0, 0, 0)), (.getfield 17, (0, 1, 0, 0))], (.if_icmp .lt 4, (0, 0, 0, 0)), [3, 2]),
  (12, [], (.return_, (0, 0, 0, 0)), []),
  (13, [(.iload_n 1, (0, 0, 0, 0)), (.iconst 1, (0, 0, 0, 0)), (.iadd, (0, 0, 0, 0)), (.istore_n 2, (0, 0, 0, 0))], (.nop, (0, 0, 0, 0)), [4]),
  (17, [(.iload_n 2, (0, 0, 0, 0)), (.aload_n 0, (0, 0, 0, 0)), (.getfield 17, (0, 1, 0, 0))], (.if_icmp .ge 23, (0, 0, 0, 0)), [6, 5]),
  (25, [(.aload_n 0, (0, 0, 0, 0)), (.getfield 11, (0, 0, 1, 0)), (.iload_n 2, (0, 0, 0, 0)), (.iconst 1, (0, 0, 0, 0)), (.isub, (0, 0, 0, 0)), (.aload_n 0, (0, 0, 0, 0)), (.getfield 11, (0, 0, 1, 0)), (.iload_n 2, (0, 0, 0, 0)), (.aaload, (0, 0, 0, 0)), (.aastore, (0, 0, 0, 0)), (.iinc 2 1, (0, 0, 0, 0))], (.goto (-25), (0, 0, 0, 0)), [4]),
  (45, [(.aload_n 0, (0, 0, 0, 0)), (.dup, (0, 0, 0, 0)), (.getfield 17, (0, 1, 0, 0)), (.iconst 1, (0, 0, 0, 0)), (.isub, (0, 0, 0, 0)), (.putfield 17, (0, 1, 0, 0)), (.aload_n 0, (0, 0, 0, 0)), (.getfield 11, (0, 0, 1, 0)), (.aload_n 0, (0, 0, 0, 0)), (.getfield 17, (0, 1, 0, 0)), (.aconst_null, (0, 0, 0, 0)), (.aastore, (0, 0, 0, 0))], (.return_, (0, 0, 0, 0)), [])]
/-- 7: TwinVaults$Link.<init>()V -/
def bt_X0_init : List bi_K := [(0, [(.aload_n 0, (0, 0, 0, 0)), (.invokespecial 3, (9999, 0, 0, 0)), (.aload_n 0, (0, 0, 0, 0)), (.bipush 60, (0, 0, 0, 0)), (.anewarray 9, (2, 0, 0, 0)), (.putfield 11, (0, 0, 1, 0))], (.return_, (0, 0, 0, 0)), [])]
/-- 8: TwinVaultsModel$Message.<init>()V -/
def bt_X10_init : List bi_K := [(0, [(.aload_n 0, (0, 0, 0, 0)), (.invokespecial 3, (9999, 0, 0, 0)), (.aload_n 0, (0, 0, 0, 0)), (.bipush 40, (0, 0, 0, 0)), (.newarray .int, (0, 0, 0, 0)), (.putfield 9, (10, 8, 1, 0)), (.aload_n 0, (0, 0, 0, 0)), (.bipush 40, (0, 0, 0, 0)), (.newarray .int, (0, 0, 0, 0)), (.putfield 15, (10, 9, 1, 0)), (.aload_n 0, (0, 0, 0, 0)), (.bipush 40, (0, 0, 0, 0)), (.newarray .int, (0, 0, 0, 0)), (.putfield 18, (10, 10, 1, 0))], (.return_, (0, 0, 0, 0)), [])]
/-- 9: TwinVaultsModel$Store.drop(I)V -/
def bt_X11_drop : List bi_K := [(0, [(.iload_n 1, (0, 0, 0, 0)), (.istore_n 2, (0, 0, 0, 0))], (.nop, (0, 0, 0, 0)), [1]),
  (2, [(.iload_n 2, (0, 0, 0, 0)), (.iconst 1, (0, 0, 0, 0)), (.iadd, (0, 0, 0, 0)), (.aload_n 0, (0, 0, 0, 0)), (.getfield 28, (11, 7, 0, 0))], (.if_icmp .ge 37, (0, 0, 0, 0)), [3, 2]),
  (12, [(.aload_n 0, (0, 0, 0, 0)), (.getfield 15, (11, 14, 1, 0)), (.iload_n 2, (0, 0, 0, 0)), (.aload_n 0, (0, 0, 0, 0)), (.getfield 15, (11, 14, 1, 0)), (.iload_n 2, (0, 0, 0, 0)), (.iconst 1, (0, 0, 0, 0)), (.iadd, (0, 0, 0, 0)), (.iaload, (0, 0, 0, 0)), (.iastore, (0, 0, 0, 0)), (.aload_n 0, (0, 0, 0, 0)), (.getfield 19, (11, 15, 1, 0)), (.iload_n 2, (0, 0, 0, 0)), (.aload_n 0, (0, 0, 0, 0)), (.getfield 19, (11, 15, 1, 0)), (.iload_n 2, (0, 0, 0, 0)), (.iconst 1, (0, 0, 0, 0)), (.iadd, (0, 0, 0, 0)), (.iaload, (0, 0, 0, 0)), (.iastore, (0, 0, 0, 0)), (.iinc 2 1, (0, 0, 0, 0))], (.goto (-41), (0, 0, 0, 0)), [1]),
  (46, [(.aload_n 0, (0, 0, 0, 0)), (.dup, (0, 0, 0, 0)), (.getfield 28, (11, 7, 0, 0)), (.iconst 1, (0, 0, 0, 0)), (.isub, (0, 0, 0, 0)), (.putfield 28, (11, 7, 0, 0)), (.aload_n 0, (0, 0, 0, 0)), (.iconst 0, (0, 0, 0, 0)), (.putfield 31, (11, 33, 2, 0))], (.return_, (0, 0, 0, 0)), [])]
/-- 10: TwinVaultsModel$Store.find(I)I -/
def bt_X11_find : List bi_K := [(0, [(.iconst 0, (0, 0, 0, 0)), (.istore_n 2, (0, 0, 0, 0))], (.nop, (0, 0, 0, 0)), [1]),
  (2, [(.iload_n 2, (0, 0, 0, 0)), (.aload_n 0, (0, 0, 0, 0)), (.getfield 28, (11, 7, 0, 0))], (.if_icmp .ge 19, (0, 0, 0, 0)), [4, 2]),
  (10, [(.aload_n 0, (0, 0, 0, 0)), (.getfield 15, (11, 14, 1, 0)), (.iload_n 2, (0, 0, 0, 0)), (.iaload, (0, 0, 0, 0)), (.iload_n 1, (0, 0, 0, 0))], (.if_icmp .eq 9, (0, 0, 0, 0)), [4, 3]),
  (20, [(.iinc 2 1, (0, 0, 0, 0))], (.goto (-21), (0, 0, 0, 0)), [1]),
  (26, [(.iload_n 2, (0, 0, 0, 0)), (.aload_n 0, (0, 0, 0, 0)), (.getfield 28, (11, 7, 0, 0))], (.if_icmp .ge 7, (0, 0, 0, 0)), [6, 5]),
  (34, [(.iload_n 2, (0, 0, 0, 0))], (.goto 4, (0, 0, 0, 0)), [7]),
  (38, [(.iconst (-1), (0, 0, 0, 0))], (.nop, (0, 0, 0, 0)), [7]),
  (39, [], (.ireturn, (0, 0, 0, 0)), [])]
/-- 11: TwinVaultsModel$Store.hasAll()Z -/
def bt_X11_hasAll : List bi_K := [(0, [(.iconst 4, (0, 0, 0, 0)), (.aload_n 0, (0, 0, 0, 0)), (.getfield 74, (11, 26, 0, 0)), (.imul, (0, 0, 0, 0)), (.aload_n 0, (0, 0, 0, 0)), (.getfield 71, (11, 25, 0, 0))], (.if_icmp .lt 7, (0, 0, 0, 0)), [2, 1]),
  (13, [(.iconst 1, (0, 0, 0, 0))], (.goto 4, (0, 0, 0, 0)), [3]),
  (17, [(.iconst 0, (0, 0, 0, 0))], (.nop, (0, 0, 0, 0)), [3]),
  (18, [], (.ireturn, (1, 0, 0, 0)), [])]
/-- 12: TwinVaultsModel$Store.<init>()V -/
def bt_X11_init : List bi_K := [(0, [(.aload_n 0, (0, 0, 0, 0)), (.invokespecial 3, (9999, 0, 0, 0)), (.aload_n 0, (0, 0, 0, 0)), (.iconst 1, (0, 0, 0, 0)), (.putfield 9, (11, 3, 0, 0)), (.aload_n 0, (0, 0, 0, 0)), (.bipush 40, (0, 0, 0, 0)), (.newarray .int, (0, 0, 0, 0)), (.putfield 15, (11, 14, 1, 0)), (.aload_n 0, (0, 0, 0, 0)), (.bipush 40, (0, 0, 0, 0)), (.newarray .int, (0, 0, 0, 0)), (.putfield 19, (11, 15, 1, 0)), (.aload_n 0, (0, 0, 0, 0)), (.iconst 0, (0, 0, 0, 0)), (.newarray .int, (0, 0, 0, 0)), (.putfield 22, (11, 29, 1, 0)), (.aload_n 0, (0, 0, 0, 0)), (.iconst 0, (0, 0, 0, 0)), (.newarray .int, (0, 0, 0, 0)), (.putfield 25, (11, 30, 1, 0))], (.return_, (0, 0, 0, 0)), [])]
/-- 13: TwinVaultsModel$Store.isPinned(I)Z -/
def bt_X11_isPinned : List bi_K := [(0, [(.iload_n 1, (0, 0, 0, 0)), (.aload_n 0, (0, 0, 0, 0)), (.invokevirtual 35, (14, 0, 11, 0))], (.if_icmp .eq 43, (0, 0, 0, 0)), [6, 1]),
  (8, [(.iload_n 1, (0, 0, 0, 0)), (.aload_n 0, (0, 0, 0, 0)), (.getfield 39, (11, 8, 0, 0))], (.if_icmp .eq 35, (0, 0, 0, 0)), [6, 2]),
  (16, [(.iload_n 1, (0, 0, 0, 0)), (.aload_n 0, (0, 0, 0, 0)), (.getfield 42, (11, 9, 0, 0))], (.if_icmp .eq 27, (0, 0, 0, 0)), [6, 3]),
  (24, [(.iload_n 1, (0, 0, 0, 0)), (.aload_n 0, (0, 0, 0, 0)), (.getfield 45, (11, 16, 0, 0))], (.if_icmp .eq 19, (0, 0, 0, 0)), [6, 4]),
  (32, [(.iload_n 1, (0, 0, 0, 0)), (.aload_n 0, (0, 0, 0, 0)), (.getfield 48, (11, 10, 0, 0))], (.if_icmp .eq 11, (0, 0, 0, 0)), [6, 5]),
  (40, [(.iload_n 1, (0, 0, 0, 0)), (.aload_n 0, (0, 0, 0, 0)), (.getfield 51, (11, 11, 0, 0))], (.if_icmp .ne 7, (0, 0, 0, 0)), [7, 6]),
  (48, [(.iconst 1, (0, 0, 0, 0))], (.goto 4, (0, 0, 0, 0)), [8]),
  (52, [(.iconst 0, (0, 0, 0, 0))], (.nop, (0, 0, 0, 0)), [8]),
  (53, [], (.ireturn, (1, 0, 0, 0)), [])]
/-- 14: TwinVaultsModel$Store.latest()I -/
def bt_X11_latest : List bi_K := [(0, [(.aload_n 0, (0, 0, 0, 0)), (.getfield 28, (11, 7, 0, 0))], (.ifCond .ne 7, (0, 0, 0, 0)), [2, 1]),
  (7, [(.iconst 0, (0, 0, 0, 0))], (.goto 14, (0, 0, 0, 0)), [3]),
  (11, [(.aload_n 0, (0, 0, 0, 0)), (.getfield 15, (11, 14, 1, 0)), (.aload_n 0, (0, 0, 0, 0)), (.getfield 28, (11, 7, 0, 0)), (.iconst 1, (0, 0, 0, 0)), (.isub, (0, 0, 0, 0)), (.iaload, (0, 0, 0, 0))], (.nop, (0, 0, 0, 0)), [3]),
  (22, [], (.ireturn, (0, 0, 0, 0)), [])]
/-- 15: TwinVaultsModel$Store.latestLine()I -/
def bt_X11_latestLine : List bi_K := [(0, [(.aload_n 0, (0, 0, 0, 0)), (.getfield 28, (11, 7, 0, 0))], (.ifCond .ne 7, (0, 0, 0, 0)), [2, 1]),
  (7, [(.iconst 0, (0, 0, 0, 0))], (.goto 14, (0, 0, 0, 0)), [3]),
  (11, [(.aload_n 0, (0, 0, 0, 0)), (.getfield 19, (11, 15, 1, 0)), (.aload_n 0, (0, 0, 0, 0)), (.getfield 28, (11, 7, 0, 0)), (.iconst 1, (0, 0, 0, 0)), (.isub, (0, 0, 0, 0)), (.iaload, (0, 0, 0, 0))], (.nop, (0, 0, 0, 0)), [3]),
  (22, [], (.ireturn, (0, 0, 0, 0)), [])]
/-- 16: TwinVaultsModel$Store.snaps(II)V -/
def bt_X11_snaps : List bi_K := [(0, [(.aload_n 0, (0, 0, 0, 0)), (.getfield 15, (11, 14, 1, 0)), (.aload_n 0, (0, 0, 0, 0)), (.getfield 28, (11, 7, 0, 0)), (.iload_n 1, (0, 0, 0, 0)), (.iastore, (0, 0, 0, 0)), (.aload_n 0, (0, 0, 0, 0)), (.getfield 19, (11, 15, 1, 0)), (.aload_n 0, (0, 0, 0, 0)), (.getfield 28, (11, 7, 0, 0)), (.iload_n 2, (0, 0, 0, 0)), (.iastore, (0, 0, 0, 0)), (.aload_n 0, (0, 0, 0, 0)), (.dup, (0, 0, 0, 0)), (.getfield 28, (11, 7, 0, 0)), (.iconst 1, (0, 0, 0, 0)), (.iadd, (0, 0, 0, 0)), (.putfield 28, (11, 7, 0, 0)), (.aload_n 0, (0, 0, 0, 0)), (.iconst 0, (0, 0, 0, 0)), (.putfield 31, (11, 33, 2, 0))], (.return_, (0, 0, 0, 0)), [])]
/-- 17: TwinVaultsModel$Store.stagesNothing()V -/
def bt_X11_stagesNothing : List bi_K := [(0, [(.aload_n 0, (0, 0, 0, 0)), (.iconst 0, (0, 0, 0, 0)), (.putfield 62, (11, 22, 2, 0)), (.aload_n 0, (0, 0, 0, 0)), (.iconst 0, (0, 0, 0, 0)), (.putfield 65, (11, 24, 0, 0)), (.aload_n 0, (0, 0, 0, 0)), (.iconst 0, (0, 0, 0, 0)), (.putfield 68, (11, 23, 0, 0)), (.aload_n 0, (0, 0, 0, 0)), (.iconst 0, (0, 0, 0, 0)), (.putfield 71, (11, 25, 0, 0)), (.aload_n 0, (0, 0, 0, 0)), (.iconst 0, (0, 0, 0, 0)), (.putfield 74, (11, 26, 0, 0)), (.aload_n 0, (0, 0, 0, 0)), (.iconst 0, (0, 0, 0, 0)), (.putfield 77, (11, 27, 0, 0))], (.return_, (0, 0, 0, 0)), [])]
/-- 18: TwinVaultsModel$Store.thins(I)V -/
def bt_X11_thins : List bi_K := [(0, [(.iconst 0, (0, 0, 0, 0)), (.istore_n 2, (0, 0, 0, 0))], (.nop, (0, 0, 0, 0)), [1]),
  (2, [(.aload_n 0, (0, 0, 0, 0)), (.getfield 28, (11, 7, 0, 0)), (.iload_n 1, (0, 0, 0, 0))], (.if_icmp .le 38, (0, 0, 0, 0)), [6, 2]),
  (10, [(.iload_n 2, (0, 0, 0, 0)), (.aload_n 0, (0, 0, 0, 0)), (.getfield 28, (11, 7, 0, 0))], (.if_icmp .ge 30, (0, 0, 0, 0)), [6, 3]),
  (18, [(.aload_n 0, (0, 0, 0, 0)), (.aload_n 0, (0, 0, 0, 0)), (.getfield 15, (11, 14, 1, 0)), (.iload_n 2, (0, 0, 0, 0)), (.iaload, (0, 0, 0, 0)), (.invokevirtual 54, (13, 1, 11, 0))], (.ifCond .eq 9, (0, 0, 0, 0)), [5, 4]),
  (31, [(.iinc 2 1, (0, 0, 0, 0))], (.goto (-32), (0, 0, 0, 0)), [1]),
  (37, [(.aload_n 0, (0, 0, 0, 0)), (.iload_n 2, (0, 0, 0, 0)), (.invokevirtual 58, (9, 1, 11, 0))], (.goto (-40), (0, 0, 0, 0)), [1]),
  (45, [], (.return_, (0, 0, 0, 0)), [])]
/-- 19: TwinVaultsModel.accepted(LTwinVaultsModel$Store;I)V -/
def bt_X12_accepted : List bi_K := [(0, [(.aload_n 1, (0, 0, 0, 0)), (.iconst 2, (0, 0, 0, 0)), (.putfield 277, (11, 17, 0, 0)), (.aload_n 1, (0, 0, 0, 0)), (.iload_n 2, (0, 0, 0, 0)), (.putfield 294, (11, 18, 0, 0)), (.aload_n 1, (0, 0, 0, 0)), (.iload_n 2, (0, 0, 0, 0)), (.putfield 291, (11, 19, 0, 0)), (.aload_n 1, (0, 0, 0, 0)), (.iconst 0, (0, 0, 0, 0)), (.putfield 280, (11, 20, 0, 0)), (.aload_n 0, (0, 0, 0, 0)), (.aload_n 1, (0, 0, 0, 0)), (.invokevirtual 391, (75, 1, 12, 0))], (.return_, (0, 0, 0, 0)), [])]
/-- 20: TwinVaultsModel.acknowledged(LTwinVaultsModel$Store;I)V -/
def bt_X12_acknowledged : List bi_K := [(0, [(.iload_n 2, (0, 0, 0, 0)), (.aload_n 1, (0, 0, 0, 0)), (.getfield 294, (11, 18, 0, 0))], (.if_icmp .le 25, (0, 0, 0, 0)), [2, 1]),
  (8, [(.aload_n 1, (0, 0, 0, 0)), (.iload_n 2, (0, 0, 0, 0)), (.putfield 294, (11, 18, 0, 0)), (.aload_n 1, (0, 0, 0, 0)), (.aload_n 1, (0, 0, 0, 0)), (.getfield 291, (11, 19, 0, 0)), (.iload_n 2, (0, 0, 0, 0)), (.invokestatic 106, (2, 2, 0, 0)), (.putfield 291, (11, 19, 0, 0)), (.aload_n 1, (0, 0, 0, 0)), (.iconst 0, (0, 0, 0, 0)), (.putfield 280, (11, 20, 0, 0))], (.nop, (0, 0, 0, 0)), [2]),
  (30, [(.aload_n 0, (0, 0, 0, 0)), (.aload_n 1, (0, 0, 0, 0)), (.invokevirtual 391, (75, 1, 12, 0))], (.return_, (0, 0, 0, 0)), [])]
/-- 21: TwinVaultsModel.act(I)Z -/
def bt_X12_act : List bi_K := [(0, [(.aload_n 0, (0, 0, 0, 0)), (.getfield 21, (12, 11, 1, 0)), (.iload_n 1, (0, 0, 0, 0)), (.iaload, (0, 0, 0, 0))], (.ifCond .ne 10, (0, 0, 0, 0)), [2, 1]),
  (9, [(.aload_n 0, (0, 0, 0, 0)), (.iload_n 1, (0, 0, 0, 0)), (.invokevirtual 174, (45, 1, 12, 0)), (.iconst 0, (0, 0, 0, 0))], (.ireturn, (1, 0, 0, 0)), []),
  (16, [(.aload_n 0, (0, 0, 0, 0)), (.getfield 21, (12, 11, 1, 0)), (.iload_n 1, (0, 0, 0, 0)), (.iaload, (0, 0, 0, 0))], (.ifCond .le 13, (0, 0, 0, 0)), [4, 3]),
  (25, [(.aload_n 0, (0, 0, 0, 0)), (.getfield 21, (12, 11, 1, 0)), (.iload_n 1, (0, 0, 0, 0)), (.dup2, (0, 0, 0, 0)), (.iaload, (0, 0, 0, 0)), (.iconst 1, (0, 0, 0, 0)), (.isub, (0, 0, 0, 0)), (.iastore, (0, 0, 0, 0))], (.nop, (0, 0, 0, 0)), [4]),
  (35, [(.aload_n 0, (0, 0, 0, 0)), (.getfield 17, (12, 10, 1, 0)), (.iload_n 1, (0, 0, 0, 0)), (.dup2, (0, 0, 0, 0)), (.iaload, (0, 0, 0, 0)), (.iconst 1, (0, 0, 0, 0)), (.iadd, (0, 0, 0, 0)), (.iastore, (0, 0, 0, 0)), (.iconst 1, (0, 0, 0, 0))], (.ireturn, (1, 0, 0, 0)), [])]
/-- 22: TwinVaultsModel.acts(II)Z -/
def bt_X12_acts : List bi_K := [(0, [(.iconst 1, (0, 0, 0, 0)), (.istore_n 3, (0, 0, 0, 0)), (.iconst 0, (0, 0, 0, 0)), (.istore 4, (0, 0, 0, 0))], (.nop, (0, 0, 0, 0)), [1]),
  (5, [(.iload 4, (0, 0, 0, 0)), (.iload_n 2, (0, 0, 0, 0))], (.if_icmp .ge 19, (0, 0, 0, 0)), [4, 2]),
  (11, [(.iload_n 3, (0, 0, 0, 0))], (.ifCond .eq 15, (0, 0, 0, 0)), [4, 3]),
  (15, [(.aload_n 0, (0, 0, 0, 0)), (.iload_n 1, (0, 0, 0, 0)), (.invokevirtual 178, (21, 1, 12, 0)), (.istore_n 3, (0, 0, 0, 0)), (.iinc 4 1, (0, 0, 0, 0))], (.goto (-19), (0, 0, 0, 0)), [1]),
  (27, [(.iload_n 3, (0, 0, 0, 0))], (.ireturn, (1, 0, 0, 0)), [])]
/-- 23: TwinVaultsModel.after(II)I -/
def bt_X12_after : List bi_K := [(0, [(.iload_n 0, (0, 0, 0, 0)), (.iconst 1, (0, 0, 0, 0)), (.iadd, (0, 0, 0, 0)), (.istore_n 2, (0, 0, 0, 0))], (.nop, (0, 0, 0, 0)), [1]),
  (4, [(.iload_n 2, (0, 0, 0, 0)), (.iconst 4, (0, 0, 0, 0)), (.irem, (0, 0, 0, 0)), (.iload_n 1, (0, 0, 0, 0))], (.if_icmp .eq 9, (0, 0, 0, 0)), [3, 2]),
  (11, [(.iinc 2 1, (0, 0, 0, 0))], (.goto (-10), (0, 0, 0, 0)), [1]),
  (17, [(.iload_n 2, (0, 0, 0, 0))], (.ireturn, (0, 0, 0, 0)), [])]
/-- 24: TwinVaultsModel.against(LTwinVaultsModel$Store;II)I -/
def bt_X12_against : List bi_K := [(0, [(.aload_n 1, (0, 0, 0, 0))], (.ifnonnull 6, (0, 0, 0, 0)), [2, 1]),
  (4, [(.bipush (-2), (0, 0, 0, 0))], (.ireturn, (0, 0, 0, 0)), []),
  (7, [(.aload_n 0, (0, 0, 0, 0)), (.getfield 13, (12, 9, 1, 0)), (.aload_n 1, (0, 0, 0, 0)), (.getfield 131, (11, 1, 0, 0)), (.baload, (0, 0, 0, 0))], (.ifCond .ne 6, (0, 0, 0, 0)), [4, 3]),
  (19, [(.bipush (-3), (0, 0, 0, 0))], (.ireturn, (0, 0, 0, 0)), []),
  (22, [(.aload_n 1, (0, 0, 0, 0)), (.getfield 305, (11, 2, 0, 0)), (.iload_n 2, (0, 0, 0, 0))], (.if_icmp .eq 16, (0, 0, 0, 0)), [7, 5]),
  (30, [(.aload_n 1, (0, 0, 0, 0)), (.getfield 305, (11, 2, 0, 0)), (.iload_n 3, (0, 0, 0, 0))], (.if_icmp .eq 8, (0, 0, 0, 0)), [7, 6]),
  (38, [(.bipush (-4), (0, 0, 0, 0))], (.goto 4, (0, 0, 0, 0)), [8]),
  (43, [(.iconst 0, (0, 0, 0, 0))], (.nop, (0, 0, 0, 0)), [8]),
  (44, [], (.ireturn, (0, 0, 0, 0)), [])]
/-- 25: TwinVaultsModel.back(I)I -/
def bt_X12_back : List bi_K := [(0, [(.aload_n 0, (0, 0, 0, 0)), (.iconst 0, (0, 0, 0, 0)), (.putfield 1, (12, 0, 0, 0)), (.aload_n 0, (0, 0, 0, 0)), (.iload_n 1, (0, 0, 0, 0)), (.invokevirtual 407, (62, 1, 12, 0)), (.astore_n 2, (0, 0, 0, 0)), (.aload_n 0, (0, 0, 0, 0)), (.aload_n 2, (0, 0, 0, 0)), (.iconst 3, (0, 0, 0, 0)), (.iconst 3, (0, 0, 0, 0)), (.invokevirtual 429, (24, 3, 12, 0)), (.istore_n 3, (0, 0, 0, 0)), (.iload_n 3, (0, 0, 0, 0))], (.ifCond .ge 5, (0, 0, 0, 0)), [2, 1]),
  (23, [(.iload_n 3, (0, 0, 0, 0))], (.ireturn, (0, 0, 0, 0)), []),
  (25, [(.aload_n 2, (0, 0, 0, 0)), (.iconst 1, (0, 0, 0, 0)), (.putfield 341, (11, 21, 2, 0)), (.aload_n 2, (0, 0, 0, 0)), (.iconst 0, (0, 0, 0, 0)), (.putfield 280, (11, 20, 0, 0)), (.aload_n 0, (0, 0, 0, 0)), (.aload_n 2, (0, 0, 0, 0)), (.bipush 10, (0, 0, 0, 0)), (.iconst 0, (0, 0, 0, 0)), (.iconst 0, (0, 0, 0, 0)), (.iconst 0, (0, 0, 0, 0)), (.iconst 0, (0, 0, 0, 0)), (.invokevirtual 287, (74, 6, 12, 0)), (.iconst 0, (0, 0, 0, 0))], (.ireturn, (0, 0, 0, 0)), [])]
/-- 26: TwinVaultsModel.begins(LTwinVaultsModel$Store;I)V -/
def bt_X12_begins : List bi_K := [(0, [(.aload_n 1, (0, 0, 0, 0)), (.iload_n 2, (0, 0, 0, 0)), (.putfield 201, (11, 3, 0, 0)), (.aload_n 1, (0, 0, 0, 0)), (.iconst 1, (0, 0, 0, 0)), (.putfield 198, (11, 13, 0, 0)), (.aload_n 1, (0, 0, 0, 0)), (.sipush 4096, (0, 0, 0, 0)), (.iload_n 2, (0, 0, 0, 0)), (.imul, (0, 0, 0, 0)), (.iconst 1, (0, 0, 0, 0)), (.iadd, (0, 0, 0, 0)), (.aload_n 1, (0, 0, 0, 0)), (.getfield 144, (11, 4, 0, 0)), (.invokevirtual 204, (16, 2, 11, 0)), (.aload_n 0, (0, 0, 0, 0)), (.aload_n 1, (0, 0, 0, 0)), (.getfield 134, (11, 0, 0, 0)), (.aload_n 1, (0, 0, 0, 0)), (.invokevirtual 208, (14, 0, 11, 0)), (.aload_n 1, (0, 0, 0, 0)), (.getfield 144, (11, 4, 0, 0)), (.invokevirtual 212, (52, 3, 12, 0))], (.return_, (0, 0, 0, 0)), [])]
/-- 27: TwinVaultsModel.checkpoint(I)I -/
def bt_X12_checkpoint : List bi_K := [(0, [(.aload_n 0, (0, 0, 0, 0)), (.iconst 0, (0, 0, 0, 0)), (.putfield 1, (12, 0, 0, 0)), (.aload_n 0, (0, 0, 0, 0)), (.iload_n 1, (0, 0, 0, 0)), (.invokevirtual 407, (62, 1, 12, 0)), (.astore_n 2, (0, 0, 0, 0)), (.aload_n 2, (0, 0, 0, 0))], (.ifnonnull 6, (0, 0, 0, 0)), [2, 1]),
  (15, [(.bipush (-2), (0, 0, 0, 0))], (.ireturn, (0, 0, 0, 0)), []),
  (18, [(.aload_n 0, (0, 0, 0, 0)), (.getfield 13, (12, 9, 1, 0)), (.aload_n 2, (0, 0, 0, 0)), (.getfield 131, (11, 1, 0, 0)), (.baload, (0, 0, 0, 0))], (.ifCond .eq 11, (0, 0, 0, 0)), [4, 3]),
  (30, [(.aload_n 0, (0, 0, 0, 0)), (.aload_n 2, (0, 0, 0, 0)), (.invokevirtual 182, (28, 1, 12, 0))], (.goto 4, (0, 0, 0, 0)), [5]),
  (38, [(.iconst (-1), (0, 0, 0, 0))], (.nop, (0, 0, 0, 0)), [5]),
  (39, [(.istore_n 3, (0, 0, 0, 0)), (.iload_n 3, (0, 0, 0, 0))], (.ifCond .ge 8, (0, 0, 0, 0)), [7, 6]),
  (44, [(.bipush (-3), (0, 0, 0, 0))], (.goto 4, (0, 0, 0, 0)), [8]),
  (49, [(.iload_n 3, (0, 0, 0, 0))], (.nop, (0, 0, 0, 0)), [8]),
  (50, [], (.ireturn, (0, 0, 0, 0)), [])]
/-- 28: TwinVaultsModel.checks(LTwinVaultsModel$Store;)I -/
def bt_X12_checks : List bi_K := [(0, [(.aload_n 1, (0, 0, 0, 0)), (.getfield 144, (11, 4, 0, 0)), (.aload_n 1, (0, 0, 0, 0)), (.getfield 159, (11, 6, 0, 0))], (.if_icmp .ne 5, (0, 0, 0, 0)), [2, 1]),
  (11, [(.iconst 0, (0, 0, 0, 0))], (.ireturn, (0, 0, 0, 0)), []),
  (13, [(.aload_n 0, (0, 0, 0, 0)), (.aload_n 1, (0, 0, 0, 0)), (.getfield 134, (11, 0, 0, 0)), (.aload_n 1, (0, 0, 0, 0)), (.getfield 159, (11, 6, 0, 0)), (.aload_n 1, (0, 0, 0, 0)), (.getfield 144, (11, 4, 0, 0)), (.invokevirtual 191, (61, 3, 12, 0)), (.iconst 1, (0, 0, 0, 0)), (.iadd, (0, 0, 0, 0)), (.istore_n 2, (0, 0, 0, 0)), (.aload_n 0, (0, 0, 0, 0)), (.aload_n 1, (0, 0, 0, 0)), (.getfield 131, (11, 1, 0, 0)), (.iload_n 2, (0, 0, 0, 0)), (.invokevirtual 195, (22, 2, 12, 0))], (.ifCond .ne 5, (0, 0, 0, 0)), [4, 3]),
  (44, [(.iconst (-1), (0, 0, 0, 0))], (.ireturn, (0, 0, 0, 0)), []),
  (46, [(.aload_n 1, (0, 0, 0, 0)), (.aload_n 1, (0, 0, 0, 0)), (.getfield 144, (11, 4, 0, 0)), (.putfield 185, (11, 5, 0, 0)), (.aload_n 1, (0, 0, 0, 0)), (.aload_n 1, (0, 0, 0, 0)), (.getfield 144, (11, 4, 0, 0)), (.putfield 159, (11, 6, 0, 0)), (.aload_n 1, (0, 0, 0, 0)), (.iconst 0, (0, 0, 0, 0)), (.putfield 147, (11, 33, 2, 0)), (.iload_n 2, (0, 0, 0, 0))], (.ireturn, (0, 0, 0, 0)), [])]
/-- 29: TwinVaultsModel.copies(LTwinVaultsModel$Store;)V -/
def bt_X12_copies : List bi_K := [(0, [(.aload_n 1, (0, 0, 0, 0)), (.getfield 271, (11, 9, 0, 0))], (.ifCond .ne 50, (0, 0, 0, 0)), [5, 1]),
  (7, [(.aload_n 1, (0, 0, 0, 0)), (.invokevirtual 208, (14, 0, 11, 0)), (.aload_n 1, (0, 0, 0, 0)), (.getfield 335, (11, 8, 0, 0))], (.if_icmp .eq 39, (0, 0, 0, 0)), [5, 2]),
  (18, [(.aload_n 0, (0, 0, 0, 0)), (.aload_n 1, (0, 0, 0, 0)), (.getfield 131, (11, 1, 0, 0)), (.invokevirtual 178, (21, 1, 12, 0))], (.ifCond .ne 4, (0, 0, 0, 0)), [4, 3]),
  (29, [], (.return_, (0, 0, 0, 0)), []),
  (30, [(.aload_n 1, (0, 0, 0, 0)), (.aload_n 1, (0, 0, 0, 0)), (.invokevirtual 208, (14, 0, 11, 0)), (.putfield 271, (11, 9, 0, 0)), (.aload_n 1, (0, 0, 0, 0)), (.aload_n 1, (0, 0, 0, 0)), (.getfield 335, (11, 8, 0, 0)), (.putfield 265, (11, 16, 0, 0)), (.aload_n 0, (0, 0, 0, 0)), (.aload_n 1, (0, 0, 0, 0)), (.invokevirtual 394, (64, 1, 12, 0))], (.goto 154, (0, 0, 0, 0)), [19]),
  (54, [(.aload_n 1, (0, 0, 0, 0)), (.getfield 271, (11, 9, 0, 0))], (.ifCond .eq 30, (0, 0, 0, 0)), [8, 6]),
  (61, [(.aload_n 1, (0, 0, 0, 0)), (.dup, (0, 0, 0, 0)), (.getfield 280, (11, 20, 0, 0)), (.iconst 1, (0, 0, 0, 0)), (.iadd, (0, 0, 0, 0)), (.putfield 280, (11, 20, 0, 0)), (.aload_n 1, (0, 0, 0, 0)), (.getfield 280, (11, 20, 0, 0)), (.bipush 8, (0, 0, 0, 0))], (.if_icmp .lt 128, (0, 0, 0, 0)), [19, 7]),
  (80, [(.aload_n 0, (0, 0, 0, 0)), (.aload_n 1, (0, 0, 0, 0)), (.invokevirtual 394, (64, 1, 12, 0))], (.goto 120, (0, 0, 0, 0)), [19]),
  (88, [(.aload_n 1, (0, 0, 0, 0)), (.getfield 305, (11, 2, 0, 0)), (.iconst 2, (0, 0, 0, 0))], (.if_icmp .ne 112, (0, 0, 0, 0)), [19, 9]),
  (96, [(.aload_n 1, (0, 0, 0, 0)), (.getfield 351, (11, 12, 0, 0))], (.ifCond .ne 63, (0, 0, 0, 0)), [16, 10]),
  (103, [(.aload_n 0, (0, 0, 0, 0)), (.aload_n 1, (0, 0, 0, 0)), (.getfield 131, (11, 1, 0, 0)), (.invokevirtual 178, (21, 1, 12, 0))], (.ifCond .ne 4, (0, 0, 0, 0)), [12, 11]),
  (114, [], (.return_, (0, 0, 0, 0)), []),
  (115, [(.aload_n 1, (0, 0, 0, 0)), (.aload_n 1, (0, 0, 0, 0)), (.getfield 201, (11, 3, 0, 0)), (.aload_n 1, (0, 0, 0, 0)), (.getfield 131, (11, 1, 0, 0))], (.ifCond .ne 7, (0, 0, 0, 0)), [14, 13]),
  (127, [(.iconst 2, (0, 0, 0, 0))], (.goto 4, (0, 0, 0, 0)), [15]),
  (131, [(.iconst 1, (0, 0, 0, 0))], (.nop, (0, 0, 0, 0)), [15]),
  (132, [(.invokestatic 439, (23, 2, 0, 0)), (.putfield 351, (11, 12, 0, 0)), (.aload_n 1, (0, 0, 0, 0)), (.iconst 0, (0, 0, 0, 0)), (.putfield 280, (11, 20, 0, 0)), (.aload_n 0, (0, 0, 0, 0)), (.aload_n 1, (0, 0, 0, 0)), (.bipush 8, (0, 0, 0, 0)), (.iconst 0, (0, 0, 0, 0)), (.aload_n 1, (0, 0, 0, 0)), (.invokevirtual 208, (14, 0, 11, 0)), (.aload_n 1, (0, 0, 0, 0)), (.getfield 351, (11, 12, 0, 0)), (.iconst 0, (0, 0, 0, 0)), (.invokevirtual 287, (74, 6, 12, 0))], (.goto 45, (0, 0, 0, 0)), [19]),
  (163, [(.aload_n 1, (0, 0, 0, 0)), (.dup, (0, 0, 0, 0)), (.getfield 280, (11, 20, 0, 0)), (.iconst 1, (0, 0, 0, 0)), (.iadd, (0, 0, 0, 0)), (.putfield 280, (11, 20, 0, 0)), (.aload_n 1, (0, 0, 0, 0)), (.getfield 280, (11, 20, 0, 0)), (.bipush 8, (0, 0, 0, 0))], (.if_icmp .ge 4, (0, 0, 0, 0)), [18, 17]),
  (182, [], (.return_, (0, 0, 0, 0)), []),
  (183, [(.aload_n 1, (0, 0, 0, 0)), (.iconst 0, (0, 0, 0, 0)), (.putfield 280, (11, 20, 0, 0)), (.aload_n 0, (0, 0, 0, 0)), (.aload_n 1, (0, 0, 0, 0)), (.bipush 8, (0, 0, 0, 0)), (.iconst 0, (0, 0, 0, 0)), (.aload_n 1, (0, 0, 0, 0)), (.invokevirtual 208, (14, 0, 11, 0)), (.aload_n 1, (0, 0, 0, 0)), (.getfield 351, (11, 12, 0, 0)), (.iconst 0, (0, 0, 0, 0)), (.invokevirtual 287, (74, 6, 12, 0))], (.nop, (0, 0, 0, 0)), [19]),
  (205, [], (.return_, (0, 0, 0, 0)), [])]
/-- 30: TwinVaultsModel.crash(I)Z -/
def bt_X12_crash : List bi_K := [(0, [(.aload_n 0, (0, 0, 0, 0)), (.iconst 0, (0, 0, 0, 0)), (.putfield 1, (12, 0, 0, 0)), (.iload_n 1, (0, 0, 0, 0)), (.invokestatic 454, (51, 1, 0, 0))], (.ifCond .eq 12, (0, 0, 0, 0)), [2, 1]),
  (12, [(.aload_n 0, (0, 0, 0, 0)), (.getfield 13, (12, 9, 1, 0)), (.iload_n 1, (0, 0, 0, 0)), (.baload, (0, 0, 0, 0))], (.ifCond .ne 5, (0, 0, 0, 0)), [3, 2]),
  (21, [(.iconst 0, (0, 0, 0, 0))], (.ireturn, (1, 0, 0, 0)), []),
  (23, [(.aload_n 0, (0, 0, 0, 0)), (.iload_n 1, (0, 0, 0, 0)), (.invokevirtual 174, (45, 1, 12, 0)), (.iconst 1, (0, 0, 0, 0))], (.ireturn, (1, 0, 0, 0)), [])]
/-- 31: TwinVaultsModel.cut(II)I -/
def bt_X12_cut : List bi_K := [(0, [(.iload_n 1, (0, 0, 0, 0)), (.istore_n 3, (0, 0, 0, 0))], (.nop, (0, 0, 0, 0)), [1]),
  (2, [(.aload_n 0, (0, 0, 0, 0)), (.getfield 40, (12, 18, 1, 0)), (.iload_n 3, (0, 0, 0, 0)), (.iaload, (0, 0, 0, 0)), (.iload_n 2, (0, 0, 0, 0))], (.if_icmp .le 13, (0, 0, 0, 0)), [3, 2]),
  (12, [(.aload_n 0, (0, 0, 0, 0)), (.getfield 31, (12, 15, 1, 0)), (.iload_n 3, (0, 0, 0, 0)), (.iaload, (0, 0, 0, 0)), (.istore_n 3, (0, 0, 0, 0))], (.goto (-17), (0, 0, 0, 0)), [1]),
  (22, [(.iload_n 3, (0, 0, 0, 0))], (.ireturn, (0, 0, 0, 0)), [])]
/-- 32: TwinVaultsModel.data(LTwinVaultsModel$Store;LTwinVaultsModel$Message;)V -/
def bt_X12_data : List bi_K := [(0, [(.aload_n 2, (0, 0, 0, 0)), (.getfield 243, (10, 5, 0, 0)), (.aload_n 1, (0, 0, 0, 0)), (.getfield 382, (11, 26, 0, 0))], (.if_icmp .lt 10, (0, 0, 0, 0)), [2, 1]),
  (11, [(.aload_n 1, (0, 0, 0, 0)), (.invokevirtual 378, (11, 0, 11, 0))], (.ifCond .eq 25, (0, 0, 0, 0)), [3, 2]),
  (18, [(.aload_n 0, (0, 0, 0, 0)), (.aload_n 1, (0, 0, 0, 0)), (.iconst 4, (0, 0, 0, 0)), (.aload_n 1, (0, 0, 0, 0)), (.getfield 366, (11, 23, 0, 0)), (.aload_n 1, (0, 0, 0, 0)), (.getfield 369, (11, 24, 0, 0)), (.aload_n 1, (0, 0, 0, 0)), (.getfield 382, (11, 26, 0, 0)), (.iconst 0, (0, 0, 0, 0)), (.invokevirtual 287, (74, 6, 12, 0))], (.goto 81, (0, 0, 0, 0)), [9]),
  (40, [(.aload_n 2, (0, 0, 0, 0)), (.getfield 243, (10, 5, 0, 0)), (.aload_n 1, (0, 0, 0, 0)), (.getfield 382, (11, 26, 0, 0))], (.if_icmp .ne 70, (0, 0, 0, 0)), [9, 4]),
  (51, [(.aload_n 0, (0, 0, 0, 0)), (.aload_n 1, (0, 0, 0, 0)), (.getfield 131, (11, 1, 0, 0)), (.invokevirtual 385, (42, 1, 12, 0)), (.aload_n 2, (0, 0, 0, 0)), (.getfield 228, (10, 7, 0, 0))], (.if_icmp .ge 14, (0, 0, 0, 0)), [6, 5]),
  (66, [(.aload_n 1, (0, 0, 0, 0)), (.dup, (0, 0, 0, 0)), (.getfield 388, (11, 28, 0, 0)), (.iconst 1, (0, 0, 0, 0)), (.iadd, (0, 0, 0, 0)), (.putfield 388, (11, 28, 0, 0))], (.return_, (0, 0, 0, 0)), []),
  (77, [(.aload_n 0, (0, 0, 0, 0)), (.aload_n 1, (0, 0, 0, 0)), (.getfield 131, (11, 1, 0, 0)), (.invokevirtual 178, (21, 1, 12, 0))], (.ifCond .ne 4, (0, 0, 0, 0)), [8, 7]),
  (88, [], (.return_, (0, 0, 0, 0)), []),
  (89, [(.aload_n 1, (0, 0, 0, 0)), (.dup, (0, 0, 0, 0)), (.getfield 382, (11, 26, 0, 0)), (.iconst 1, (0, 0, 0, 0)), (.iadd, (0, 0, 0, 0)), (.putfield 382, (11, 26, 0, 0)), (.aload_n 1, (0, 0, 0, 0)), (.dup, (0, 0, 0, 0)), (.getfield 153, (11, 27, 0, 0)), (.aload_n 2, (0, 0, 0, 0)), (.getfield 228, (10, 7, 0, 0)), (.iadd, (0, 0, 0, 0)), (.putfield 153, (11, 27, 0, 0)), (.aload_n 0, (0, 0, 0, 0)), (.aload_n 1, (0, 0, 0, 0)), (.iconst 4, (0, 0, 0, 0)), (.invokevirtual 375, (80, 2, 12, 0))], (.nop, (0, 0, 0, 0)), [9]),
  (118, [], (.return_, (0, 0, 0, 0)), [])]
/-- 33: TwinVaultsModel.differ(III)I -/
def bt_X12_differ : List bi_K := [(0, [(.aload_n 0, (0, 0, 0, 0)), (.iconst 0, (0, 0, 0, 0)), (.putfield 1, (12, 0, 0, 0)), (.aload_n 0, (0, 0, 0, 0)), (.iload_n 1, (0, 0, 0, 0)), (.invokevirtual 407, (62, 1, 12, 0)), (.astore 4, (0, 0, 0, 0)), (.aload 4, (0, 0, 0, 0))], (.ifnull 21, (0, 0, 0, 0)), [4, 1]),
  (17, [(.iload_n 2, (0, 0, 0, 0))], (.ifCond .lt 17, (0, 0, 0, 0)), [4, 2]),
  (21, [(.iload_n 2, (0, 0, 0, 0)), (.iload_n 3, (0, 0, 0, 0))], (.if_icmp .gt 12, (0, 0, 0, 0)), [4, 3]),
  (26, [(.iload_n 3, (0, 0, 0, 0)), (.aload 4, (0, 0, 0, 0)), (.getfield 156, (11, 7, 0, 0))], (.if_icmp .lt 9, (0, 0, 0, 0)), [5, 4]),
  (35, [(.aload_n 0, (0, 0, 0, 0)), (.iconst 1, (0, 0, 0, 0)), (.invokevirtual 465, (35, 1, 12, 0))], (.ireturn, (0, 0, 0, 0)), []),
  (41, [(.aload_n 0, (0, 0, 0, 0)), (.getfield 13, (12, 9, 1, 0)), (.aload 4, (0, 0, 0, 0)), (.getfield 131, (11, 1, 0, 0)), (.baload, (0, 0, 0, 0))], (.ifCond .ne 9, (0, 0, 0, 0)), [7, 6]),
  (54, [(.aload_n 0, (0, 0, 0, 0)), (.iconst 2, (0, 0, 0, 0)), (.invokevirtual 465, (35, 1, 12, 0))], (.ireturn, (0, 0, 0, 0)), []),
  (60, [(.aload_n 0, (0, 0, 0, 0)), (.aload 4, (0, 0, 0, 0)), (.getfield 134, (11, 0, 0, 0)), (.aload 4, (0, 0, 0, 0)), (.getfield 162, (11, 15, 1, 0)), (.iload_n 2, (0, 0, 0, 0)), (.iaload, (0, 0, 0, 0)), (.aload 4, (0, 0, 0, 0)), (.getfield 162, (11, 15, 1, 0)), (.iload_n 3, (0, 0, 0, 0)), (.iaload, (0, 0, 0, 0)), (.invokevirtual 468, (34, 3, 12, 0))], (.ireturn, (0, 0, 0, 0)), [])]
/-- 34: TwinVaultsModel.different(III)I -/
def bt_X12_different : List bi_K := [(0, [(.aload_n 0, (0, 0, 0, 0)), (.dup, (0, 0, 0, 0)), (.getfield 122, (12, 24, 0, 0)), (.iconst 1, (0, 0, 0, 0)), (.iadd, (0, 0, 0, 0)), (.putfield 122, (12, 24, 0, 0)), (.iconst 0, (0, 0, 0, 0)), (.istore 4, (0, 0, 0, 0)), (.iload_n 3, (0, 0, 0, 0)), (.istore 5, (0, 0, 0, 0))], (.nop, (0, 0, 0, 0)), [1]),
  (16, [(.iload 5, (0, 0, 0, 0)), (.iload_n 2, (0, 0, 0, 0))], (.if_icmp .eq 53, (0, 0, 0, 0)), [5, 2]),
  (22, [(.aload_n 0, (0, 0, 0, 0)), (.getfield 44, (12, 19, 1, 0)), (.aload_n 0, (0, 0, 0, 0)), (.getfield 34, (12, 16, 1, 0)), (.iload 5, (0, 0, 0, 0)), (.iaload, (0, 0, 0, 0)), (.iaload, (0, 0, 0, 0)), (.aload_n 0, (0, 0, 0, 0)), (.getfield 122, (12, 24, 0, 0))], (.if_icmp .eq 6, (0, 0, 0, 0)), [4, 3]),
  (41, [(.iinc 4 1, (0, 0, 0, 0))], (.nop, (0, 0, 0, 0)), [4]),
  (44, [(.aload_n 0, (0, 0, 0, 0)), (.getfield 44, (12, 19, 1, 0)), (.aload_n 0, (0, 0, 0, 0)), (.getfield 34, (12, 16, 1, 0)), (.iload 5, (0, 0, 0, 0)), (.iaload, (0, 0, 0, 0)), (.aload_n 0, (0, 0, 0, 0)), (.getfield 122, (12, 24, 0, 0)), (.iastore, (0, 0, 0, 0)), (.aload_n 0, (0, 0, 0, 0)), (.getfield 31, (12, 15, 1, 0)), (.iload 5, (0, 0, 0, 0)), (.iaload, (0, 0, 0, 0)), (.istore 5, (0, 0, 0, 0))], (.goto (-53), (0, 0, 0, 0)), [1]),
  (72, [(.iload 4, (0, 0, 0, 0))], (.ireturn, (0, 0, 0, 0)), [])]
/-- 35: TwinVaultsModel.fails(I)I -/
def bt_X12_fails : List bi_K := [(0, [(.aload_n 0, (0, 0, 0, 0)), (.iload_n 1, (0, 0, 0, 0)), (.putfield 1, (12, 0, 0, 0)), (.iconst 0, (0, 0, 0, 0))], (.ireturn, (0, 0, 0, 0)), [])]
/-- 36: TwinVaultsModel.fill(IIIII)I -/
def bt_X12_fill : List bi_K := [(0, [(.aload_n 0, (0, 0, 0, 0)), (.iconst 0, (0, 0, 0, 0)), (.putfield 1, (12, 0, 0, 0)), (.aload_n 0, (0, 0, 0, 0)), (.iload_n 1, (0, 0, 0, 0)), (.invokevirtual 407, (62, 1, 12, 0)), (.astore 6, (0, 0, 0, 0)), (.aload_n 0, (0, 0, 0, 0)), (.aload 6, (0, 0, 0, 0)), (.iload_n 2, (0, 0, 0, 0)), (.iload_n 3, (0, 0, 0, 0)), (.invokevirtual 411, (50, 3, 12, 0))], (.ifCond .eq 34, (0, 0, 0, 0)), [4, 1]),
  (23, [(.iload 4, (0, 0, 0, 0)), (.iconst 1, (0, 0, 0, 0))], (.if_icmp .lt 28, (0, 0, 0, 0)), [4, 2]),
  (29, [(.iload 4, (0, 0, 0, 0)), (.sipush 4096, (0, 0, 0, 0))], (.if_icmp .gt 20, (0, 0, 0, 0)), [4, 3]),
  (37, [(.iload_n 3, (0, 0, 0, 0)), (.iload 4, (0, 0, 0, 0)), (.iadd, (0, 0, 0, 0)), (.aload_n 0, (0, 0, 0, 0)), (.getfield 27, (12, 13, 1, 0)), (.aload 6, (0, 0, 0, 0)), (.getfield 134, (11, 0, 0, 0)), (.iaload, (0, 0, 0, 0))], (.if_icmp .le 6, (0, 0, 0, 0)), [5, 4]),
  (54, [(.bipush (-2), (0, 0, 0, 0))], (.ireturn, (0, 0, 0, 0)), []),
  (57, [(.iconst 0, (0, 0, 0, 0)), (.istore 7, (0, 0, 0, 0))], (.nop, (0, 0, 0, 0)), [6]),
  (60, [(.iload 7, (0, 0, 0, 0)), (.iload 4, (0, 0, 0, 0))], (.if_icmp .ge 45, (0, 0, 0, 0)), [13, 7]),
  (67, [(.aload_n 0, (0, 0, 0, 0)), (.aload 6, (0, 0, 0, 0)), (.iload_n 2, (0, 0, 0, 0)), (.iload_n 3, (0, 0, 0, 0)), (.iload 7, (0, 0, 0, 0)), (.iadd, (0, 0, 0, 0)), (.iload 5, (0, 0, 0, 0)), (.iload 7, (0, 0, 0, 0)), (.iadd, (0, 0, 0, 0)), (.invokevirtual 415, (92, 4, 12, 0)), (.istore 8, (0, 0, 0, 0)), (.iload 8, (0, 0, 0, 0))], (.ifCond .ge 16, (0, 0, 0, 0)), [12, 8]),
  (90, [(.iload 7, (0, 0, 0, 0))], (.ifCond .ne 8, (0, 0, 0, 0)), [10, 9]),
  (95, [(.iload 8, (0, 0, 0, 0))], (.goto 5, (0, 0, 0, 0)), [11]),
  (100, [(.iload 7, (0, 0, 0, 0))], (.nop, (0, 0, 0, 0)), [11]),
  (102, [], (.ireturn, (0, 0, 0, 0)), []),
  (103, [(.iinc 7 1, (0, 0, 0, 0))], (.goto (-46), (0, 0, 0, 0)), [6]),
  (109, [(.iload 4, (0, 0, 0, 0))], (.ireturn, (0, 0, 0, 0)), [])]
/-- 37: TwinVaultsModel.flies(I)LTwinVaultsModel$Message; -/
def bt_X12_flies : List bi_K := [(0, [(.iload_n 1, (0, 0, 0, 0))], (.ifCond .lt 11, (0, 0, 0, 0)), [2, 1]),
  (4, [(.iload_n 1, (0, 0, 0, 0)), (.aload_n 0, (0, 0, 0, 0)), (.getfield 222, (12, 37, 0, 0))], (.if_icmp .lt 7, (0, 0, 0, 0)), [3, 2]),
  (12, [(.aconst_null, (0, 0, 0, 0))], (.goto 9, (0, 0, 0, 0)), [4]),
  (16, [(.aload_n 0, (0, 0, 0, 0)), (.getfield 93, (12, 35, 1, 0)), (.iload_n 1, (0, 0, 0, 0)), (.aaload, (0, 0, 0, 0))], (.nop, (0, 0, 0, 0)), [4]),
  (22, [], (.areturn, (0, 0, 0, 0)), [])]
/-- 38: TwinVaultsModel.flush(I)I -/
def bt_X12_flush : List bi_K := [(0, [(.aload_n 0, (0, 0, 0, 0)), (.iconst 0, (0, 0, 0, 0)), (.putfield 1, (12, 0, 0, 0)), (.aload_n 0, (0, 0, 0, 0)), (.iload_n 1, (0, 0, 0, 0)), (.invokevirtual 407, (62, 1, 12, 0)), (.astore_n 2, (0, 0, 0, 0)), (.aload_n 2, (0, 0, 0, 0))], (.ifnonnull 6, (0, 0, 0, 0)), [2, 1]),
  (15, [(.bipush (-2), (0, 0, 0, 0))], (.ireturn, (0, 0, 0, 0)), []),
  (18, [(.aload_n 0, (0, 0, 0, 0)), (.getfield 13, (12, 9, 1, 0)), (.aload_n 2, (0, 0, 0, 0)), (.getfield 131, (11, 1, 0, 0)), (.baload, (0, 0, 0, 0))], (.ifCond .eq 33, (0, 0, 0, 0)), [5, 3]),
  (30, [(.aload_n 0, (0, 0, 0, 0)), (.aload_n 2, (0, 0, 0, 0)), (.invokevirtual 422, (39, 1, 12, 0))], (.ifCond .eq 25, (0, 0, 0, 0)), [5, 4]),
  (38, [(.aload_n 0, (0, 0, 0, 0)), (.getfield 40, (12, 18, 1, 0)), (.aload_n 2, (0, 0, 0, 0)), (.getfield 185, (11, 5, 0, 0)), (.iaload, (0, 0, 0, 0)), (.aload_n 0, (0, 0, 0, 0)), (.getfield 40, (12, 18, 1, 0)), (.aload_n 2, (0, 0, 0, 0)), (.getfield 159, (11, 6, 0, 0)), (.iaload, (0, 0, 0, 0)), (.isub, (0, 0, 0, 0))], (.goto 5, (0, 0, 0, 0)), [6]),
  (60, [(.bipush (-3), (0, 0, 0, 0))], (.nop, (0, 0, 0, 0)), [6]),
  (62, [], (.ireturn, (0, 0, 0, 0)), [])]
/-- 39: TwinVaultsModel.flushes(LTwinVaultsModel$Store;)Z -/
def bt_X12_flushes : List bi_K := [(0, [(.aload_n 0, (0, 0, 0, 0)), (.getfield 40, (12, 18, 1, 0)), (.aload_n 1, (0, 0, 0, 0)), (.getfield 144, (11, 4, 0, 0)), (.iaload, (0, 0, 0, 0)), (.aload_n 0, (0, 0, 0, 0)), (.getfield 40, (12, 18, 1, 0)), (.aload_n 1, (0, 0, 0, 0)), (.getfield 159, (11, 6, 0, 0)), (.iaload, (0, 0, 0, 0)), (.isub, (0, 0, 0, 0)), (.sipush 512, (0, 0, 0, 0))], (.if_icmp .le 17, (0, 0, 0, 0)), [5, 1]),
  (25, [(.aload_n 0, (0, 0, 0, 0)), (.aload_n 1, (0, 0, 0, 0)), (.invokevirtual 182, (28, 1, 12, 0))], (.ifCond .lt 7, (0, 0, 0, 0)), [3, 2]),
  (33, [(.iconst 1, (0, 0, 0, 0))], (.goto 4, (0, 0, 0, 0)), [4]),
  (37, [(.iconst 0, (0, 0, 0, 0))], (.nop, (0, 0, 0, 0)), [4]),
  (38, [], (.ireturn, (1, 0, 0, 0)), []),
  (39, [(.aload_n 1, (0, 0, 0, 0)), (.getfield 185, (11, 5, 0, 0)), (.aload_n 1, (0, 0, 0, 0)), (.getfield 144, (11, 4, 0, 0))], (.if_icmp .eq 55, (0, 0, 0, 0)), [9, 6]),
  (50, [(.aload_n 0, (0, 0, 0, 0)), (.aload_n 1, (0, 0, 0, 0)), (.getfield 131, (11, 1, 0, 0)), (.invokevirtual 178, (21, 1, 12, 0))], (.ifCond .ne 5, (0, 0, 0, 0)), [8, 7]),
  (61, [(.iconst 0, (0, 0, 0, 0))], (.ireturn, (1, 0, 0, 0)), []),
  (63, [(.aload_n 1, (0, 0, 0, 0)), (.aload_n 0, (0, 0, 0, 0)), (.aload_n 1, (0, 0, 0, 0)), (.getfield 144, (11, 4, 0, 0)), (.aload_n 0, (0, 0, 0, 0)), (.getfield 40, (12, 18, 1, 0)), (.aload_n 1, (0, 0, 0, 0)), (.getfield 144, (11, 4, 0, 0)), (.iaload, (0, 0, 0, 0)), (.aload_n 0, (0, 0, 0, 0)), (.getfield 40, (12, 18, 1, 0)), (.aload_n 1, (0, 0, 0, 0)), (.getfield 185, (11, 5, 0, 0)), (.iaload, (0, 0, 0, 0)), (.bipush 8, (0, 0, 0, 0)), (.iadd, (0, 0, 0, 0)), (.invokestatic 100, (3, 2, 0, 0)), (.invokevirtual 188, (31, 2, 12, 0)), (.putfield 185, (11, 5, 0, 0))], (.goto (-60), (0, 0, 0, 0)), [5]),
  (102, [(.iconst 1, (0, 0, 0, 0))], (.ireturn, (1, 0, 0, 0)), [])]
/-- 40: TwinVaultsModel.follows(LTwinVaultsModel$Store;I)Z -/
def bt_X12_follows : List bi_K := [(0, [(.aload_n 0, (0, 0, 0, 0)), (.aload_n 1, (0, 0, 0, 0)), (.getfield 131, (11, 1, 0, 0)), (.invokevirtual 178, (21, 1, 12, 0))], (.ifCond .ne 5, (0, 0, 0, 0)), [2, 1]),
  (11, [(.iconst 0, (0, 0, 0, 0))], (.ireturn, (1, 0, 0, 0)), []),
  (13, [(.aload_n 1, (0, 0, 0, 0)), (.iload_n 2, (0, 0, 0, 0)), (.putfield 201, (11, 3, 0, 0)), (.aload_n 1, (0, 0, 0, 0)), (.iconst 0, (0, 0, 0, 0)), (.putfield 198, (11, 13, 0, 0)), (.aload_n 1, (0, 0, 0, 0)), (.getfield 305, (11, 2, 0, 0)), (.iconst 1, (0, 0, 0, 0))], (.if_icmp .ne 8, (0, 0, 0, 0)), [4, 3]),
  (31, [(.aload_n 1, (0, 0, 0, 0)), (.iconst 3, (0, 0, 0, 0)), (.putfield 305, (11, 2, 0, 0))], (.nop, (0, 0, 0, 0)), [4]),
  (36, [(.aload_n 1, (0, 0, 0, 0)), (.getfield 305, (11, 2, 0, 0)), (.iconst 2, (0, 0, 0, 0))], (.if_icmp .ne 57, (0, 0, 0, 0)), [11, 5]),
  (44, [(.aload_n 1, (0, 0, 0, 0)), (.aload_n 1, (0, 0, 0, 0)), (.getfield 351, (11, 12, 0, 0)), (.iload_n 2, (0, 0, 0, 0))], (.if_icmp .ne 7, (0, 0, 0, 0)), [7, 6]),
  (53, [(.iconst 0, (0, 0, 0, 0))], (.goto 4, (0, 0, 0, 0)), [8]),
  (57, [(.iconst 3, (0, 0, 0, 0))], (.nop, (0, 0, 0, 0)), [8]),
  (58, [(.putfield 305, (11, 2, 0, 0)), (.aload_n 1, (0, 0, 0, 0)), (.getfield 305, (11, 2, 0, 0))], (.ifCond .ne 28, (0, 0, 0, 0)), [10, 9]),
  (68, [(.aload_n 1, (0, 0, 0, 0)), (.iconst 0, (0, 0, 0, 0)), (.putfield 271, (11, 9, 0, 0)), (.aload_n 1, (0, 0, 0, 0)), (.iconst 0, (0, 0, 0, 0)), (.putfield 335, (11, 8, 0, 0)), (.aload_n 1, (0, 0, 0, 0)), (.iconst 0, (0, 0, 0, 0)), (.putfield 265, (11, 16, 0, 0)), (.aload_n 1, (0, 0, 0, 0)), (.iconst 0, (0, 0, 0, 0)), (.putfield 354, (11, 10, 0, 0)), (.aload_n 1, (0, 0, 0, 0)), (.iconst 0, (0, 0, 0, 0)), (.putfield 357, (11, 11, 0, 0))], (.nop, (0, 0, 0, 0)), [10]),
  (93, [(.aload_n 1, (0, 0, 0, 0)), (.iconst 0, (0, 0, 0, 0)), (.putfield 351, (11, 12, 0, 0))], (.nop, (0, 0, 0, 0)), [11]),
  (98, [(.aload_n 1, (0, 0, 0, 0)), (.iconst 0, (0, 0, 0, 0)), (.putfield 277, (11, 17, 0, 0)), (.aload_n 1, (0, 0, 0, 0)), (.invokevirtual 360, (17, 0, 11, 0)), (.iconst 1, (0, 0, 0, 0))], (.ireturn, (1, 0, 0, 0)), [])]
/-- 41: TwinVaultsModel.force(I)I -/
def bt_X12_force : List bi_K := [(0, [(.aload_n 0, (0, 0, 0, 0)), (.iconst 0, (0, 0, 0, 0)), (.putfield 1, (12, 0, 0, 0)), (.aload_n 0, (0, 0, 0, 0)), (.iload_n 1, (0, 0, 0, 0)), (.invokevirtual 407, (62, 1, 12, 0)), (.astore_n 2, (0, 0, 0, 0)), (.aload_n 0, (0, 0, 0, 0)), (.aload_n 2, (0, 0, 0, 0)), (.iconst 0, (0, 0, 0, 0)), (.iconst 3, (0, 0, 0, 0)), (.invokevirtual 429, (24, 3, 12, 0)), (.istore_n 3, (0, 0, 0, 0)), (.iload_n 3, (0, 0, 0, 0))], (.ifCond .ge 5, (0, 0, 0, 0)), [2, 1]),
  (23, [(.iload_n 3, (0, 0, 0, 0))], (.ireturn, (0, 0, 0, 0)), []),
  (25, [(.aload_n 2, (0, 0, 0, 0)), (.getfield 305, (11, 2, 0, 0)), (.iconst 3, (0, 0, 0, 0))], (.if_icmp .ne 11, (0, 0, 0, 0)), [4, 3]),
  (33, [(.aload_n 0, (0, 0, 0, 0)), (.aload_n 2, (0, 0, 0, 0)), (.invokevirtual 182, (28, 1, 12, 0))], (.ifCond .lt 14, (0, 0, 0, 0)), [5, 4]),
  (41, [(.aload_n 0, (0, 0, 0, 0)), (.aload_n 2, (0, 0, 0, 0)), (.getfield 131, (11, 1, 0, 0)), (.invokevirtual 178, (21, 1, 12, 0))], (.ifCond .ne 6, (0, 0, 0, 0)), [6, 5]),
  (52, [(.bipush (-3), (0, 0, 0, 0))], (.ireturn, (0, 0, 0, 0)), []),
  (55, [(.aload_n 2, (0, 0, 0, 0)), (.getfield 305, (11, 2, 0, 0))], (.ifCond .ne 19, (0, 0, 0, 0)), [8, 7]),
  (62, [(.aload_n 2, (0, 0, 0, 0)), (.aload_n 2, (0, 0, 0, 0)), (.invokevirtual 208, (14, 0, 11, 0)), (.putfield 354, (11, 10, 0, 0)), (.aload_n 2, (0, 0, 0, 0)), (.iconst 0, (0, 0, 0, 0)), (.putfield 357, (11, 11, 0, 0))], (.goto 33, (0, 0, 0, 0)), [11]),
  (78, [(.aload_n 2, (0, 0, 0, 0)), (.getfield 354, (11, 10, 0, 0))], (.ifCond .ne 26, (0, 0, 0, 0)), [11, 9]),
  (85, [(.aload_n 2, (0, 0, 0, 0)), (.getfield 357, (11, 11, 0, 0))], (.ifCond .ne 19, (0, 0, 0, 0)), [11, 10]),
  (92, [(.aload_n 2, (0, 0, 0, 0)), (.aload_n 2, (0, 0, 0, 0)), (.getfield 335, (11, 8, 0, 0)), (.putfield 354, (11, 10, 0, 0)), (.aload_n 2, (0, 0, 0, 0)), (.aload_n 2, (0, 0, 0, 0)), (.getfield 271, (11, 9, 0, 0)), (.putfield 357, (11, 11, 0, 0))], (.nop, (0, 0, 0, 0)), [11]),
  (108, [(.aload_n 2, (0, 0, 0, 0)), (.iconst 1, (0, 0, 0, 0)), (.putfield 305, (11, 2, 0, 0)), (.aload_n 2, (0, 0, 0, 0)), (.iconst 0, (0, 0, 0, 0)), (.putfield 335, (11, 8, 0, 0)), (.aload_n 2, (0, 0, 0, 0)), (.iconst 0, (0, 0, 0, 0)), (.putfield 271, (11, 9, 0, 0)), (.aload_n 2, (0, 0, 0, 0)), (.iconst 0, (0, 0, 0, 0)), (.putfield 265, (11, 16, 0, 0)), (.aload_n 2, (0, 0, 0, 0)), (.iconst 0, (0, 0, 0, 0)), (.putfield 277, (11, 17, 0, 0)), (.aload_n 2, (0, 0, 0, 0)), (.iconst 0, (0, 0, 0, 0)), (.putfield 280, (11, 20, 0, 0)), (.aload_n 2, (0, 0, 0, 0)), (.iconst 0, (0, 0, 0, 0)), (.putfield 341, (11, 21, 2, 0)), (.aload_n 2, (0, 0, 0, 0)), (.invokevirtual 360, (17, 0, 11, 0)), (.aload_n 0, (0, 0, 0, 0)), (.aload_n 2, (0, 0, 0, 0)), (.aload_n 2, (0, 0, 0, 0)), (.getfield 201, (11, 3, 0, 0)), (.aload_n 2, (0, 0, 0, 0)), (.getfield 131, (11, 1, 0, 0))], (.ifCond .ne 7, (0, 0, 0, 0)), [13, 12]),
  (160, [(.iconst 3, (0, 0, 0, 0))], (.goto 4, (0, 0, 0, 0)), [14]),
  (164, [(.iconst 0, (0, 0, 0, 0))], (.nop, (0, 0, 0, 0)), [14]),
  (165, [(.invokestatic 439, (23, 2, 0, 0)), (.invokevirtual 397, (26, 2, 12, 0)), (.aload_n 2, (0, 0, 0, 0)), (.aload_n 0, (0, 0, 0, 0)), (.getfield 112, (12, 2, 0, 0)), (.invokevirtual 216, (18, 1, 11, 0)), (.aload_n 2, (0, 0, 0, 0)), (.getfield 201, (11, 3, 0, 0))], (.ireturn, (0, 0, 0, 0)), [])]
/-- 42: TwinVaultsModel.free(I)I -/
def bt_X12_free : List bi_K := [(0, [(.aload_n 0, (0, 0, 0, 0)), (.getfield 109, (12, 1, 0, 0)), (.istore_n 2, (0, 0, 0, 0)), (.iconst 0, (0, 0, 0, 0)), (.istore_n 3, (0, 0, 0, 0))], (.nop, (0, 0, 0, 0)), [1]),
  (7, [(.iload_n 3, (0, 0, 0, 0)), (.aload_n 0, (0, 0, 0, 0)), (.getfield 168, (12, 6, 0, 0))], (.if_icmp .ge 26, (0, 0, 0, 0)), [3, 2]),
  (15, [(.iload_n 2, (0, 0, 0, 0)), (.aload_n 0, (0, 0, 0, 0)), (.aload_n 0, (0, 0, 0, 0)), (.getfield 87, (12, 34, 1, 0)), (.iconst 4, (0, 0, 0, 0)), (.iload_n 1, (0, 0, 0, 0)), (.imul, (0, 0, 0, 0)), (.iload_n 3, (0, 0, 0, 0)), (.iadd, (0, 0, 0, 0)), (.aaload, (0, 0, 0, 0)), (.invokevirtual 171, (60, 1, 12, 0)), (.isub, (0, 0, 0, 0)), (.istore_n 2, (0, 0, 0, 0)), (.iinc 3 1, (0, 0, 0, 0))], (.goto (-28), (0, 0, 0, 0)), [1]),
  (38, [(.iload_n 2, (0, 0, 0, 0))], (.ireturn, (0, 0, 0, 0)), [])]
/-- 43: TwinVaultsModel.given(LTwinVaultsModel$Store;LTwinVaultsModel$Message;)V -/
def bt_X12_given : List bi_K := [(0, [(.aload_n 0, (0, 0, 0, 0)), (.aload_n 1, (0, 0, 0, 0)), (.getfield 131, (11, 1, 0, 0)), (.invokevirtual 178, (21, 1, 12, 0))], (.ifCond .ne 4, (0, 0, 0, 0)), [2, 1]),
  (11, [], (.return_, (0, 0, 0, 0)), []),
  (12, [(.aload_n 1, (0, 0, 0, 0)), (.iconst 1, (0, 0, 0, 0)), (.putfield 305, (11, 2, 0, 0)), (.aload_n 1, (0, 0, 0, 0)), (.aload_n 2, (0, 0, 0, 0)), (.getfield 240, (10, 4, 0, 0)), (.putfield 335, (11, 8, 0, 0)), (.aload_n 1, (0, 0, 0, 0)), (.aload_n 2, (0, 0, 0, 0)), (.getfield 240, (10, 4, 0, 0)), (.putfield 265, (11, 16, 0, 0)), (.aload_n 1, (0, 0, 0, 0)), (.iconst 0, (0, 0, 0, 0)), (.putfield 271, (11, 9, 0, 0)), (.aload_n 1, (0, 0, 0, 0)), (.iconst 0, (0, 0, 0, 0)), (.putfield 354, (11, 10, 0, 0)), (.aload_n 1, (0, 0, 0, 0)), (.iconst 0, (0, 0, 0, 0)), (.putfield 357, (11, 11, 0, 0)), (.aload_n 0, (0, 0, 0, 0)), (.aload_n 1, (0, 0, 0, 0)), (.aload_n 2, (0, 0, 0, 0)), (.getfield 243, (10, 5, 0, 0)), (.invokevirtual 397, (26, 2, 12, 0)), (.aload_n 1, (0, 0, 0, 0)), (.invokevirtual 360, (17, 0, 11, 0)), (.aload_n 1, (0, 0, 0, 0)), (.aload_n 0, (0, 0, 0, 0)), (.getfield 112, (12, 2, 0, 0)), (.invokevirtual 216, (18, 1, 11, 0)), (.aload_n 0, (0, 0, 0, 0)), (.aload_n 1, (0, 0, 0, 0)), (.bipush 9, (0, 0, 0, 0)), (.iconst 0, (0, 0, 0, 0)), (.iconst 0, (0, 0, 0, 0)), (.iconst 0, (0, 0, 0, 0)), (.iconst 0, (0, 0, 0, 0)), (.invokevirtual 287, (74, 6, 12, 0))], (.return_, (0, 0, 0, 0)), [])]
/-- 44: TwinVaultsModel.goesBack(LTwinVaultsModel$Store;I)V -/
def bt_X12_goesBack : List bi_K := [(0, [(.aload_n 0, (0, 0, 0, 0)), (.aload_n 1, (0, 0, 0, 0)), (.getfield 131, (11, 1, 0, 0)), (.invokevirtual 178, (21, 1, 12, 0))], (.ifCond .ne 4, (0, 0, 0, 0)), [2, 1]),
  (11, [], (.return_, (0, 0, 0, 0)), []),
  (12, [(.iload_n 2, (0, 0, 0, 0))], (.ifCond .ne 7, (0, 0, 0, 0)), [4, 3]),
  (16, [(.iconst 0, (0, 0, 0, 0))], (.goto 13, (0, 0, 0, 0)), [5]),
  (20, [(.aload_n 1, (0, 0, 0, 0)), (.getfield 162, (11, 15, 1, 0)), (.aload_n 1, (0, 0, 0, 0)), (.iload_n 2, (0, 0, 0, 0)), (.invokevirtual 344, (10, 1, 11, 0)), (.iaload, (0, 0, 0, 0))], (.nop, (0, 0, 0, 0)), [5]),
  (30, [(.istore_n 3, (0, 0, 0, 0)), (.aload_n 0, (0, 0, 0, 0)), (.aload_n 1, (0, 0, 0, 0)), (.getfield 134, (11, 0, 0, 0)), (.iload_n 3, (0, 0, 0, 0)), (.aload_n 1, (0, 0, 0, 0)), (.getfield 144, (11, 4, 0, 0)), (.invokevirtual 274, (78, 3, 12, 0)), (.aload_n 1, (0, 0, 0, 0)), (.aload_n 0, (0, 0, 0, 0)), (.getfield 128, (12, 28, 0, 0)), (.newarray .int, (0, 0, 0, 0)), (.putfield 400, (11, 29, 1, 0)), (.aload_n 1, (0, 0, 0, 0)), (.aload_n 0, (0, 0, 0, 0)), (.getfield 128, (12, 28, 0, 0)), (.newarray .int, (0, 0, 0, 0)), (.putfield 403, (11, 30, 1, 0)), (.iconst 0, (0, 0, 0, 0)), (.istore 4, (0, 0, 0, 0))], (.nop, (0, 0, 0, 0)), [6]),
  (67, [(.iload 4, (0, 0, 0, 0)), (.aload_n 0, (0, 0, 0, 0)), (.getfield 128, (12, 28, 0, 0))], (.if_icmp .ge 37, (0, 0, 0, 0)), [8, 7]),
  (76, [(.aload_n 1, (0, 0, 0, 0)), (.getfield 400, (11, 29, 1, 0)), (.iload 4, (0, 0, 0, 0)), (.aload_n 0, (0, 0, 0, 0)), (.getfield 68, (12, 29, 1, 0)), (.iload 4, (0, 0, 0, 0)), (.iaload, (0, 0, 0, 0)), (.iastore, (0, 0, 0, 0)), (.aload_n 1, (0, 0, 0, 0)), (.getfield 403, (11, 30, 1, 0)), (.iload 4, (0, 0, 0, 0)), (.aload_n 0, (0, 0, 0, 0)), (.getfield 71, (12, 30, 1, 0)), (.iload 4, (0, 0, 0, 0)), (.iaload, (0, 0, 0, 0)), (.iastore, (0, 0, 0, 0)), (.iinc 4 1, (0, 0, 0, 0))], (.goto (-40), (0, 0, 0, 0)), [6]),
  (110, [(.aload_n 1, (0, 0, 0, 0)), (.iload_n 3, (0, 0, 0, 0)), (.putfield 144, (11, 4, 0, 0)), (.aload_n 1, (0, 0, 0, 0)), (.iload_n 3, (0, 0, 0, 0)), (.putfield 185, (11, 5, 0, 0)), (.aload_n 1, (0, 0, 0, 0)), (.iload_n 3, (0, 0, 0, 0)), (.putfield 159, (11, 6, 0, 0)), (.aload_n 1, (0, 0, 0, 0)), (.iconst 0, (0, 0, 0, 0)), (.putfield 137, (11, 32, 2, 0)), (.aload_n 1, (0, 0, 0, 0)), (.iconst 0, (0, 0, 0, 0)), (.putfield 147, (11, 33, 2, 0))], (.nop, (0, 0, 0, 0)), [9]),
  (135, [(.aload_n 1, (0, 0, 0, 0)), (.getfield 156, (11, 7, 0, 0))], (.ifCond .le 31, (0, 0, 0, 0)), [12, 10]),
  (142, [(.aload_n 1, (0, 0, 0, 0)), (.getfield 256, (11, 14, 1, 0)), (.aload_n 1, (0, 0, 0, 0)), (.getfield 156, (11, 7, 0, 0)), (.iconst 1, (0, 0, 0, 0)), (.isub, (0, 0, 0, 0)), (.iaload, (0, 0, 0, 0)), (.iload_n 2, (0, 0, 0, 0))], (.if_icmp .le 16, (0, 0, 0, 0)), [12, 11]),
  (157, [(.aload_n 1, (0, 0, 0, 0)), (.dup, (0, 0, 0, 0)), (.getfield 156, (11, 7, 0, 0)), (.iconst 1, (0, 0, 0, 0)), (.isub, (0, 0, 0, 0)), (.putfield 156, (11, 7, 0, 0))], (.goto (-32), (0, 0, 0, 0)), [9]),
  (170, [(.aload_n 1, (0, 0, 0, 0)), (.iconst 0, (0, 0, 0, 0)), (.putfield 305, (11, 2, 0, 0)), (.aload_n 1, (0, 0, 0, 0)), (.iconst 0, (0, 0, 0, 0)), (.putfield 335, (11, 8, 0, 0)), (.aload_n 1, (0, 0, 0, 0)), (.iconst 0, (0, 0, 0, 0)), (.putfield 271, (11, 9, 0, 0)), (.aload_n 1, (0, 0, 0, 0)), (.iconst 0, (0, 0, 0, 0)), (.putfield 265, (11, 16, 0, 0)), (.aload_n 1, (0, 0, 0, 0)), (.iconst 0, (0, 0, 0, 0)), (.putfield 354, (11, 10, 0, 0)), (.aload_n 1, (0, 0, 0, 0)), (.iconst 0, (0, 0, 0, 0)), (.putfield 357, (11, 11, 0, 0)), (.aload_n 1, (0, 0, 0, 0)), (.iconst 0, (0, 0, 0, 0)), (.putfield 341, (11, 21, 2, 0)), (.aload_n 1, (0, 0, 0, 0)), (.aload_n 0, (0, 0, 0, 0)), (.getfield 112, (12, 2, 0, 0)), (.invokevirtual 216, (18, 1, 11, 0))], (.return_, (0, 0, 0, 0)), [])]
/-- 45: TwinVaultsModel.goesDown(I)V -/
def bt_X12_goesDown : List bi_K := [(0, [(.aload_n 0, (0, 0, 0, 0)), (.getfield 13, (12, 9, 1, 0)), (.iload_n 1, (0, 0, 0, 0)), (.iconst 0, (0, 0, 0, 0)), (.bastore, (0, 0, 0, 0)), (.aload_n 0, (0, 0, 0, 0)), (.getfield 21, (12, 11, 1, 0)), (.iload_n 1, (0, 0, 0, 0)), (.iconst (-1), (0, 0, 0, 0)), (.iastore, (0, 0, 0, 0))], (.return_, (0, 0, 0, 0)), [])]
/-- 46: TwinVaultsModel.greeted(LTwinVaultsModel$Store;LTwinVaultsModel$Message;)V -/
def bt_X12_greeted : List bi_K := [(0, [(.iconst 0, (0, 0, 0, 0)), (.istore_n 3, (0, 0, 0, 0)), (.iconst 0, (0, 0, 0, 0)), (.istore 4, (0, 0, 0, 0))], (.nop, (0, 0, 0, 0)), [1]),
  (5, [(.iload 4, (0, 0, 0, 0)), (.aload_n 2, (0, 0, 0, 0)), (.getfield 228, (10, 7, 0, 0))], (.if_icmp .ge 35, (0, 0, 0, 0)), [6, 2]),
  (14, [(.iload_n 3, (0, 0, 0, 0))], (.ifCond .ne 31, (0, 0, 0, 0)), [6, 3]),
  (18, [(.aload_n 1, (0, 0, 0, 0)), (.aload_n 2, (0, 0, 0, 0)), (.getfield 253, (10, 8, 1, 0)), (.iload 4, (0, 0, 0, 0)), (.iaload, (0, 0, 0, 0)), (.invokevirtual 344, (10, 1, 11, 0))], (.ifCond .lt 11, (0, 0, 0, 0)), [5, 4]),
  (32, [(.aload_n 2, (0, 0, 0, 0)), (.getfield 253, (10, 8, 1, 0)), (.iload 4, (0, 0, 0, 0)), (.iaload, (0, 0, 0, 0)), (.istore_n 3, (0, 0, 0, 0))], (.nop, (0, 0, 0, 0)), [5]),
  (40, [(.iinc 4 1, (0, 0, 0, 0))], (.goto (-38), (0, 0, 0, 0)), [1]),
  (46, [(.aload_n 0, (0, 0, 0, 0)), (.aload_n 1, (0, 0, 0, 0)), (.getfield 131, (11, 1, 0, 0)), (.invokevirtual 178, (21, 1, 12, 0))], (.ifCond .ne 4, (0, 0, 0, 0)), [8, 7]),
  (57, [], (.return_, (0, 0, 0, 0)), []),
  (58, [(.aload_n 1, (0, 0, 0, 0)), (.iload_n 3, (0, 0, 0, 0)), (.putfield 335, (11, 8, 0, 0)), (.aload_n 1, (0, 0, 0, 0)), (.iconst 0, (0, 0, 0, 0)), (.putfield 354, (11, 10, 0, 0)), (.aload_n 1, (0, 0, 0, 0)), (.iconst 0, (0, 0, 0, 0)), (.putfield 357, (11, 11, 0, 0)), (.aload_n 1, (0, 0, 0, 0)), (.getfield 271, (11, 9, 0, 0)), (.iload_n 3, (0, 0, 0, 0))], (.if_icmp .ne 8, (0, 0, 0, 0)), [10, 9]),
  (81, [(.aload_n 1, (0, 0, 0, 0)), (.iconst 0, (0, 0, 0, 0)), (.putfield 271, (11, 9, 0, 0))], (.nop, (0, 0, 0, 0)), [10]),
  (86, [(.aload_n 1, (0, 0, 0, 0)), (.iload_n 3, (0, 0, 0, 0)), (.putfield 265, (11, 16, 0, 0)), (.aload_n 1, (0, 0, 0, 0)), (.iconst 0, (0, 0, 0, 0)), (.putfield 277, (11, 17, 0, 0)), (.aload_n 1, (0, 0, 0, 0)), (.iconst 0, (0, 0, 0, 0)), (.putfield 280, (11, 20, 0, 0)), (.aload_n 1, (0, 0, 0, 0)), (.aload_n 0, (0, 0, 0, 0)), (.getfield 112, (12, 2, 0, 0)), (.invokevirtual 216, (18, 1, 11, 0)), (.aload_n 0, (0, 0, 0, 0)), (.aload_n 1, (0, 0, 0, 0)), (.bipush 11, (0, 0, 0, 0)), (.iconst 0, (0, 0, 0, 0)), (.iload_n 3, (0, 0, 0, 0)), (.iconst 0, (0, 0, 0, 0)), (.iconst 0, (0, 0, 0, 0)), (.invokevirtual 287, (74, 6, 12, 0))], (.return_, (0, 0, 0, 0)), [])]
/-- 47: TwinVaultsModel.group(II)I -/
def bt_X12_group : List bi_K := [(0, [(.aload_n 0, (0, 0, 0, 0)), (.iconst 0, (0, 0, 0, 0)), (.putfield 1, (12, 0, 0, 0)), (.iload_n 1, (0, 0, 0, 0)), (.iconst 1, (0, 0, 0, 0))], (.if_icmp .lt 21, (0, 0, 0, 0)), [4, 1]),
  (10, [(.iload_n 1, (0, 0, 0, 0)), (.bipush 8, (0, 0, 0, 0))], (.if_icmp .gt 15, (0, 0, 0, 0)), [4, 2]),
  (16, [(.iload_n 2, (0, 0, 0, 0)), (.iconst 1, (0, 0, 0, 0))], (.if_icmp .lt 10, (0, 0, 0, 0)), [4, 3]),
  (21, [(.iload_n 2, (0, 0, 0, 0)), (.sipush 4096, (0, 0, 0, 0))], (.if_icmp .le 6, (0, 0, 0, 0)), [5, 4]),
  (28, [(.bipush (-2), (0, 0, 0, 0))], (.ireturn, (0, 0, 0, 0)), []),
  (31, [(.aload_n 0, (0, 0, 0, 0)), (.getfield 168, (12, 6, 0, 0)), (.iconst 4, (0, 0, 0, 0))], (.if_icmp .ne 5, (0, 0, 0, 0)), [7, 6]),
  (39, [(.iconst (-1), (0, 0, 0, 0))], (.ireturn, (0, 0, 0, 0)), []),
  (41, [(.aload_n 0, (0, 0, 0, 0)), (.getfield 24, (12, 12, 1, 0)), (.aload_n 0, (0, 0, 0, 0)), (.getfield 168, (12, 6, 0, 0)), (.iload_n 1, (0, 0, 0, 0)), (.iastore, (0, 0, 0, 0)), (.aload_n 0, (0, 0, 0, 0)), (.getfield 27, (12, 13, 1, 0)), (.aload_n 0, (0, 0, 0, 0)), (.getfield 168, (12, 6, 0, 0)), (.iload_n 2, (0, 0, 0, 0)), (.iastore, (0, 0, 0, 0)), (.iconst 0, (0, 0, 0, 0)), (.istore_n 3, (0, 0, 0, 0))], (.nop, (0, 0, 0, 0)), [8]),
  (63, [(.iload_n 3, (0, 0, 0, 0)), (.iconst 2, (0, 0, 0, 0))], (.if_icmp .ge 72, (0, 0, 0, 0)), [13, 9]),
  (68, [(.new 85, (11, 35, 0, 0)), (.dup, (0, 0, 0, 0)), (.invokespecial 406, (12, 0, 11, 0)), (.astore 4, (0, 0, 0, 0)), (.aload 4, (0, 0, 0, 0)), (.aload_n 0, (0, 0, 0, 0)), (.getfield 168, (12, 6, 0, 0)), (.putfield 134, (11, 0, 0, 0)), (.aload 4, (0, 0, 0, 0)), (.iload_n 3, (0, 0, 0, 0)), (.putfield 131, (11, 1, 0, 0)), (.aload 4, (0, 0, 0, 0)), (.iload_n 3, (0, 0, 0, 0))], (.ifCond .ne 7, (0, 0, 0, 0)), [11, 10]),
  (98, [(.iconst 1, (0, 0, 0, 0))], (.goto 4, (0, 0, 0, 0)), [12]),
  (102, [(.iconst 0, (0, 0, 0, 0))], (.nop, (0, 0, 0, 0)), [12]),
  (103, [(.putfield 305, (11, 2, 0, 0)), (.aload 4, (0, 0, 0, 0)), (.iload_n 1, (0, 0, 0, 0)), (.iload_n 2, (0, 0, 0, 0)), (.imul, (0, 0, 0, 0)), (.newarray .int, (0, 0, 0, 0)), (.putfield 141, (11, 31, 1, 0)), (.aload_n 0, (0, 0, 0, 0)), (.getfield 87, (12, 34, 1, 0)), (.iconst 4, (0, 0, 0, 0)), (.iload_n 3, (0, 0, 0, 0)), (.imul, (0, 0, 0, 0)), (.aload_n 0, (0, 0, 0, 0)), (.getfield 168, (12, 6, 0, 0)), (.iadd, (0, 0, 0, 0)), (.aload 4, (0, 0, 0, 0)), (.aastore, (0, 0, 0, 0)), (.iinc 3 1, (0, 0, 0, 0))], (.goto (-71), (0, 0, 0, 0)), [8]),
  (137, [(.aload_n 0, (0, 0, 0, 0)), (.dup, (0, 0, 0, 0)), (.getfield 168, (12, 6, 0, 0)), (.iconst 1, (0, 0, 0, 0)), (.iadd, (0, 0, 0, 0)), (.putfield 168, (12, 6, 0, 0)), (.aload_n 0, (0, 0, 0, 0)), (.getfield 168, (12, 6, 0, 0)), (.iconst 1, (0, 0, 0, 0)), (.isub, (0, 0, 0, 0))], (.ireturn, (0, 0, 0, 0)), [])]
/-- 48: TwinVaultsModel.had(LTwinVaultsModel$Store;)V -/
def bt_X12_had : List bi_K := [(0, [(.aload_n 0, (0, 0, 0, 0)), (.aload_n 1, (0, 0, 0, 0)), (.getfield 131, (11, 1, 0, 0)), (.invokevirtual 178, (21, 1, 12, 0))], (.ifCond .ne 4, (0, 0, 0, 0)), [2, 1]),
  (11, [], (.return_, (0, 0, 0, 0)), []),
  (12, [(.aload_n 1, (0, 0, 0, 0)), (.aload_n 1, (0, 0, 0, 0)), (.getfield 271, (11, 9, 0, 0)), (.putfield 335, (11, 8, 0, 0)), (.aload_n 1, (0, 0, 0, 0)), (.aload_n 1, (0, 0, 0, 0)), (.getfield 271, (11, 9, 0, 0)), (.putfield 265, (11, 16, 0, 0)), (.aload_n 1, (0, 0, 0, 0)), (.iconst 0, (0, 0, 0, 0)), (.putfield 271, (11, 9, 0, 0)), (.aload_n 1, (0, 0, 0, 0)), (.iconst 0, (0, 0, 0, 0)), (.putfield 277, (11, 17, 0, 0)), (.aload_n 1, (0, 0, 0, 0)), (.iconst 0, (0, 0, 0, 0)), (.putfield 280, (11, 20, 0, 0)), (.aload_n 1, (0, 0, 0, 0)), (.aload_n 0, (0, 0, 0, 0)), (.getfield 112, (12, 2, 0, 0)), (.invokevirtual 216, (18, 1, 11, 0))], (.return_, (0, 0, 0, 0)), [])]
/-- 49: TwinVaultsModel.<init>(III)V -/
def bt_X12_init : List bi_K := [(0, [(.aload_n 0, (0, 0, 0, 0)), (.invokespecial 7, (9999, 0, 0, 0)), (.aload_n 0, (0, 0, 0, 0)), (.iconst 2, (0, 0, 0, 0)), (.newarray .boolean, (0, 0, 0, 0)), (.dup, (0, 0, 0, 0)), (.iconst 0, (0, 0, 0, 0)), (.iconst 1, (0, 0, 0, 0)), (.bastore, (0, 0, 0, 0)), (.dup, (0, 0, 0, 0)), (.iconst 1, (0, 0, 0, 0)), (.iconst 1, (0, 0, 0, 0)), (.bastore, (0, 0, 0, 0)), (.putfield 13, (12, 9, 1, 0)), (.aload_n 0, (0, 0, 0, 0)), (.iconst 2, (0, 0, 0, 0)), (.newarray .int, (0, 0, 0, 0)), (.putfield 17, (12, 10, 1, 0)), (.aload_n 0, (0, 0, 0, 0)), (.iconst 2, (0, 0, 0, 0)), (.newarray .int, (0, 0, 0, 0)), (.dup, (0, 0, 0, 0)), (.iconst 0, (0, 0, 0, 0)), (.iconst (-1), (0, 0, 0, 0)), (.iastore, (0, 0, 0, 0)), (.dup, (0, 0, 0, 0)), (.iconst 1, (0, 0, 0, 0)), (.iconst (-1), (0, 0, 0, 0)), (.iastore, (0, 0, 0, 0)), (.putfield 21, (12, 11, 1, 0)), (.aload_n 0, (0, 0, 0, 0)), (.iconst 4, (0, 0, 0, 0)), (.newarray .int, (0, 0, 0, 0)), (.putfield 24, (12, 12, 1, 0)), (.aload_n 0, (0, 0, 0, 0)), (.iconst 4, (0, 0, 0, 0)), (.newarray .int, (0, 0, 0, 0)), (.putfield 27, (12, 13, 1, 0)), (.aload_n 0, (0, 0, 0, 0)), (.ldc 30, (60001, 0, 0, 0)), (.newarray .int, (0, 0, 0, 0)), (.putfield 31, (12, 15, 1, 0)), (.aload_n 0, (0, 0, 0, 0)), (.ldc 30, (60001, 0, 0, 0)), (.newarray .int, (0, 0, 0, 0)), (.putfield 34, (12, 16, 1, 0)), (.aload_n 0, (0, 0, 0, 0)), (.ldc 30, (60001, 0, 0, 0)), (.newarray .int, (0, 0, 0, 0)), (.putfield 37, (12, 17, 1, 0)), (.aload_n 0, (0, 0, 0, 0)), (.ldc 30, (60001, 0, 0, 0)), (.newarray .int, (0, 0, 0, 0)), (.putfield 40, (12, 18, 1, 0)), (.aload_n 0, (0, 0, 0, 0)), (.ldc 43, (32768, 0, 0, 0)), (.newarray .int, (0, 0, 0, 0)), (.putfield 44, (12, 19, 1, 0)), (.aload_n 0, (0, 0, 0, 0)), (.ldc 43, (32768, 0, 0, 0)), (.newarray .int, (0, 0, 0, 0)), (.putfield 47, (12, 20, 1, 0)), (.aload_n 0, (0, 0, 0, 0)), (.sipush 2048, (0, 0, 0, 0)), (.newarray .int, (0, 0, 0, 0)), (.putfield 50, (12, 21, 1, 0)), (.aload_n 0, (0, 0, 0, 0)), (.sipush 128, (0, 0, 0, 0)), (.newarray .int, (0, 0, 0, 0)), (.putfield 53, (12, 22, 1, 0)), (.aload_n 0, (0, 0, 0, 0)), (.bipush 8, (0, 0, 0, 0)), (.newarray .int, (0, 0, 0, 0)), (.putfield 56, (12, 23, 1, 0)), (.aload_n 0, (0, 0, 0, 0)), (.iconst (-1), (0, 0, 0, 0)), (.putfield 59, (12, 25, 0, 0)), (.aload_n 0, (0, 0, 0, 0)), (.iconst (-1), (0, 0, 0, 0)), (.putfield 62, (12, 26, 0, 0)), (.aload_n 0, (0, 0, 0, 0)), (.iconst (-1), (0, 0, 0, 0)), (.putfield 65, (12, 27, 0, 0)), (.aload_n 0, (0, 0, 0, 0)), (.ldc 43, (32768, 0, 0, 0)), (.newarray .int, (0, 0, 0, 0)), (.putfield 68, (12, 29, 1, 0)), (.aload_n 0, (0, 0, 0, 0)), (.ldc 43, (32768, 0, 0, 0)), (.newarray .int, (0, 0, 0, 0)), (.putfield 71, (12, 30, 1, 0)), (.aload_n 0, (0, 0, 0, 0)), (.iconst 4, (0, 0, 0, 0)), (.sipush 9000, (0, 0, 0, 0)), (.multianewarray 74 2, (0, 0, 0, 0)), (.putfield 76, (12, 31, 1, 0)), (.aload_n 0, (0, 0, 0, 0)), (.iconst 4, (0, 0, 0, 0)), (.sipush 9000, (0, 0, 0, 0)), (.multianewarray 74 2, (0, 0, 0, 0)), (.putfield 79, (12, 32, 1, 0)), (.aload_n 0, (0, 0, 0, 0)), (.iconst 4, (0, 0, 0, 0)), (.newarray .int, (0, 0, 0, 0)), (.putfield 82, (12, 33, 1, 0)), (.aload_n 0, (0, 0, 0, 0)), (.bipush 8, (0, 0, 0, 0)), (.anewarray 85, (11, 0, 0, 0)), (.putfield 87, (12, 34, 1, 0)), (.aload_n 0, (0, 0, 0, 0)), (.bipush 60, (0, 0, 0, 0)), (.anewarray 91, (10, 0, 0, 0)), (.putfield 93, (12, 35, 1, 0)), (.aload_n 0, (0, 0, 0, 0)), (.bipush 61, (0, 0, 0, 0)), (.anewarray 91, (10, 0, 0, 0)), (.putfield 97, (12, 36, 1, 0)), (.aload_n 0, (0, 0, 0, 0)), (.bipush 16, (0, 0, 0, 0)), (.sipush 8192, (0, 0, 0, 0)), (.iload_n 1, (0, 0, 0, 0)), (.invokestatic 100, (3, 2, 0, 0)), (.invokestatic 106, (2, 2, 0, 0)), (.putfield 109, (12, 1, 0, 0)), (.aload_n 0, (0, 0, 0, 0)), (.iconst 2, (0, 0, 0, 0)), (.bipush 8, (0, 0, 0, 0)), (.iload_n 2, (0, 0, 0, 0)), (.invokestatic 100, (3, 2, 0, 0)), (.invokestatic 106, (2, 2, 0, 0)), (.putfield 112, (12, 2, 0, 0)), (.aload_n 0, (0, 0, 0, 0)), (.iconst 1, (0, 0, 0, 0)), (.bipush 8, (0, 0, 0, 0)), (.iload_n 3, (0, 0, 0, 0)), (.invokestatic 100, (3, 2, 0, 0)), (.invokestatic 106, (2, 2, 0, 0)), (.putfield 115, (12, 3, 0, 0)), (.aload_n 0, (0, 0, 0, 0)), (.iconst 0, (0, 0, 0, 0)), (.putfield 118, (12, 38, 0, 0))], (.nop, (0, 0, 0, 0)), [1]),
  (267, [(.aload_n 0, (0, 0, 0, 0)), (.getfield 118, (12, 38, 0, 0)), (.aload_n 0, (0, 0, 0, 0)), (.getfield 97, (12, 36, 1, 0)), (.arraylength, (0, 0, 0, 0))], (.if_icmp .ge 32, (0, 0, 0, 0)), [3, 2]),
  (279, [(.aload_n 0, (0, 0, 0, 0)), (.getfield 97, (12, 36, 1, 0)), (.aload_n 0, (0, 0, 0, 0)), (.getfield 118, (12, 38, 0, 0)), (.new 91, (10, 11, 0, 0)), (.dup, (0, 0, 0, 0)), (.invokespecial 121, (8, 0, 10, 0)), (.aastore, (0, 0, 0, 0)), (.aload_n 0, (0, 0, 0, 0)), (.dup, (0, 0, 0, 0)), (.getfield 118, (12, 38, 0, 0)), (.iconst 1, (0, 0, 0, 0)), (.iadd, (0, 0, 0, 0)), (.putfield 118, (12, 38, 0, 0))], (.goto (-38), (0, 0, 0, 0)), [1]),
  (308, [], (.return_, (0, 0, 0, 0)), [])]
/-- 50: TwinVaultsModel.isPlace(LTwinVaultsModel$Store;II)Z -/
def bt_X12_isPlace : List bi_K := [(0, [(.aload_n 1, (0, 0, 0, 0))], (.ifnull 41, (0, 0, 0, 0)), [6, 1]),
  (4, [(.iload_n 2, (0, 0, 0, 0))], (.ifCond .lt 37, (0, 0, 0, 0)), [6, 2]),
  (8, [(.iload_n 2, (0, 0, 0, 0)), (.aload_n 0, (0, 0, 0, 0)), (.getfield 24, (12, 12, 1, 0)), (.aload_n 1, (0, 0, 0, 0)), (.getfield 134, (11, 0, 0, 0)), (.iaload, (0, 0, 0, 0))], (.if_icmp .ge 24, (0, 0, 0, 0)), [6, 3]),
  (21, [(.iload_n 3, (0, 0, 0, 0))], (.ifCond .lt 20, (0, 0, 0, 0)), [6, 4]),
  (25, [(.iload_n 3, (0, 0, 0, 0)), (.aload_n 0, (0, 0, 0, 0)), (.getfield 27, (12, 13, 1, 0)), (.aload_n 1, (0, 0, 0, 0)), (.getfield 134, (11, 0, 0, 0)), (.iaload, (0, 0, 0, 0))], (.if_icmp .ge 7, (0, 0, 0, 0)), [6, 5]),
  (38, [(.iconst 1, (0, 0, 0, 0))], (.goto 4, (0, 0, 0, 0)), [7]),
  (42, [(.iconst 0, (0, 0, 0, 0))], (.nop, (0, 0, 0, 0)), [7]),
  (43, [], (.ireturn, (1, 0, 0, 0)), [])]
/-- 51: TwinVaultsModel.isSite(I)Z -/
def bt_X12_isSite : List bi_K := [(0, [(.iload_n 0, (0, 0, 0, 0))], (.ifCond .eq 8, (0, 0, 0, 0)), [2, 1]),
  (4, [(.iload_n 0, (0, 0, 0, 0)), (.iconst 1, (0, 0, 0, 0))], (.if_icmp .ne 7, (0, 0, 0, 0)), [3, 2]),
  (9, [(.iconst 1, (0, 0, 0, 0))], (.goto 4, (0, 0, 0, 0)), [4]),
  (13, [(.iconst 0, (0, 0, 0, 0))], (.nop, (0, 0, 0, 0)), [4]),
  (14, [], (.ireturn, (1, 0, 0, 0)), [])]
/-- 52: TwinVaultsModel.isTaken(III)V -/
def bt_X12_isTaken : List bi_K := [(0, [(.aload_n 0, (0, 0, 0, 0)), (.getfield 76, (12, 31, 1, 0)), (.iload_n 1, (0, 0, 0, 0)), (.aaload, (0, 0, 0, 0)), (.aload_n 0, (0, 0, 0, 0)), (.getfield 82, (12, 33, 1, 0)), (.iload_n 1, (0, 0, 0, 0)), (.iaload, (0, 0, 0, 0)), (.iload_n 2, (0, 0, 0, 0)), (.iastore, (0, 0, 0, 0)), (.aload_n 0, (0, 0, 0, 0)), (.getfield 79, (12, 32, 1, 0)), (.iload_n 1, (0, 0, 0, 0)), (.aaload, (0, 0, 0, 0)), (.aload_n 0, (0, 0, 0, 0)), (.getfield 82, (12, 33, 1, 0)), (.iload_n 1, (0, 0, 0, 0)), (.iaload, (0, 0, 0, 0)), (.iload_n 3, (0, 0, 0, 0)), (.iastore, (0, 0, 0, 0)), (.aload_n 0, (0, 0, 0, 0)), (.getfield 82, (12, 33, 1, 0)), (.iload_n 1, (0, 0, 0, 0)), (.dup2, (0, 0, 0, 0)), (.iaload, (0, 0, 0, 0)), (.iconst 1, (0, 0, 0, 0)), (.iadd, (0, 0, 0, 0)), (.iastore, (0, 0, 0, 0))], (.return_, (0, 0, 0, 0)), [])]
/-- 53: TwinVaultsModel.item(III)I -/
def bt_X12_item : List bi_K := [(0, [(.aload_n 0, (0, 0, 0, 0)), (.iconst 0, (0, 0, 0, 0)), (.putfield 1, (12, 0, 0, 0)), (.aload_n 0, (0, 0, 0, 0)), (.iload_n 1, (0, 0, 0, 0)), (.invokevirtual 458, (37, 1, 12, 0)), (.astore 4, (0, 0, 0, 0)), (.aload 4, (0, 0, 0, 0))], (.ifnull 25, (0, 0, 0, 0)), [5, 1]),
  (17, [(.iload_n 2, (0, 0, 0, 0))], (.ifCond .lt 21, (0, 0, 0, 0)), [5, 2]),
  (21, [(.iload_n 2, (0, 0, 0, 0)), (.aload 4, (0, 0, 0, 0)), (.getfield 228, (10, 7, 0, 0))], (.if_icmp .ge 12, (0, 0, 0, 0)), [5, 3]),
  (30, [(.iload_n 3, (0, 0, 0, 0))], (.ifCond .lt 8, (0, 0, 0, 0)), [5, 4]),
  (34, [(.iload_n 3, (0, 0, 0, 0)), (.iconst 2, (0, 0, 0, 0))], (.if_icmp .le 9, (0, 0, 0, 0)), [6, 5]),
  (39, [(.aload_n 0, (0, 0, 0, 0)), (.iconst 1, (0, 0, 0, 0)), (.invokevirtual 465, (35, 1, 12, 0))], (.ireturn, (0, 0, 0, 0)), []),
  (45, [(.iload_n 3, (0, 0, 0, 0))], (.ifCond .ne 13, (0, 0, 0, 0)), [8, 7]),
  (49, [(.aload 4, (0, 0, 0, 0)), (.getfield 253, (10, 8, 1, 0)), (.iload_n 2, (0, 0, 0, 0)), (.iaload, (0, 0, 0, 0))], (.goto 25, (0, 0, 0, 0)), [11]),
  (59, [(.iload_n 3, (0, 0, 0, 0)), (.iconst 1, (0, 0, 0, 0))], (.if_icmp .ne 13, (0, 0, 0, 0)), [10, 9]),
  (64, [(.aload 4, (0, 0, 0, 0)), (.getfield 259, (10, 9, 1, 0)), (.iload_n 2, (0, 0, 0, 0)), (.iaload, (0, 0, 0, 0))], (.goto 10, (0, 0, 0, 0)), [11]),
  (74, [(.aload 4, (0, 0, 0, 0)), (.getfield 262, (10, 10, 1, 0)), (.iload_n 2, (0, 0, 0, 0)), (.iaload, (0, 0, 0, 0))], (.nop, (0, 0, 0, 0)), [11]),
  (81, [], (.ireturn, (0, 0, 0, 0)), [])]
/-- 54: TwinVaultsModel.know(LTwinVaultsModel$Store;)V -/
def bt_X12_know : List bi_K := [(0, [(.aload_n 1, (0, 0, 0, 0)), (.getfield 137, (11, 32, 2, 0))], (.ifCond .eq 4, (0, 0, 0, 0)), [2, 1]),
  (7, [], (.return_, (0, 0, 0, 0)), []),
  (8, [(.iconst 0, (0, 0, 0, 0)), (.istore_n 2, (0, 0, 0, 0))], (.nop, (0, 0, 0, 0)), [3]),
  (10, [(.iload_n 2, (0, 0, 0, 0)), (.aload_n 1, (0, 0, 0, 0)), (.getfield 141, (11, 31, 1, 0)), (.arraylength, (0, 0, 0, 0))], (.if_icmp .ge 16, (0, 0, 0, 0)), [5, 4]),
  (19, [(.aload_n 1, (0, 0, 0, 0)), (.getfield 141, (11, 31, 1, 0)), (.iload_n 2, (0, 0, 0, 0)), (.iconst 0, (0, 0, 0, 0)), (.iastore, (0, 0, 0, 0)), (.iinc 2 1, (0, 0, 0, 0))], (.goto (-19), (0, 0, 0, 0)), [3]),
  (32, [(.aload_n 1, (0, 0, 0, 0)), (.getfield 144, (11, 4, 0, 0)), (.istore_n 2, (0, 0, 0, 0))], (.nop, (0, 0, 0, 0)), [6]),
  (37, [(.iload_n 2, (0, 0, 0, 0))], (.ifCond .eq 39, (0, 0, 0, 0)), [10, 7]),
  (41, [(.aload_n 1, (0, 0, 0, 0)), (.getfield 141, (11, 31, 1, 0)), (.aload_n 0, (0, 0, 0, 0)), (.getfield 34, (12, 16, 1, 0)), (.iload_n 2, (0, 0, 0, 0)), (.iaload, (0, 0, 0, 0)), (.iaload, (0, 0, 0, 0))], (.ifCond .ne 15, (0, 0, 0, 0)), [9, 8]),
  (55, [(.aload_n 1, (0, 0, 0, 0)), (.getfield 141, (11, 31, 1, 0)), (.aload_n 0, (0, 0, 0, 0)), (.getfield 34, (12, 16, 1, 0)), (.iload_n 2, (0, 0, 0, 0)), (.iaload, (0, 0, 0, 0)), (.iload_n 2, (0, 0, 0, 0)), (.iastore, (0, 0, 0, 0))], (.nop, (0, 0, 0, 0)), [9]),
  (67, [(.aload_n 0, (0, 0, 0, 0)), (.getfield 31, (12, 15, 1, 0)), (.iload_n 2, (0, 0, 0, 0)), (.iaload, (0, 0, 0, 0)), (.istore_n 2, (0, 0, 0, 0))], (.goto (-37), (0, 0, 0, 0)), [6]),
  (77, [(.aload_n 1, (0, 0, 0, 0)), (.iconst 1, (0, 0, 0, 0)), (.putfield 137, (11, 32, 2, 0))], (.return_, (0, 0, 0, 0)), [])]
/-- 55: TwinVaultsModel.lacked(LTwinVaultsModel$Store;I)V -/
def bt_X12_lacked : List bi_K := [(0, [(.aload_n 1, (0, 0, 0, 0)), (.iload_n 2, (0, 0, 0, 0))], (.ifCond .le 23, (0, 0, 0, 0)), [4, 1]),
  (5, [(.aload_n 1, (0, 0, 0, 0)), (.iload_n 2, (0, 0, 0, 0)), (.invokevirtual 344, (10, 1, 11, 0))], (.ifCond .lt 15, (0, 0, 0, 0)), [4, 2]),
  (13, [(.iload_n 2, (0, 0, 0, 0)), (.aload_n 1, (0, 0, 0, 0)), (.getfield 271, (11, 9, 0, 0))], (.if_icmp .ge 7, (0, 0, 0, 0)), [4, 3]),
  (21, [(.iload_n 2, (0, 0, 0, 0))], (.goto 4, (0, 0, 0, 0)), [5]),
  (25, [(.iconst 0, (0, 0, 0, 0))], (.nop, (0, 0, 0, 0)), [5]),
  (26, [(.putfield 265, (11, 16, 0, 0)), (.aload_n 0, (0, 0, 0, 0)), (.aload_n 1, (0, 0, 0, 0)), (.invokevirtual 394, (64, 1, 12, 0))], (.return_, (0, 0, 0, 0)), [])]
/-- 56: TwinVaultsModel.leave(I)I -/
def bt_X12_leave : List bi_K := [(0, [(.aload_n 0, (0, 0, 0, 0)), (.iconst 0, (0, 0, 0, 0)), (.putfield 1, (12, 0, 0, 0)), (.aload_n 0, (0, 0, 0, 0)), (.iload_n 1, (0, 0, 0, 0)), (.invokevirtual 407, (62, 1, 12, 0)), (.astore_n 2, (0, 0, 0, 0)), (.aload_n 0, (0, 0, 0, 0)), (.aload_n 2, (0, 0, 0, 0)), (.iconst 1, (0, 0, 0, 0)), (.iconst 1, (0, 0, 0, 0)), (.invokevirtual 429, (24, 3, 12, 0)), (.istore_n 3, (0, 0, 0, 0)), (.iload_n 3, (0, 0, 0, 0))], (.ifCond .ge 5, (0, 0, 0, 0)), [2, 1]),
  (23, [(.iload_n 3, (0, 0, 0, 0))], (.ireturn, (0, 0, 0, 0)), []),
  (25, [(.aload_n 2, (0, 0, 0, 0)), (.getfield 144, (11, 4, 0, 0)), (.aload_n 2, (0, 0, 0, 0)), (.invokevirtual 433, (15, 0, 11, 0))], (.if_icmp .eq 27, (0, 0, 0, 0)), [7, 3]),
  (36, [(.aload_n 2, (0, 0, 0, 0)), (.getfield 198, (11, 13, 0, 0)), (.sipush 4095, (0, 0, 0, 0))], (.if_icmp .ne 6, (0, 0, 0, 0)), [5, 4]),
  (46, [(.bipush (-5), (0, 0, 0, 0))], (.ireturn, (0, 0, 0, 0)), []),
  (49, [(.aload_n 0, (0, 0, 0, 0)), (.aload_n 2, (0, 0, 0, 0)), (.invokevirtual 436, (85, 1, 12, 0))], (.ifCond .ne 6, (0, 0, 0, 0)), [7, 6]),
  (57, [(.bipush (-3), (0, 0, 0, 0))], (.ireturn, (0, 0, 0, 0)), []),
  (60, [(.aload_n 0, (0, 0, 0, 0)), (.aload_n 2, (0, 0, 0, 0)), (.getfield 131, (11, 1, 0, 0)), (.invokevirtual 178, (21, 1, 12, 0))], (.ifCond .ne 6, (0, 0, 0, 0)), [9, 8]),
  (71, [(.bipush (-3), (0, 0, 0, 0))], (.ireturn, (0, 0, 0, 0)), []),
  (74, [(.aload_n 2, (0, 0, 0, 0)), (.iconst 2, (0, 0, 0, 0)), (.putfield 305, (11, 2, 0, 0)), (.aload_n 2, (0, 0, 0, 0)), (.iconst 0, (0, 0, 0, 0)), (.putfield 351, (11, 12, 0, 0)), (.aload_n 2, (0, 0, 0, 0)), (.invokevirtual 208, (14, 0, 11, 0))], (.ireturn, (0, 0, 0, 0)), [])]
/-- 57: TwinVaultsModel.lineOf(II)I -/
def bt_X12_lineOf : List bi_K := [(0, [(.aload_n 0, (0, 0, 0, 0)), (.getfield 82, (12, 33, 1, 0)), (.iload_n 1, (0, 0, 0, 0)), (.iaload, (0, 0, 0, 0)), (.iconst 1, (0, 0, 0, 0)), (.isub, (0, 0, 0, 0)), (.istore_n 3, (0, 0, 0, 0))], (.nop, (0, 0, 0, 0)), [1]),
  (9, [(.iload_n 3, (0, 0, 0, 0))], (.ifCond .lt 21, (0, 0, 0, 0)), [4, 2]),
  (13, [(.aload_n 0, (0, 0, 0, 0)), (.getfield 76, (12, 31, 1, 0)), (.iload_n 1, (0, 0, 0, 0)), (.aaload, (0, 0, 0, 0)), (.iload_n 3, (0, 0, 0, 0)), (.iaload, (0, 0, 0, 0)), (.iload_n 2, (0, 0, 0, 0))], (.if_icmp .eq 9, (0, 0, 0, 0)), [4, 3]),
  (25, [(.iinc 3 (-1), (0, 0, 0, 0))], (.goto (-19), (0, 0, 0, 0)), [1]),
  (31, [(.iload_n 3, (0, 0, 0, 0))], (.ifCond .ge 7, (0, 0, 0, 0)), [6, 5]),
  (35, [(.iconst 0, (0, 0, 0, 0))], (.goto 11, (0, 0, 0, 0)), [7]),
  (39, [(.aload_n 0, (0, 0, 0, 0)), (.getfield 79, (12, 32, 1, 0)), (.iload_n 1, (0, 0, 0, 0)), (.aaload, (0, 0, 0, 0)), (.iload_n 3, (0, 0, 0, 0)), (.iaload, (0, 0, 0, 0))], (.nop, (0, 0, 0, 0)), [7]),
  (47, [], (.ireturn, (0, 0, 0, 0)), [])]
/-- 58: TwinVaultsModel.lost(III)I -/
def bt_X12_lost : List bi_K := [(0, [(.aload_n 0, (0, 0, 0, 0)), (.iconst 0, (0, 0, 0, 0)), (.putfield 1, (12, 0, 0, 0)), (.aload_n 0, (0, 0, 0, 0)), (.iload_n 1, (0, 0, 0, 0)), (.invokevirtual 407, (62, 1, 12, 0)), (.astore 4, (0, 0, 0, 0)), (.aload 4, (0, 0, 0, 0))], (.ifnull 26, (0, 0, 0, 0)), [5, 1]),
  (17, [(.iload_n 2, (0, 0, 0, 0))], (.ifCond .lt 22, (0, 0, 0, 0)), [5, 2]),
  (21, [(.iload_n 2, (0, 0, 0, 0)), (.aload 4, (0, 0, 0, 0)), (.getfield 400, (11, 29, 1, 0)), (.arraylength, (0, 0, 0, 0))], (.if_icmp .ge 12, (0, 0, 0, 0)), [5, 3]),
  (31, [(.iload_n 3, (0, 0, 0, 0))], (.ifCond .lt 8, (0, 0, 0, 0)), [5, 4]),
  (35, [(.iload_n 3, (0, 0, 0, 0)), (.iconst 2, (0, 0, 0, 0))], (.if_icmp .le 9, (0, 0, 0, 0)), [6, 5]),
  (40, [(.aload_n 0, (0, 0, 0, 0)), (.iconst 1, (0, 0, 0, 0)), (.invokevirtual 465, (35, 1, 12, 0))], (.ireturn, (0, 0, 0, 0)), []),
  (46, [(.iload_n 3, (0, 0, 0, 0))], (.ifCond .ne 24, (0, 0, 0, 0)), [8, 7]),
  (50, [(.aload 4, (0, 0, 0, 0)), (.getfield 400, (11, 29, 1, 0)), (.iload_n 2, (0, 0, 0, 0)), (.iaload, (0, 0, 0, 0)), (.aload_n 0, (0, 0, 0, 0)), (.getfield 27, (12, 13, 1, 0)), (.aload 4, (0, 0, 0, 0)), (.getfield 134, (11, 0, 0, 0)), (.iaload, (0, 0, 0, 0)), (.idiv, (0, 0, 0, 0))], (.goto 36, (0, 0, 0, 0)), [11]),
  (71, [(.iload_n 3, (0, 0, 0, 0)), (.iconst 1, (0, 0, 0, 0))], (.if_icmp .ne 24, (0, 0, 0, 0)), [10, 9]),
  (76, [(.aload 4, (0, 0, 0, 0)), (.getfield 400, (11, 29, 1, 0)), (.iload_n 2, (0, 0, 0, 0)), (.iaload, (0, 0, 0, 0)), (.aload_n 0, (0, 0, 0, 0)), (.getfield 27, (12, 13, 1, 0)), (.aload 4, (0, 0, 0, 0)), (.getfield 134, (11, 0, 0, 0)), (.iaload, (0, 0, 0, 0)), (.irem, (0, 0, 0, 0))], (.goto 10, (0, 0, 0, 0)), [11]),
  (97, [(.aload 4, (0, 0, 0, 0)), (.getfield 403, (11, 30, 1, 0)), (.iload_n 2, (0, 0, 0, 0)), (.iaload, (0, 0, 0, 0))], (.nop, (0, 0, 0, 0)), [11]),
  (104, [], (.ireturn, (0, 0, 0, 0)), [])]
/-- 59: TwinVaultsModel.message(II)I -/
def bt_X12_message : List bi_K := [(0, [(.aload_n 0, (0, 0, 0, 0)), (.iconst 0, (0, 0, 0, 0)), (.putfield 1, (12, 0, 0, 0)), (.aload_n 0, (0, 0, 0, 0)), (.iload_n 1, (0, 0, 0, 0)), (.invokevirtual 458, (37, 1, 12, 0)), (.astore_n 3, (0, 0, 0, 0)), (.aload_n 3, (0, 0, 0, 0))], (.ifnonnull 5, (0, 0, 0, 0)), [2, 1]),
  (15, [(.iconst (-1), (0, 0, 0, 0))], (.ireturn, (0, 0, 0, 0)), []),
  (17, [(.iload_n 2, (0, 0, 0, 0))], (.tableswitch 99 0 7 #[46, 51, 69, 74, 79, 84, 89, 94], (0, 0, 0, 0)), [11, 3, 4, 5, 6, 7, 8, 9, 10]),
  (64, [(.aload_n 3, (0, 0, 0, 0)), (.getfield 234, (10, 2, 0, 0))], (.ireturn, (0, 0, 0, 0)), []),
  (69, [(.iconst 4, (0, 0, 0, 0)), (.aload_n 3, (0, 0, 0, 0)), (.getfield 229, (10, 0, 1, 0)), (.getfield 131, (11, 1, 0, 0)), (.imul, (0, 0, 0, 0)), (.aload_n 3, (0, 0, 0, 0)), (.getfield 229, (10, 0, 1, 0)), (.getfield 134, (11, 0, 0, 0)), (.iadd, (0, 0, 0, 0))], (.ireturn, (0, 0, 0, 0)), []),
  (87, [(.aload_n 3, (0, 0, 0, 0)), (.getfield 233, (10, 1, 0, 0))], (.ireturn, (0, 0, 0, 0)), []),
  (92, [(.aload_n 3, (0, 0, 0, 0)), (.getfield 237, (10, 3, 0, 0))], (.ireturn, (0, 0, 0, 0)), []),
  (97, [(.aload_n 3, (0, 0, 0, 0)), (.getfield 240, (10, 4, 0, 0))], (.ireturn, (0, 0, 0, 0)), []),
  (102, [(.aload_n 3, (0, 0, 0, 0)), (.getfield 243, (10, 5, 0, 0))], (.ireturn, (0, 0, 0, 0)), []),
  (107, [(.aload_n 3, (0, 0, 0, 0)), (.getfield 246, (10, 6, 0, 0))], (.ireturn, (0, 0, 0, 0)), []),
  (112, [(.aload_n 3, (0, 0, 0, 0)), (.getfield 228, (10, 7, 0, 0))], (.ireturn, (0, 0, 0, 0)), []),
  (117, [(.iconst (-1), (0, 0, 0, 0))], (.ireturn, (0, 0, 0, 0)), [])]
/-- 60: TwinVaultsModel.needs(LTwinVaultsModel$Store;)I -/
def bt_X12_needs : List bi_K := [(0, [(.aload_n 1, (0, 0, 0, 0)), (.getfield 147, (11, 33, 2, 0))], (.ifCond .eq 13, (0, 0, 0, 0)), [2, 1]),
  (7, [(.aload_n 1, (0, 0, 0, 0)), (.getfield 150, (11, 34, 0, 0)), (.aload_n 1, (0, 0, 0, 0)), (.getfield 153, (11, 27, 0, 0)), (.iadd, (0, 0, 0, 0))], (.ireturn, (0, 0, 0, 0)), []),
  (17, [(.aload_n 0, (0, 0, 0, 0)), (.dup, (0, 0, 0, 0)), (.getfield 122, (12, 24, 0, 0)), (.iconst 1, (0, 0, 0, 0)), (.iadd, (0, 0, 0, 0)), (.putfield 122, (12, 24, 0, 0)), (.iconst 0, (0, 0, 0, 0)), (.istore_n 2, (0, 0, 0, 0)), (.aload_n 0, (0, 0, 0, 0)), (.getfield 40, (12, 18, 1, 0)), (.aload_n 1, (0, 0, 0, 0)), (.getfield 144, (11, 4, 0, 0)), (.iaload, (0, 0, 0, 0)), (.istore_n 3, (0, 0, 0, 0)), (.aload_n 1, (0, 0, 0, 0)), (.getfield 156, (11, 7, 0, 0)), (.iconst 1, (0, 0, 0, 0)), (.isub, (0, 0, 0, 0)), (.istore 4, (0, 0, 0, 0)), (.iconst 1, (0, 0, 0, 0)), (.istore 5, (0, 0, 0, 0)), (.aload_n 1, (0, 0, 0, 0)), (.getfield 144, (11, 4, 0, 0)), (.istore 6, (0, 0, 0, 0))], (.nop, (0, 0, 0, 0)), [3]),
  (56, [(.iload 6, (0, 0, 0, 0))], (.ifCond .eq 174, (0, 0, 0, 0)), [16, 4]),
  (61, [(.aload_n 0, (0, 0, 0, 0)), (.getfield 40, (12, 18, 1, 0)), (.iload 6, (0, 0, 0, 0)), (.iaload, (0, 0, 0, 0)), (.istore 7, (0, 0, 0, 0)), (.iload 5, (0, 0, 0, 0))], (.ifCond .eq 30, (0, 0, 0, 0)), [7, 5]),
  (75, [(.aload_n 0, (0, 0, 0, 0)), (.getfield 40, (12, 18, 1, 0)), (.aload_n 1, (0, 0, 0, 0)), (.getfield 159, (11, 6, 0, 0)), (.iaload, (0, 0, 0, 0)), (.iload 7, (0, 0, 0, 0))], (.if_icmp .lt 16, (0, 0, 0, 0)), [7, 6]),
  (89, [(.aload_n 0, (0, 0, 0, 0)), (.getfield 40, (12, 18, 1, 0)), (.aload_n 1, (0, 0, 0, 0)), (.getfield 159, (11, 6, 0, 0)), (.iaload, (0, 0, 0, 0)), (.istore_n 3, (0, 0, 0, 0)), (.iconst 0, (0, 0, 0, 0)), (.istore 5, (0, 0, 0, 0))], (.nop, (0, 0, 0, 0)), [7]),
  (102, [(.iload 4, (0, 0, 0, 0))], (.ifCond .lt 39, (0, 0, 0, 0)), [10, 8]),
  (107, [(.aload_n 0, (0, 0, 0, 0)), (.getfield 40, (12, 18, 1, 0)), (.aload_n 1, (0, 0, 0, 0)), (.getfield 162, (11, 15, 1, 0)), (.iload 4, (0, 0, 0, 0)), (.iaload, (0, 0, 0, 0)), (.iaload, (0, 0, 0, 0)), (.iload 7, (0, 0, 0, 0))], (.if_icmp .lt 22, (0, 0, 0, 0)), [10, 9]),
  (124, [(.aload_n 0, (0, 0, 0, 0)), (.getfield 40, (12, 18, 1, 0)), (.aload_n 1, (0, 0, 0, 0)), (.getfield 162, (11, 15, 1, 0)), (.iload 4, (0, 0, 0, 0)), (.iaload, (0, 0, 0, 0)), (.iaload, (0, 0, 0, 0)), (.istore_n 3, (0, 0, 0, 0)), (.iinc 4 (-1), (0, 0, 0, 0))], (.goto (-38), (0, 0, 0, 0)), [7]),
  (143, [(.aload_n 0, (0, 0, 0, 0)), (.getfield 44, (12, 19, 1, 0)), (.aload_n 0, (0, 0, 0, 0)), (.getfield 34, (12, 16, 1, 0)), (.iload 6, (0, 0, 0, 0)), (.iaload, (0, 0, 0, 0)), (.iaload, (0, 0, 0, 0)), (.aload_n 0, (0, 0, 0, 0)), (.getfield 122, (12, 24, 0, 0))], (.if_icmp .ne 18, (0, 0, 0, 0)), [12, 11]),
  (162, [(.aload_n 0, (0, 0, 0, 0)), (.getfield 47, (12, 20, 1, 0)), (.aload_n 0, (0, 0, 0, 0)), (.getfield 34, (12, 16, 1, 0)), (.iload 6, (0, 0, 0, 0)), (.iaload, (0, 0, 0, 0)), (.iaload, (0, 0, 0, 0))], (.goto 5, (0, 0, 0, 0)), [13]),
  (177, [(.ldc 167, (2147483647, 0, 0, 0))], (.nop, (0, 0, 0, 0)), [13]),
  (179, [(.istore 8, (0, 0, 0, 0)), (.iload_n 3, (0, 0, 0, 0)), (.iload 8, (0, 0, 0, 0))], (.if_icmp .ge 6, (0, 0, 0, 0)), [15, 14]),
  (187, [(.iinc 2 1, (0, 0, 0, 0))], (.nop, (0, 0, 0, 0)), [15]),
  (190, [(.aload_n 0, (0, 0, 0, 0)), (.getfield 44, (12, 19, 1, 0)), (.aload_n 0, (0, 0, 0, 0)), (.getfield 34, (12, 16, 1, 0)), (.iload 6, (0, 0, 0, 0)), (.iaload, (0, 0, 0, 0)), (.aload_n 0, (0, 0, 0, 0)), (.getfield 122, (12, 24, 0, 0)), (.iastore, (0, 0, 0, 0)), (.aload_n 0, (0, 0, 0, 0)), (.getfield 47, (12, 20, 1, 0)), (.aload_n 0, (0, 0, 0, 0)), (.getfield 34, (12, 16, 1, 0)), (.iload 6, (0, 0, 0, 0)), (.iaload, (0, 0, 0, 0)), (.iload 7, (0, 0, 0, 0)), (.iastore, (0, 0, 0, 0)), (.aload_n 0, (0, 0, 0, 0)), (.getfield 31, (12, 15, 1, 0)), (.iload 6, (0, 0, 0, 0)), (.iaload, (0, 0, 0, 0)), (.istore 6, (0, 0, 0, 0))], (.goto (-173), (0, 0, 0, 0)), [3]),
  (232, [(.aload_n 1, (0, 0, 0, 0)), (.iload_n 2, (0, 0, 0, 0)), (.putfield 150, (11, 34, 0, 0)), (.aload_n 1, (0, 0, 0, 0)), (.iconst 1, (0, 0, 0, 0)), (.putfield 147, (11, 33, 2, 0)), (.iload_n 2, (0, 0, 0, 0)), (.aload_n 1, (0, 0, 0, 0)), (.getfield 153, (11, 27, 0, 0)), (.iadd, (0, 0, 0, 0))], (.ireturn, (0, 0, 0, 0)), [])]
/-- 61: TwinVaultsModel.nodes(III)I -/
def bt_X12_nodes : List bi_K := [(0, [(.aload_n 0, (0, 0, 0, 0)), (.dup, (0, 0, 0, 0)), (.getfield 122, (12, 24, 0, 0)), (.iconst 1, (0, 0, 0, 0)), (.iadd, (0, 0, 0, 0)), (.putfield 122, (12, 24, 0, 0)), (.iconst 0, (0, 0, 0, 0)), (.istore 4, (0, 0, 0, 0)), (.iload_n 3, (0, 0, 0, 0)), (.istore 5, (0, 0, 0, 0))], (.nop, (0, 0, 0, 0)), [1]),
  (16, [(.iload 5, (0, 0, 0, 0)), (.iload_n 2, (0, 0, 0, 0))], (.if_icmp .eq 52, (0, 0, 0, 0)), [3, 2]),
  (22, [(.iload 4, (0, 0, 0, 0)), (.aload_n 0, (0, 0, 0, 0)), (.aload_n 0, (0, 0, 0, 0)), (.getfield 34, (12, 16, 1, 0)), (.iload 5, (0, 0, 0, 0)), (.iaload, (0, 0, 0, 0)), (.aload_n 0, (0, 0, 0, 0)), (.getfield 27, (12, 13, 1, 0)), (.iload_n 1, (0, 0, 0, 0)), (.iaload, (0, 0, 0, 0)), (.idiv, (0, 0, 0, 0)), (.aload_n 0, (0, 0, 0, 0)), (.getfield 34, (12, 16, 1, 0)), (.iload 5, (0, 0, 0, 0)), (.iaload, (0, 0, 0, 0)), (.aload_n 0, (0, 0, 0, 0)), (.getfield 27, (12, 13, 1, 0)), (.iload_n 1, (0, 0, 0, 0)), (.iaload, (0, 0, 0, 0)), (.irem, (0, 0, 0, 0)), (.invokevirtual 125, (68, 2, 12, 0)), (.iadd, (0, 0, 0, 0)), (.istore 4, (0, 0, 0, 0)), (.aload_n 0, (0, 0, 0, 0)), (.getfield 31, (12, 15, 1, 0)), (.iload 5, (0, 0, 0, 0)), (.iaload, (0, 0, 0, 0)), (.istore 5, (0, 0, 0, 0))], (.goto (-52), (0, 0, 0, 0)), [1]),
  (71, [(.iload 4, (0, 0, 0, 0))], (.ireturn, (0, 0, 0, 0)), [])]
/-- 62: TwinVaultsModel.of(I)LTwinVaultsModel$Store; -/
def bt_X12_of : List bi_K := [(0, [(.iload_n 1, (0, 0, 0, 0))], (.ifCond .lt 18, (0, 0, 0, 0)), [3, 1]),
  (4, [(.iload_n 1, (0, 0, 0, 0)), (.bipush 8, (0, 0, 0, 0))], (.if_icmp .ge 12, (0, 0, 0, 0)), [3, 2]),
  (10, [(.aload_n 0, (0, 0, 0, 0)), (.getfield 87, (12, 34, 1, 0)), (.iload_n 1, (0, 0, 0, 0)), (.aaload, (0, 0, 0, 0))], (.goto 4, (0, 0, 0, 0)), [4]),
  (19, [(.aconst_null, (0, 0, 0, 0))], (.nop, (0, 0, 0, 0)), [4]),
  (20, [], (.areturn, (0, 0, 0, 0)), [])]
/-- 63: TwinVaultsModel.offered(LTwinVaultsModel$Store;LTwinVaultsModel$Message;)V -/
def bt_X12_offered : List bi_K := [(0, [(.aload_n 2, (0, 0, 0, 0)), (.getfield 240, (10, 4, 0, 0)), (.aload_n 1, (0, 0, 0, 0)), (.invokevirtual 208, (14, 0, 11, 0))], (.if_icmp .ne 19, (0, 0, 0, 0)), [2, 1]),
  (11, [(.aload_n 0, (0, 0, 0, 0)), (.aload_n 1, (0, 0, 0, 0)), (.iconst 5, (0, 0, 0, 0)), (.iconst 0, (0, 0, 0, 0)), (.aload_n 2, (0, 0, 0, 0)), (.getfield 240, (10, 4, 0, 0)), (.iconst 0, (0, 0, 0, 0)), (.iconst 0, (0, 0, 0, 0)), (.invokevirtual 287, (74, 6, 12, 0))], (.goto 106, (0, 0, 0, 0)), [11]),
  (27, [(.aload_n 2, (0, 0, 0, 0)), (.getfield 240, (10, 4, 0, 0)), (.aload_n 1, (0, 0, 0, 0)), (.invokevirtual 208, (14, 0, 11, 0))], (.if_icmp .le 95, (0, 0, 0, 0)), [11, 3]),
  (38, [(.aload_n 2, (0, 0, 0, 0)), (.getfield 237, (10, 3, 0, 0))], (.ifCond .eq 29, (0, 0, 0, 0)), [6, 4]),
  (45, [(.aload_n 2, (0, 0, 0, 0)), (.getfield 237, (10, 3, 0, 0)), (.aload_n 1, (0, 0, 0, 0)), (.invokevirtual 208, (14, 0, 11, 0))], (.if_icmp .eq 18, (0, 0, 0, 0)), [6, 5]),
  (56, [(.aload_n 0, (0, 0, 0, 0)), (.aload_n 1, (0, 0, 0, 0)), (.bipush 6, (0, 0, 0, 0)), (.iconst 0, (0, 0, 0, 0)), (.aload_n 1, (0, 0, 0, 0)), (.invokevirtual 208, (14, 0, 11, 0)), (.iconst 0, (0, 0, 0, 0)), (.iconst 0, (0, 0, 0, 0)), (.invokevirtual 287, (74, 6, 12, 0))], (.return_, (0, 0, 0, 0)), []),
  (71, [(.aload_n 1, (0, 0, 0, 0)), (.aload_n 2, (0, 0, 0, 0)), (.invokestatic 312, (81, 2, 0, 0))], (.ifCond .ne 48, (0, 0, 0, 0)), [10, 7]),
  (79, [(.aload_n 0, (0, 0, 0, 0)), (.aload_n 1, (0, 0, 0, 0)), (.getfield 131, (11, 1, 0, 0)), (.invokevirtual 178, (21, 1, 12, 0))], (.ifCond .ne 4, (0, 0, 0, 0)), [9, 8]),
  (90, [], (.return_, (0, 0, 0, 0)), []),
  (91, [(.aload_n 1, (0, 0, 0, 0)), (.invokevirtual 360, (17, 0, 11, 0)), (.aload_n 1, (0, 0, 0, 0)), (.iconst 1, (0, 0, 0, 0)), (.putfield 363, (11, 22, 2, 0)), (.aload_n 1, (0, 0, 0, 0)), (.aload_n 2, (0, 0, 0, 0)), (.getfield 237, (10, 3, 0, 0)), (.putfield 366, (11, 23, 0, 0)), (.aload_n 1, (0, 0, 0, 0)), (.aload_n 2, (0, 0, 0, 0)), (.getfield 240, (10, 4, 0, 0)), (.putfield 369, (11, 24, 0, 0)), (.aload_n 1, (0, 0, 0, 0)), (.aload_n 2, (0, 0, 0, 0)), (.getfield 243, (10, 5, 0, 0)), (.putfield 372, (11, 25, 0, 0))], (.nop, (0, 0, 0, 0)), [10]),
  (124, [(.aload_n 0, (0, 0, 0, 0)), (.aload_n 1, (0, 0, 0, 0)), (.iconst 2, (0, 0, 0, 0)), (.invokevirtual 375, (80, 2, 12, 0))], (.nop, (0, 0, 0, 0)), [11]),
  (130, [], (.return_, (0, 0, 0, 0)), [])]
/-- 64: TwinVaultsModel.offers(LTwinVaultsModel$Store;)V -/
def bt_X12_offers : List bi_K := [(0, [(.aload_n 1, (0, 0, 0, 0)), (.iconst 1, (0, 0, 0, 0)), (.putfield 277, (11, 17, 0, 0)), (.aload_n 1, (0, 0, 0, 0)), (.iconst 0, (0, 0, 0, 0)), (.putfield 280, (11, 20, 0, 0)), (.aload_n 0, (0, 0, 0, 0)), (.aload_n 1, (0, 0, 0, 0)), (.invokevirtual 283, (79, 1, 12, 0)), (.aload_n 0, (0, 0, 0, 0)), (.aload_n 1, (0, 0, 0, 0)), (.iconst 1, (0, 0, 0, 0)), (.aload_n 1, (0, 0, 0, 0)), (.getfield 265, (11, 16, 0, 0)), (.aload_n 1, (0, 0, 0, 0)), (.getfield 271, (11, 9, 0, 0)), (.aload_n 0, (0, 0, 0, 0)), (.getfield 128, (12, 28, 0, 0)), (.aload_n 0, (0, 0, 0, 0)), (.getfield 40, (12, 18, 1, 0)), (.aload_n 0, (0, 0, 0, 0)), (.getfield 62, (12, 26, 0, 0)), (.iaload, (0, 0, 0, 0)), (.invokevirtual 287, (74, 6, 12, 0))], (.return_, (0, 0, 0, 0)), [])]
/-- 65: TwinVaultsModel.old(IIII)I -/
def bt_X12_old : List bi_K := [(0, [(.aload_n 0, (0, 0, 0, 0)), (.iconst 0, (0, 0, 0, 0)), (.putfield 1, (12, 0, 0, 0)), (.aload_n 0, (0, 0, 0, 0)), (.iload_n 1, (0, 0, 0, 0)), (.invokevirtual 407, (62, 1, 12, 0)), (.astore 5, (0, 0, 0, 0)), (.aload_n 0, (0, 0, 0, 0)), (.aload 5, (0, 0, 0, 0)), (.iload_n 3, (0, 0, 0, 0)), (.iload 4, (0, 0, 0, 0)), (.invokevirtual 411, (50, 3, 12, 0))], (.ifCond .eq 16, (0, 0, 0, 0)), [3, 1]),
  (24, [(.iload_n 2, (0, 0, 0, 0))], (.ifCond .lt 12, (0, 0, 0, 0)), [3, 2]),
  (28, [(.iload_n 2, (0, 0, 0, 0)), (.aload 5, (0, 0, 0, 0)), (.getfield 156, (11, 7, 0, 0))], (.if_icmp .lt 9, (0, 0, 0, 0)), [4, 3]),
  (37, [(.aload_n 0, (0, 0, 0, 0)), (.iconst 1, (0, 0, 0, 0)), (.invokevirtual 465, (35, 1, 12, 0))], (.ireturn, (0, 0, 0, 0)), []),
  (43, [(.aload_n 0, (0, 0, 0, 0)), (.getfield 13, (12, 9, 1, 0)), (.aload 5, (0, 0, 0, 0)), (.getfield 131, (11, 1, 0, 0)), (.baload, (0, 0, 0, 0))], (.ifCond .ne 9, (0, 0, 0, 0)), [6, 5]),
  (56, [(.aload_n 0, (0, 0, 0, 0)), (.iconst 2, (0, 0, 0, 0)), (.invokevirtual 465, (35, 1, 12, 0))], (.ireturn, (0, 0, 0, 0)), []),
  (62, [(.aload 5, (0, 0, 0, 0)), (.getfield 162, (11, 15, 1, 0)), (.iload_n 2, (0, 0, 0, 0)), (.iaload, (0, 0, 0, 0)), (.istore 6, (0, 0, 0, 0))], (.nop, (0, 0, 0, 0)), [7]),
  (71, [(.iload 6, (0, 0, 0, 0))], (.ifCond .eq 40, (0, 0, 0, 0)), [10, 8]),
  (76, [(.aload_n 0, (0, 0, 0, 0)), (.getfield 34, (12, 16, 1, 0)), (.iload 6, (0, 0, 0, 0)), (.iaload, (0, 0, 0, 0)), (.iload_n 3, (0, 0, 0, 0)), (.aload_n 0, (0, 0, 0, 0)), (.getfield 27, (12, 13, 1, 0)), (.aload 5, (0, 0, 0, 0)), (.getfield 134, (11, 0, 0, 0)), (.iaload, (0, 0, 0, 0)), (.imul, (0, 0, 0, 0)), (.iload 4, (0, 0, 0, 0)), (.iadd, (0, 0, 0, 0))], (.if_icmp .eq 15, (0, 0, 0, 0)), [10, 9]),
  (101, [(.aload_n 0, (0, 0, 0, 0)), (.getfield 31, (12, 15, 1, 0)), (.iload 6, (0, 0, 0, 0)), (.iaload, (0, 0, 0, 0)), (.istore 6, (0, 0, 0, 0))], (.goto (-39), (0, 0, 0, 0)), [7]),
  (113, [(.aload_n 0, (0, 0, 0, 0)), (.getfield 37, (12, 17, 1, 0)), (.iload 6, (0, 0, 0, 0)), (.iaload, (0, 0, 0, 0))], (.ireturn, (0, 0, 0, 0)), [])]
/-- 66: TwinVaultsModel.other(LTwinVaultsModel$Store;)LTwinVaultsModel$Store; -/
def bt_X12_other : List bi_K := [(0, [(.aload_n 0, (0, 0, 0, 0)), (.getfield 87, (12, 34, 1, 0)), (.iconst 4, (0, 0, 0, 0)), (.iconst 1, (0, 0, 0, 0)), (.aload_n 1, (0, 0, 0, 0)), (.getfield 131, (11, 1, 0, 0)), (.isub, (0, 0, 0, 0)), (.imul, (0, 0, 0, 0)), (.aload_n 1, (0, 0, 0, 0)), (.getfield 134, (11, 0, 0, 0)), (.iadd, (0, 0, 0, 0)), (.aaload, (0, 0, 0, 0))], (.areturn, (0, 0, 0, 0)), [])]
/-- 67: TwinVaultsModel.pass(II)I -/
def bt_X12_pass : List bi_K := [(0, [(.aload_n 0, (0, 0, 0, 0)), (.iconst 0, (0, 0, 0, 0)), (.putfield 1, (12, 0, 0, 0)), (.aload_n 0, (0, 0, 0, 0)), (.iload_n 1, (0, 0, 0, 0)), (.invokevirtual 458, (37, 1, 12, 0)), (.astore_n 3, (0, 0, 0, 0)), (.aload_n 3, (0, 0, 0, 0))], (.ifnull 12, (0, 0, 0, 0)), [3, 1]),
  (15, [(.iload_n 2, (0, 0, 0, 0))], (.ifCond .lt 8, (0, 0, 0, 0)), [3, 2]),
  (19, [(.iload_n 2, (0, 0, 0, 0)), (.iconst 2, (0, 0, 0, 0))], (.if_icmp .le 5, (0, 0, 0, 0)), [4, 3]),
  (24, [(.iconst (-1), (0, 0, 0, 0))], (.ireturn, (0, 0, 0, 0)), []),
  (26, [(.iload_n 2, (0, 0, 0, 0)), (.iconst 2, (0, 0, 0, 0))], (.if_icmp .ge 47, (0, 0, 0, 0)), [8, 5]),
  (31, [(.aload_n 0, (0, 0, 0, 0)), (.dup, (0, 0, 0, 0)), (.getfield 222, (12, 37, 0, 0)), (.iconst 1, (0, 0, 0, 0)), (.isub, (0, 0, 0, 0)), (.putfield 222, (12, 37, 0, 0)), (.iload_n 1, (0, 0, 0, 0)), (.istore 4, (0, 0, 0, 0))], (.nop, (0, 0, 0, 0)), [6]),
  (44, [(.iload 4, (0, 0, 0, 0)), (.aload_n 0, (0, 0, 0, 0)), (.getfield 222, (12, 37, 0, 0))], (.if_icmp .ge 25, (0, 0, 0, 0)), [8, 7]),
  (53, [(.aload_n 0, (0, 0, 0, 0)), (.getfield 93, (12, 35, 1, 0)), (.iload 4, (0, 0, 0, 0)), (.aload_n 0, (0, 0, 0, 0)), (.getfield 93, (12, 35, 1, 0)), (.iload 4, (0, 0, 0, 0)), (.iconst 1, (0, 0, 0, 0)), (.iadd, (0, 0, 0, 0)), (.aaload, (0, 0, 0, 0)), (.aastore, (0, 0, 0, 0)), (.iinc 4 1, (0, 0, 0, 0))], (.goto (-28), (0, 0, 0, 0)), [6]),
  (75, [(.iload_n 2, (0, 0, 0, 0))], (.ifCond .le 8, (0, 0, 0, 0)), [10, 9]),
  (79, [(.aload_n 0, (0, 0, 0, 0)), (.aload_n 3, (0, 0, 0, 0)), (.invokevirtual 462, (73, 1, 12, 0))], (.nop, (0, 0, 0, 0)), [10]),
  (84, [(.iload_n 2, (0, 0, 0, 0)), (.iconst 2, (0, 0, 0, 0))], (.if_icmp .ge 23, (0, 0, 0, 0)), [12, 11]),
  (89, [(.aload_n 0, (0, 0, 0, 0)), (.getfield 97, (12, 36, 1, 0)), (.aload_n 0, (0, 0, 0, 0)), (.getfield 118, (12, 38, 0, 0)), (.aload_n 3, (0, 0, 0, 0)), (.aastore, (0, 0, 0, 0)), (.aload_n 0, (0, 0, 0, 0)), (.dup, (0, 0, 0, 0)), (.getfield 118, (12, 38, 0, 0)), (.iconst 1, (0, 0, 0, 0)), (.iadd, (0, 0, 0, 0)), (.putfield 118, (12, 38, 0, 0))], (.nop, (0, 0, 0, 0)), [12]),
  (109, [(.iconst 1, (0, 0, 0, 0))], (.ireturn, (0, 0, 0, 0)), [])]
/-- 68: TwinVaultsModel.path(II)I -/
def bt_X12_path : List bi_K := [(0, [(.iconst 0, (0, 0, 0, 0)), (.istore_n 3, (0, 0, 0, 0)), (.aload_n 0, (0, 0, 0, 0)), (.getfield 50, (12, 21, 1, 0)), (.sipush 256, (0, 0, 0, 0)), (.iload_n 1, (0, 0, 0, 0)), (.imul, (0, 0, 0, 0)), (.iload_n 2, (0, 0, 0, 0)), (.bipush 16, (0, 0, 0, 0)), (.idiv, (0, 0, 0, 0)), (.iadd, (0, 0, 0, 0)), (.iaload, (0, 0, 0, 0)), (.aload_n 0, (0, 0, 0, 0)), (.getfield 122, (12, 24, 0, 0))], (.if_icmp .eq 25, (0, 0, 0, 0)), [2, 1]),
  (24, [(.aload_n 0, (0, 0, 0, 0)), (.getfield 50, (12, 21, 1, 0)), (.sipush 256, (0, 0, 0, 0)), (.iload_n 1, (0, 0, 0, 0)), (.imul, (0, 0, 0, 0)), (.iload_n 2, (0, 0, 0, 0)), (.bipush 16, (0, 0, 0, 0)), (.idiv, (0, 0, 0, 0)), (.iadd, (0, 0, 0, 0)), (.aload_n 0, (0, 0, 0, 0)), (.getfield 122, (12, 24, 0, 0)), (.iastore, (0, 0, 0, 0)), (.iinc 3 1, (0, 0, 0, 0))], (.nop, (0, 0, 0, 0)), [2]),
  (46, [(.aload_n 0, (0, 0, 0, 0)), (.getfield 53, (12, 22, 1, 0)), (.bipush 16, (0, 0, 0, 0)), (.iload_n 1, (0, 0, 0, 0)), (.imul, (0, 0, 0, 0)), (.iload_n 2, (0, 0, 0, 0)), (.sipush 256, (0, 0, 0, 0)), (.idiv, (0, 0, 0, 0)), (.iadd, (0, 0, 0, 0)), (.iaload, (0, 0, 0, 0)), (.aload_n 0, (0, 0, 0, 0)), (.getfield 122, (12, 24, 0, 0))], (.if_icmp .eq 25, (0, 0, 0, 0)), [4, 3]),
  (68, [(.aload_n 0, (0, 0, 0, 0)), (.getfield 53, (12, 22, 1, 0)), (.bipush 16, (0, 0, 0, 0)), (.iload_n 1, (0, 0, 0, 0)), (.imul, (0, 0, 0, 0)), (.iload_n 2, (0, 0, 0, 0)), (.sipush 256, (0, 0, 0, 0)), (.idiv, (0, 0, 0, 0)), (.iadd, (0, 0, 0, 0)), (.aload_n 0, (0, 0, 0, 0)), (.getfield 122, (12, 24, 0, 0)), (.iastore, (0, 0, 0, 0)), (.iinc 3 1, (0, 0, 0, 0))], (.nop, (0, 0, 0, 0)), [4]),
  (90, [(.aload_n 0, (0, 0, 0, 0)), (.getfield 56, (12, 23, 1, 0)), (.iload_n 1, (0, 0, 0, 0)), (.iaload, (0, 0, 0, 0)), (.aload_n 0, (0, 0, 0, 0)), (.getfield 122, (12, 24, 0, 0))], (.if_icmp .eq 16, (0, 0, 0, 0)), [6, 5]),
  (103, [(.aload_n 0, (0, 0, 0, 0)), (.getfield 56, (12, 23, 1, 0)), (.iload_n 1, (0, 0, 0, 0)), (.aload_n 0, (0, 0, 0, 0)), (.getfield 122, (12, 24, 0, 0)), (.iastore, (0, 0, 0, 0)), (.iinc 3 1, (0, 0, 0, 0))], (.nop, (0, 0, 0, 0)), [6]),
  (116, [(.iload_n 3, (0, 0, 0, 0))], (.ireturn, (0, 0, 0, 0)), [])]
/-- 69: TwinVaultsModel.period(I)Z -/
def bt_X12_period : List bi_K := [(0, [(.aload_n 0, (0, 0, 0, 0)), (.iconst 0, (0, 0, 0, 0)), (.putfield 1, (12, 0, 0, 0)), (.iload_n 1, (0, 0, 0, 0))], (.ifCond .lt 10, (0, 0, 0, 0)), [2, 1]),
  (9, [(.iload_n 1, (0, 0, 0, 0)), (.sipush 1000, (0, 0, 0, 0))], (.if_icmp .le 5, (0, 0, 0, 0)), [3, 2]),
  (16, [(.iconst 0, (0, 0, 0, 0))], (.ireturn, (1, 0, 0, 0)), []),
  (18, [(.aload_n 0, (0, 0, 0, 0)), (.iload_n 1, (0, 0, 0, 0)), (.putfield 442, (12, 4, 0, 0)), (.iconst 1, (0, 0, 0, 0))], (.ireturn, (1, 0, 0, 0)), [])]
/-- 70: TwinVaultsModel.piece(LTwinVaultsModel$Message;)V -/
def bt_X12_piece : List bi_K := [(0, [(.iconst 4, (0, 0, 0, 0)), (.aload_n 1, (0, 0, 0, 0)), (.getfield 243, (10, 5, 0, 0)), (.imul, (0, 0, 0, 0)), (.istore_n 2, (0, 0, 0, 0))], (.nop, (0, 0, 0, 0)), [1]),
  (7, [(.iload_n 2, (0, 0, 0, 0)), (.iconst 4, (0, 0, 0, 0)), (.aload_n 1, (0, 0, 0, 0)), (.getfield 243, (10, 5, 0, 0)), (.imul, (0, 0, 0, 0)), (.iconst 4, (0, 0, 0, 0)), (.iadd, (0, 0, 0, 0))], (.if_icmp .ge 98, (0, 0, 0, 0)), [4, 2]),
  (19, [(.iload_n 2, (0, 0, 0, 0)), (.aload_n 0, (0, 0, 0, 0)), (.getfield 128, (12, 28, 0, 0))], (.if_icmp .ge 90, (0, 0, 0, 0)), [4, 3]),
  (27, [(.aload_n 1, (0, 0, 0, 0)), (.getfield 253, (10, 8, 1, 0)), (.aload_n 1, (0, 0, 0, 0)), (.getfield 228, (10, 7, 0, 0)), (.aload_n 0, (0, 0, 0, 0)), (.getfield 68, (12, 29, 1, 0)), (.iload_n 2, (0, 0, 0, 0)), (.iaload, (0, 0, 0, 0)), (.aload_n 0, (0, 0, 0, 0)), (.getfield 27, (12, 13, 1, 0)), (.aload_n 1, (0, 0, 0, 0)), (.getfield 229, (10, 0, 1, 0)), (.getfield 134, (11, 0, 0, 0)), (.iaload, (0, 0, 0, 0)), (.idiv, (0, 0, 0, 0)), (.iastore, (0, 0, 0, 0)), (.aload_n 1, (0, 0, 0, 0)), (.getfield 259, (10, 9, 1, 0)), (.aload_n 1, (0, 0, 0, 0)), (.getfield 228, (10, 7, 0, 0)), (.aload_n 0, (0, 0, 0, 0)), (.getfield 68, (12, 29, 1, 0)), (.iload_n 2, (0, 0, 0, 0)), (.iaload, (0, 0, 0, 0)), (.aload_n 0, (0, 0, 0, 0)), (.getfield 27, (12, 13, 1, 0)), (.aload_n 1, (0, 0, 0, 0)), (.getfield 229, (10, 0, 1, 0)), (.getfield 134, (11, 0, 0, 0)), (.iaload, (0, 0, 0, 0)), (.irem, (0, 0, 0, 0)), (.iastore, (0, 0, 0, 0)), (.aload_n 1, (0, 0, 0, 0)), (.getfield 262, (10, 10, 1, 0)), (.aload_n 1, (0, 0, 0, 0)), (.getfield 228, (10, 7, 0, 0)), (.aload_n 0, (0, 0, 0, 0)), (.getfield 71, (12, 30, 1, 0)), (.iload_n 2, (0, 0, 0, 0)), (.iaload, (0, 0, 0, 0)), (.iastore, (0, 0, 0, 0)), (.aload_n 1, (0, 0, 0, 0)), (.dup, (0, 0, 0, 0)), (.getfield 228, (10, 7, 0, 0)), (.iconst 1, (0, 0, 0, 0)), (.iadd, (0, 0, 0, 0)), (.putfield 228, (10, 7, 0, 0)), (.iinc 2 1, (0, 0, 0, 0))], (.goto (-104), (0, 0, 0, 0)), [1]),
  (114, [], (.return_, (0, 0, 0, 0)), [])]
/-- 71: TwinVaultsModel.power(II)Z -/
def bt_X12_power : List bi_K := [(0, [(.aload_n 0, (0, 0, 0, 0)), (.iconst 0, (0, 0, 0, 0)), (.putfield 1, (12, 0, 0, 0)), (.iload_n 1, (0, 0, 0, 0)), (.invokestatic 454, (51, 1, 0, 0))], (.ifCond .eq 15, (0, 0, 0, 0)), [3, 1]),
  (12, [(.iload_n 2, (0, 0, 0, 0)), (.iconst (-1), (0, 0, 0, 0))], (.if_icmp .lt 10, (0, 0, 0, 0)), [3, 2]),
  (17, [(.iload_n 2, (0, 0, 0, 0)), (.ldc_w 457, (100000, 0, 0, 0))], (.if_icmp .le 5, (0, 0, 0, 0)), [4, 3]),
  (24, [(.iconst 0, (0, 0, 0, 0))], (.ireturn, (1, 0, 0, 0)), []),
  (26, [(.aload_n 0, (0, 0, 0, 0)), (.getfield 21, (12, 11, 1, 0)), (.iload_n 1, (0, 0, 0, 0)), (.iload_n 2, (0, 0, 0, 0)), (.iastore, (0, 0, 0, 0)), (.iconst 1, (0, 0, 0, 0))], (.ireturn, (1, 0, 0, 0)), [])]
/-- 72: TwinVaultsModel.read(III)I -/
def bt_X12_read : List bi_K := [(0, [(.aload_n 0, (0, 0, 0, 0)), (.iconst 0, (0, 0, 0, 0)), (.putfield 1, (12, 0, 0, 0)), (.aload_n 0, (0, 0, 0, 0)), (.iload_n 1, (0, 0, 0, 0)), (.invokevirtual 407, (62, 1, 12, 0)), (.astore 4, (0, 0, 0, 0)), (.aload_n 0, (0, 0, 0, 0)), (.aload 4, (0, 0, 0, 0)), (.iload_n 2, (0, 0, 0, 0)), (.iload_n 3, (0, 0, 0, 0)), (.invokevirtual 411, (50, 3, 12, 0))], (.ifCond .ne 9, (0, 0, 0, 0)), [2, 1]),
  (23, [(.aload_n 0, (0, 0, 0, 0)), (.iconst 1, (0, 0, 0, 0)), (.invokevirtual 465, (35, 1, 12, 0))], (.ireturn, (0, 0, 0, 0)), []),
  (29, [(.aload_n 0, (0, 0, 0, 0)), (.getfield 13, (12, 9, 1, 0)), (.aload 4, (0, 0, 0, 0)), (.getfield 131, (11, 1, 0, 0)), (.baload, (0, 0, 0, 0))], (.ifCond .ne 9, (0, 0, 0, 0)), [4, 3]),
  (42, [(.aload_n 0, (0, 0, 0, 0)), (.iconst 2, (0, 0, 0, 0)), (.invokevirtual 465, (35, 1, 12, 0))], (.ireturn, (0, 0, 0, 0)), []),
  (48, [(.aload_n 0, (0, 0, 0, 0)), (.aload 4, (0, 0, 0, 0)), (.invokevirtual 426, (54, 1, 12, 0)), (.aload_n 0, (0, 0, 0, 0)), (.getfield 37, (12, 17, 1, 0)), (.aload 4, (0, 0, 0, 0)), (.getfield 141, (11, 31, 1, 0)), (.iload_n 2, (0, 0, 0, 0)), (.aload_n 0, (0, 0, 0, 0)), (.getfield 27, (12, 13, 1, 0)), (.aload 4, (0, 0, 0, 0)), (.getfield 134, (11, 0, 0, 0)), (.iaload, (0, 0, 0, 0)), (.imul, (0, 0, 0, 0)), (.iload_n 3, (0, 0, 0, 0)), (.iadd, (0, 0, 0, 0)), (.iaload, (0, 0, 0, 0)), (.iaload, (0, 0, 0, 0))], (.ireturn, (0, 0, 0, 0)), [])]
/-- 73: TwinVaultsModel.receive(LTwinVaultsModel$Message;)V -/
def bt_X12_receive : List bi_K := [(0, [(.aload_n 0, (0, 0, 0, 0)), (.aload_n 1, (0, 0, 0, 0)), (.getfield 229, (10, 0, 1, 0)), (.invokevirtual 297, (66, 1, 12, 0)), (.astore_n 2, (0, 0, 0, 0)), (.aload_n 0, (0, 0, 0, 0)), (.getfield 13, (12, 9, 1, 0)), (.aload_n 2, (0, 0, 0, 0)), (.getfield 131, (11, 1, 0, 0)), (.baload, (0, 0, 0, 0))], (.ifCond .ne 4, (0, 0, 0, 0)), [2, 1]),
  (21, [], (.return_, (0, 0, 0, 0)), []),
  (22, [(.aload_n 1, (0, 0, 0, 0)), (.getfield 233, (10, 1, 0, 0)), (.aload_n 2, (0, 0, 0, 0)), (.getfield 201, (11, 3, 0, 0))], (.if_icmp .ge 40, (0, 0, 0, 0)), [8, 3]),
  (33, [(.aload_n 1, (0, 0, 0, 0)), (.getfield 234, (10, 2, 0, 0)), (.iconst 1, (0, 0, 0, 0))], (.if_icmp .eq 20, (0, 0, 0, 0)), [6, 4]),
  (41, [(.aload_n 1, (0, 0, 0, 0)), (.getfield 234, (10, 2, 0, 0)), (.iconst 3, (0, 0, 0, 0))], (.if_icmp .eq 12, (0, 0, 0, 0)), [6, 5]),
  (49, [(.aload_n 1, (0, 0, 0, 0)), (.getfield 234, (10, 2, 0, 0)), (.bipush 8, (0, 0, 0, 0))], (.if_icmp .ne 14, (0, 0, 0, 0)), [7, 6]),
  (58, [(.aload_n 0, (0, 0, 0, 0)), (.aload_n 2, (0, 0, 0, 0)), (.bipush 7, (0, 0, 0, 0)), (.iconst 0, (0, 0, 0, 0)), (.iconst 0, (0, 0, 0, 0)), (.iconst 0, (0, 0, 0, 0)), (.iconst 0, (0, 0, 0, 0)), (.invokevirtual 287, (74, 6, 12, 0))], (.nop, (0, 0, 0, 0)), [7]),
  (69, [], (.return_, (0, 0, 0, 0)), []),
  (70, [(.aload_n 1, (0, 0, 0, 0)), (.getfield 233, (10, 1, 0, 0)), (.aload_n 2, (0, 0, 0, 0)), (.getfield 201, (11, 3, 0, 0))], (.if_icmp .le 16, (0, 0, 0, 0)), [11, 9]),
  (81, [(.aload_n 0, (0, 0, 0, 0)), (.aload_n 2, (0, 0, 0, 0)), (.aload_n 1, (0, 0, 0, 0)), (.getfield 233, (10, 1, 0, 0)), (.invokevirtual 301, (40, 2, 12, 0))], (.ifCond .ne 4, (0, 0, 0, 0)), [11, 10]),
  (93, [], (.return_, (0, 0, 0, 0)), []),
  (94, [(.aload_n 2, (0, 0, 0, 0)), (.getfield 305, (11, 2, 0, 0)), (.iconst 1, (0, 0, 0, 0))], (.if_icmp .eq 11, (0, 0, 0, 0)), [13, 12]),
  (102, [(.aload_n 2, (0, 0, 0, 0)), (.getfield 305, (11, 2, 0, 0)), (.iconst 2, (0, 0, 0, 0))], (.if_icmp .ne 7, (0, 0, 0, 0)), [14, 13]),
  (110, [(.iconst 1, (0, 0, 0, 0))], (.goto 4, (0, 0, 0, 0)), [15]),
  (114, [(.iconst 0, (0, 0, 0, 0))], (.nop, (0, 0, 0, 0)), [15]),
  (115, [(.istore_n 3, (0, 0, 0, 0)), (.aload_n 1, (0, 0, 0, 0)), (.getfield 234, (10, 2, 0, 0))], (.tableswitch 356 1 11 #[60, 100, 76, 146, 192, 222, 356, 252, 356, 279, 311], (0, 0, 0, 0)), [50, 16, 21, 18, 26, 31, 35, 50, 39, 50, 42, 45]),
  (180, [(.aload_n 2, (0, 0, 0, 0)), (.getfield 305, (11, 2, 0, 0))], (.ifCond .ne 292, (0, 0, 0, 0)), [50, 17]),
  (187, [(.aload_n 0, (0, 0, 0, 0)), (.aload_n 2, (0, 0, 0, 0)), (.aload_n 1, (0, 0, 0, 0)), (.invokevirtual 308, (63, 2, 12, 0))], (.goto 283, (0, 0, 0, 0)), [50]),
  (196, [(.aload_n 2, (0, 0, 0, 0)), (.getfield 305, (11, 2, 0, 0))], (.ifCond .ne 276, (0, 0, 0, 0)), [50, 19]),
  (203, [(.aload_n 2, (0, 0, 0, 0)), (.aload_n 1, (0, 0, 0, 0)), (.invokestatic 312, (81, 2, 0, 0))], (.ifCond .eq 268, (0, 0, 0, 0)), [50, 20]),
  (211, [(.aload_n 0, (0, 0, 0, 0)), (.aload_n 2, (0, 0, 0, 0)), (.aload_n 1, (0, 0, 0, 0)), (.invokevirtual 316, (32, 2, 12, 0))], (.goto 259, (0, 0, 0, 0)), [50]),
  (220, [(.iload_n 3, (0, 0, 0, 0))], (.ifCond .eq 255, (0, 0, 0, 0)), [50, 22]),
  (224, [(.aload_n 2, (0, 0, 0, 0)), (.getfield 277, (11, 17, 0, 0)), (.iconst 1, (0, 0, 0, 0))], (.if_icmp .ne 247, (0, 0, 0, 0)), [50, 23]),
  (232, [(.aload_n 2, (0, 0, 0, 0)), (.getfield 265, (11, 16, 0, 0)), (.aload_n 1, (0, 0, 0, 0)), (.getfield 237, (10, 3, 0, 0))], (.if_icmp .ne 236, (0, 0, 0, 0)), [50, 24]),
  (243, [(.aload_n 2, (0, 0, 0, 0)), (.getfield 271, (11, 9, 0, 0)), (.aload_n 1, (0, 0, 0, 0)), (.getfield 240, (10, 4, 0, 0))], (.if_icmp .ne 225, (0, 0, 0, 0)), [50, 25]),
  (254, [(.aload_n 0, (0, 0, 0, 0)), (.aload_n 2, (0, 0, 0, 0)), (.aload_n 1, (0, 0, 0, 0)), (.getfield 243, (10, 5, 0, 0)), (.invokevirtual 319, (19, 2, 12, 0))], (.goto 213, (0, 0, 0, 0)), [50]),
  (266, [(.iload_n 3, (0, 0, 0, 0))], (.ifCond .eq 209, (0, 0, 0, 0)), [50, 27]),
  (270, [(.aload_n 2, (0, 0, 0, 0)), (.getfield 277, (11, 17, 0, 0)), (.iconst 2, (0, 0, 0, 0))], (.if_icmp .ne 201, (0, 0, 0, 0)), [50, 28]),
  (278, [(.aload_n 2, (0, 0, 0, 0)), (.getfield 265, (11, 16, 0, 0)), (.aload_n 1, (0, 0, 0, 0)), (.getfield 237, (10, 3, 0, 0))], (.if_icmp .ne 190, (0, 0, 0, 0)), [50, 29]),
  (289, [(.aload_n 2, (0, 0, 0, 0)), (.getfield 271, (11, 9, 0, 0)), (.aload_n 1, (0, 0, 0, 0)), (.getfield 240, (10, 4, 0, 0))], (.if_icmp .ne 179, (0, 0, 0, 0)), [50, 30]),
  (300, [(.aload_n 0, (0, 0, 0, 0)), (.aload_n 2, (0, 0, 0, 0)), (.aload_n 1, (0, 0, 0, 0)), (.getfield 243, (10, 5, 0, 0)), (.invokevirtual 323, (20, 2, 12, 0))], (.goto 167, (0, 0, 0, 0)), [50]),
  (312, [(.iload_n 3, (0, 0, 0, 0))], (.ifCond .eq 163, (0, 0, 0, 0)), [50, 32]),
  (316, [(.aload_n 2, (0, 0, 0, 0)), (.getfield 271, (11, 9, 0, 0))], (.ifCond .eq 156, (0, 0, 0, 0)), [50, 33]),
  (323, [(.aload_n 2, (0, 0, 0, 0)), (.getfield 271, (11, 9, 0, 0)), (.aload_n 1, (0, 0, 0, 0)), (.getfield 240, (10, 4, 0, 0))], (.if_icmp .ne 145, (0, 0, 0, 0)), [50, 34]),
  (334, [(.aload_n 0, (0, 0, 0, 0)), (.aload_n 2, (0, 0, 0, 0)), (.invokevirtual 326, (48, 1, 12, 0))], (.goto 137, (0, 0, 0, 0)), [50]),
  (342, [(.iload_n 3, (0, 0, 0, 0))], (.ifCond .eq 133, (0, 0, 0, 0)), [50, 36]),
  (346, [(.aload_n 2, (0, 0, 0, 0)), (.getfield 271, (11, 9, 0, 0))], (.ifCond .eq 126, (0, 0, 0, 0)), [50, 37]),
  (353, [(.aload_n 2, (0, 0, 0, 0)), (.getfield 277, (11, 17, 0, 0))], (.ifCond .le 119, (0, 0, 0, 0)), [50, 38]),
  (360, [(.aload_n 0, (0, 0, 0, 0)), (.aload_n 2, (0, 0, 0, 0)), (.aload_n 1, (0, 0, 0, 0)), (.getfield 240, (10, 4, 0, 0)), (.invokevirtual 329, (55, 2, 12, 0))], (.goto 107, (0, 0, 0, 0)), [50]),
  (372, [(.aload_n 2, (0, 0, 0, 0)), (.getfield 305, (11, 2, 0, 0))], (.ifCond .ne 100, (0, 0, 0, 0)), [50, 40]),
  (379, [(.aload_n 1, (0, 0, 0, 0)), (.getfield 240, (10, 4, 0, 0)), (.aload_n 2, (0, 0, 0, 0)), (.invokevirtual 208, (14, 0, 11, 0))], (.if_icmp .ne 89, (0, 0, 0, 0)), [50, 41]),
  (390, [(.aload_n 0, (0, 0, 0, 0)), (.aload_n 2, (0, 0, 0, 0)), (.aload_n 1, (0, 0, 0, 0)), (.invokevirtual 332, (43, 2, 12, 0))], (.goto 80, (0, 0, 0, 0)), [50]),
  (399, [(.aload_n 2, (0, 0, 0, 0)), (.getfield 305, (11, 2, 0, 0)), (.iconst 1, (0, 0, 0, 0))], (.if_icmp .ne 72, (0, 0, 0, 0)), [50, 43]),
  (407, [(.aload_n 2, (0, 0, 0, 0)), (.getfield 335, (11, 8, 0, 0)), (.sipush 4096, (0, 0, 0, 0)), (.aload_n 2, (0, 0, 0, 0)), (.getfield 201, (11, 3, 0, 0)), (.imul, (0, 0, 0, 0))], (.if_icmp .gt 57, (0, 0, 0, 0)), [50, 44]),
  (422, [(.aload_n 0, (0, 0, 0, 0)), (.aload_n 2, (0, 0, 0, 0)), (.aload_n 1, (0, 0, 0, 0)), (.invokevirtual 338, (46, 2, 12, 0))], (.goto 48, (0, 0, 0, 0)), [50]),
  (431, [(.aload_n 2, (0, 0, 0, 0)), (.getfield 305, (11, 2, 0, 0)), (.iconst 3, (0, 0, 0, 0))], (.if_icmp .ne 40, (0, 0, 0, 0)), [50, 46]),
  (439, [(.aload_n 2, (0, 0, 0, 0)), (.getfield 341, (11, 21, 2, 0))], (.ifCond .eq 33, (0, 0, 0, 0)), [50, 47]),
  (446, [(.aload_n 1, (0, 0, 0, 0)), (.getfield 240, (10, 4, 0, 0))], (.ifCond .eq 14, (0, 0, 0, 0)), [49, 48]),
  (453, [(.aload_n 2, (0, 0, 0, 0)), (.aload_n 1, (0, 0, 0, 0)), (.getfield 240, (10, 4, 0, 0)), (.invokevirtual 344, (10, 1, 11, 0))], (.ifCond .lt 15, (0, 0, 0, 0)), [50, 49]),
  (464, [(.aload_n 0, (0, 0, 0, 0)), (.aload_n 2, (0, 0, 0, 0)), (.aload_n 1, (0, 0, 0, 0)), (.getfield 240, (10, 4, 0, 0)), (.invokevirtual 348, (44, 2, 12, 0))], (.goto 3, (0, 0, 0, 0)), [50]),
  (476, [], (.return_, (0, 0, 0, 0)), [])]
/-- 74: TwinVaultsModel.send(LTwinVaultsModel$Store;IIIII)V -/
def bt_X12_send : List bi_K := [(0, [(.aload_n 0, (0, 0, 0, 0)), (.dup, (0, 0, 0, 0)), (.getfield 219, (12, 7, 0, 0)), (.iconst 1, (0, 0, 0, 0)), (.iadd, (0, 0, 0, 0)), (.putfield 219, (12, 7, 0, 0)), (.aload_n 0, (0, 0, 0, 0)), (.getfield 222, (12, 37, 0, 0)), (.bipush 60, (0, 0, 0, 0))], (.if_icmp .ne 14, (0, 0, 0, 0)), [2, 1]),
  (19, [(.aload_n 0, (0, 0, 0, 0)), (.dup, (0, 0, 0, 0)), (.getfield 225, (12, 8, 0, 0)), (.iconst 1, (0, 0, 0, 0)), (.iadd, (0, 0, 0, 0)), (.putfield 225, (12, 8, 0, 0))], (.return_, (0, 0, 0, 0)), []),
  (30, [(.aload_n 0, (0, 0, 0, 0)), (.dup, (0, 0, 0, 0)), (.getfield 118, (12, 38, 0, 0)), (.iconst 1, (0, 0, 0, 0)), (.isub, (0, 0, 0, 0)), (.putfield 118, (12, 38, 0, 0)), (.aload_n 0, (0, 0, 0, 0)), (.getfield 97, (12, 36, 1, 0)), (.aload_n 0, (0, 0, 0, 0)), (.getfield 118, (12, 38, 0, 0)), (.aaload, (0, 0, 0, 0)), (.astore 7, (0, 0, 0, 0)), (.aload 7, (0, 0, 0, 0)), (.iconst 0, (0, 0, 0, 0)), (.putfield 228, (10, 7, 0, 0)), (.aload 7, (0, 0, 0, 0)), (.aload_n 1, (0, 0, 0, 0)), (.putfield 229, (10, 0, 1, 0)), (.aload 7, (0, 0, 0, 0)), (.aload_n 1, (0, 0, 0, 0)), (.getfield 201, (11, 3, 0, 0)), (.putfield 233, (10, 1, 0, 0)), (.aload 7, (0, 0, 0, 0)), (.iload_n 2, (0, 0, 0, 0)), (.putfield 234, (10, 2, 0, 0)), (.aload 7, (0, 0, 0, 0)), (.iload_n 3, (0, 0, 0, 0)), (.putfield 237, (10, 3, 0, 0)), (.aload 7, (0, 0, 0, 0)), (.iload 4, (0, 0, 0, 0)), (.putfield 240, (10, 4, 0, 0)), (.aload 7, (0, 0, 0, 0)), (.iload 5, (0, 0, 0, 0)), (.putfield 243, (10, 5, 0, 0)), (.aload 7, (0, 0, 0, 0)), (.iload 6, (0, 0, 0, 0)), (.putfield 246, (10, 6, 0, 0)), (.iload_n 2, (0, 0, 0, 0)), (.iconst 3, (0, 0, 0, 0))], (.if_icmp .ne 9, (0, 0, 0, 0)), [4, 3]),
  (110, [(.aload_n 0, (0, 0, 0, 0)), (.aload 7, (0, 0, 0, 0)), (.invokevirtual 249, (70, 1, 12, 0))], (.nop, (0, 0, 0, 0)), [4]),
  (116, [(.aload_n 1, (0, 0, 0, 0)), (.getfield 156, (11, 7, 0, 0)), (.iconst 1, (0, 0, 0, 0)), (.isub, (0, 0, 0, 0)), (.istore 8, (0, 0, 0, 0))], (.nop, (0, 0, 0, 0)), [5]),
  (124, [(.iload 8, (0, 0, 0, 0))], (.ifCond .lt 68, (0, 0, 0, 0)), [8, 6]),
  (129, [(.iload_n 2, (0, 0, 0, 0)), (.bipush 10, (0, 0, 0, 0))], (.if_icmp .ne 62, (0, 0, 0, 0)), [8, 7]),
  (135, [(.aload 7, (0, 0, 0, 0)), (.getfield 253, (10, 8, 1, 0)), (.aload 7, (0, 0, 0, 0)), (.getfield 228, (10, 7, 0, 0)), (.aload_n 1, (0, 0, 0, 0)), (.getfield 256, (11, 14, 1, 0)), (.iload 8, (0, 0, 0, 0)), (.iaload, (0, 0, 0, 0)), (.iastore, (0, 0, 0, 0)), (.aload 7, (0, 0, 0, 0)), (.getfield 259, (10, 9, 1, 0)), (.aload 7, (0, 0, 0, 0)), (.getfield 228, (10, 7, 0, 0)), (.iconst 0, (0, 0, 0, 0)), (.iastore, (0, 0, 0, 0)), (.aload 7, (0, 0, 0, 0)), (.getfield 262, (10, 10, 1, 0)), (.aload 7, (0, 0, 0, 0)), (.getfield 228, (10, 7, 0, 0)), (.iconst 0, (0, 0, 0, 0)), (.iastore, (0, 0, 0, 0)), (.aload 7, (0, 0, 0, 0)), (.dup, (0, 0, 0, 0)), (.getfield 228, (10, 7, 0, 0)), (.iconst 1, (0, 0, 0, 0)), (.iadd, (0, 0, 0, 0)), (.putfield 228, (10, 7, 0, 0)), (.iinc 8 (-1), (0, 0, 0, 0))], (.goto (-67), (0, 0, 0, 0)), [5]),
  (194, [(.aload_n 0, (0, 0, 0, 0)), (.getfield 93, (12, 35, 1, 0)), (.aload_n 0, (0, 0, 0, 0)), (.getfield 222, (12, 37, 0, 0)), (.aload 7, (0, 0, 0, 0)), (.aastore, (0, 0, 0, 0)), (.aload_n 0, (0, 0, 0, 0)), (.dup, (0, 0, 0, 0)), (.getfield 222, (12, 37, 0, 0)), (.iconst 1, (0, 0, 0, 0)), (.iadd, (0, 0, 0, 0)), (.putfield 222, (12, 37, 0, 0))], (.return_, (0, 0, 0, 0)), [])]
/-- 75: TwinVaultsModel.sendsOn(LTwinVaultsModel$Store;)V -/
def bt_X12_sendsOn : List bi_K := [(0, [(.aload_n 0, (0, 0, 0, 0)), (.aload_n 1, (0, 0, 0, 0)), (.invokevirtual 283, (79, 1, 12, 0))], (.nop, (0, 0, 0, 0)), [1]),
  (5, [(.aload_n 1, (0, 0, 0, 0)), (.getfield 291, (11, 19, 0, 0)), (.aload_n 1, (0, 0, 0, 0)), (.getfield 294, (11, 18, 0, 0)), (.aload_n 0, (0, 0, 0, 0)), (.getfield 115, (12, 3, 0, 0)), (.iadd, (0, 0, 0, 0))], (.if_icmp .ge 48, (0, 0, 0, 0)), [4, 2]),
  (21, [(.iconst 4, (0, 0, 0, 0)), (.aload_n 1, (0, 0, 0, 0)), (.getfield 291, (11, 19, 0, 0)), (.imul, (0, 0, 0, 0)), (.aload_n 0, (0, 0, 0, 0)), (.getfield 128, (12, 28, 0, 0))], (.if_icmp .ge 35, (0, 0, 0, 0)), [4, 3]),
  (34, [(.aload_n 0, (0, 0, 0, 0)), (.aload_n 1, (0, 0, 0, 0)), (.iconst 3, (0, 0, 0, 0)), (.aload_n 1, (0, 0, 0, 0)), (.getfield 265, (11, 16, 0, 0)), (.aload_n 1, (0, 0, 0, 0)), (.getfield 271, (11, 9, 0, 0)), (.aload_n 1, (0, 0, 0, 0)), (.getfield 291, (11, 19, 0, 0)), (.iconst 0, (0, 0, 0, 0)), (.invokevirtual 287, (74, 6, 12, 0)), (.aload_n 1, (0, 0, 0, 0)), (.dup, (0, 0, 0, 0)), (.getfield 291, (11, 19, 0, 0)), (.iconst 1, (0, 0, 0, 0)), (.iadd, (0, 0, 0, 0)), (.putfield 291, (11, 19, 0, 0))], (.goto (-58), (0, 0, 0, 0)), [1]),
  (66, [], (.return_, (0, 0, 0, 0)), [])]
/-- 76: TwinVaultsModel.snap(III)I -/
def bt_X12_snap : List bi_K := [(0, [(.aload_n 0, (0, 0, 0, 0)), (.iconst 0, (0, 0, 0, 0)), (.putfield 1, (12, 0, 0, 0)), (.aload_n 0, (0, 0, 0, 0)), (.iload_n 1, (0, 0, 0, 0)), (.invokevirtual 407, (62, 1, 12, 0)), (.astore 4, (0, 0, 0, 0)), (.aload 4, (0, 0, 0, 0))], (.ifnull 25, (0, 0, 0, 0)), [5, 1]),
  (17, [(.iload_n 2, (0, 0, 0, 0))], (.ifCond .lt 21, (0, 0, 0, 0)), [5, 2]),
  (21, [(.iload_n 2, (0, 0, 0, 0)), (.aload 4, (0, 0, 0, 0)), (.getfield 156, (11, 7, 0, 0))], (.if_icmp .ge 12, (0, 0, 0, 0)), [5, 3]),
  (30, [(.iload_n 3, (0, 0, 0, 0))], (.ifCond .lt 8, (0, 0, 0, 0)), [5, 4]),
  (34, [(.iload_n 3, (0, 0, 0, 0)), (.iconst 1, (0, 0, 0, 0))], (.if_icmp .le 6, (0, 0, 0, 0)), [6, 5]),
  (39, [(.bipush (-2), (0, 0, 0, 0))], (.ireturn, (0, 0, 0, 0)), []),
  (42, [(.iload_n 3, (0, 0, 0, 0))], (.ifCond .ne 13, (0, 0, 0, 0)), [8, 7]),
  (46, [(.aload 4, (0, 0, 0, 0)), (.getfield 256, (11, 14, 1, 0)), (.iload_n 2, (0, 0, 0, 0)), (.iaload, (0, 0, 0, 0))], (.goto 15, (0, 0, 0, 0)), [9]),
  (56, [(.aload_n 0, (0, 0, 0, 0)), (.getfield 40, (12, 18, 1, 0)), (.aload 4, (0, 0, 0, 0)), (.getfield 162, (11, 15, 1, 0)), (.iload_n 2, (0, 0, 0, 0)), (.iaload, (0, 0, 0, 0)), (.iaload, (0, 0, 0, 0))], (.nop, (0, 0, 0, 0)), [9]),
  (68, [], (.ireturn, (0, 0, 0, 0)), [])]
/-- 77: TwinVaultsModel.snapshot(I)I -/
def bt_X12_snapshot : List bi_K := [(0, [(.aload_n 0, (0, 0, 0, 0)), (.iconst 0, (0, 0, 0, 0)), (.putfield 1, (12, 0, 0, 0)), (.aload_n 0, (0, 0, 0, 0)), (.iload_n 1, (0, 0, 0, 0)), (.invokevirtual 407, (62, 1, 12, 0)), (.astore_n 2, (0, 0, 0, 0)), (.aload_n 0, (0, 0, 0, 0)), (.aload_n 2, (0, 0, 0, 0)), (.iconst 1, (0, 0, 0, 0)), (.iconst 1, (0, 0, 0, 0)), (.invokevirtual 429, (24, 3, 12, 0)), (.istore_n 3, (0, 0, 0, 0)), (.iload_n 3, (0, 0, 0, 0))], (.ifCond .ge 5, (0, 0, 0, 0)), [2, 1]),
  (23, [(.iload_n 3, (0, 0, 0, 0))], (.ireturn, (0, 0, 0, 0)), []),
  (25, [(.aload_n 2, (0, 0, 0, 0)), (.getfield 144, (11, 4, 0, 0)), (.aload_n 2, (0, 0, 0, 0)), (.invokevirtual 433, (15, 0, 11, 0))], (.if_icmp .ne 5, (0, 0, 0, 0)), [4, 3]),
  (36, [(.iconst 0, (0, 0, 0, 0))], (.ireturn, (0, 0, 0, 0)), []),
  (38, [(.aload_n 2, (0, 0, 0, 0)), (.getfield 198, (11, 13, 0, 0)), (.sipush 4095, (0, 0, 0, 0))], (.if_icmp .ne 6, (0, 0, 0, 0)), [6, 5]),
  (48, [(.bipush (-5), (0, 0, 0, 0))], (.ireturn, (0, 0, 0, 0)), []),
  (51, [(.aload_n 0, (0, 0, 0, 0)), (.aload_n 2, (0, 0, 0, 0)), (.invokevirtual 436, (85, 1, 12, 0))], (.ifCond .eq 10, (0, 0, 0, 0)), [8, 7]),
  (59, [(.aload_n 2, (0, 0, 0, 0)), (.invokevirtual 208, (14, 0, 11, 0))], (.goto 5, (0, 0, 0, 0)), [9]),
  (66, [(.bipush (-3), (0, 0, 0, 0))], (.nop, (0, 0, 0, 0)), [9]),
  (68, [], (.ireturn, (0, 0, 0, 0)), [])]
/-- 78: TwinVaultsModel.span(III)V -/
def bt_X12_span : List bi_K := [(0, [(.iload_n 1, (0, 0, 0, 0)), (.aload_n 0, (0, 0, 0, 0)), (.getfield 65, (12, 27, 0, 0))], (.if_icmp .ne 20, (0, 0, 0, 0)), [4, 1]),
  (8, [(.iload_n 2, (0, 0, 0, 0)), (.aload_n 0, (0, 0, 0, 0)), (.getfield 59, (12, 25, 0, 0))], (.if_icmp .ne 12, (0, 0, 0, 0)), [4, 2]),
  (16, [(.iload_n 3, (0, 0, 0, 0)), (.aload_n 0, (0, 0, 0, 0)), (.getfield 62, (12, 26, 0, 0))], (.if_icmp .ne 4, (0, 0, 0, 0)), [4, 3]),
  (24, [], (.return_, (0, 0, 0, 0)), []),
  (25, [(.aload_n 0, (0, 0, 0, 0)), (.iload_n 1, (0, 0, 0, 0)), (.putfield 65, (12, 27, 0, 0)), (.aload_n 0, (0, 0, 0, 0)), (.iload_n 2, (0, 0, 0, 0)), (.putfield 59, (12, 25, 0, 0)), (.aload_n 0, (0, 0, 0, 0)), (.iload_n 3, (0, 0, 0, 0)), (.putfield 62, (12, 26, 0, 0)), (.aload_n 0, (0, 0, 0, 0)), (.dup, (0, 0, 0, 0)), (.getfield 122, (12, 24, 0, 0)), (.iconst 1, (0, 0, 0, 0)), (.iadd, (0, 0, 0, 0)), (.putfield 122, (12, 24, 0, 0)), (.iload_n 3, (0, 0, 0, 0)), (.istore 4, (0, 0, 0, 0))], (.nop, (0, 0, 0, 0)), [5]),
  (53, [(.iload 4, (0, 0, 0, 0)), (.iload_n 2, (0, 0, 0, 0))], (.if_icmp .eq 72, (0, 0, 0, 0)), [10, 6]),
  (59, [(.aload_n 0, (0, 0, 0, 0)), (.getfield 44, (12, 19, 1, 0)), (.aload_n 0, (0, 0, 0, 0)), (.getfield 34, (12, 16, 1, 0)), (.iload 4, (0, 0, 0, 0)), (.iaload, (0, 0, 0, 0)), (.iaload, (0, 0, 0, 0)), (.aload_n 0, (0, 0, 0, 0)), (.getfield 122, (12, 24, 0, 0))], (.if_icmp .ne 6, (0, 0, 0, 0)), [8, 7]),
  (78, [], (.goto 38, (0, 0, 0, 0)), [9]),
  (81, [(.aload_n 0, (0, 0, 0, 0)), (.getfield 44, (12, 19, 1, 0)), (.aload_n 0, (0, 0, 0, 0)), (.getfield 34, (12, 16, 1, 0)), (.iload 4, (0, 0, 0, 0)), (.iaload, (0, 0, 0, 0)), (.aload_n 0, (0, 0, 0, 0)), (.getfield 122, (12, 24, 0, 0)), (.iastore, (0, 0, 0, 0)), (.aload_n 0, (0, 0, 0, 0)), (.getfield 47, (12, 20, 1, 0)), (.aload_n 0, (0, 0, 0, 0)), (.getfield 34, (12, 16, 1, 0)), (.iload 4, (0, 0, 0, 0)), (.iaload, (0, 0, 0, 0)), (.aload_n 0, (0, 0, 0, 0)), (.getfield 37, (12, 17, 1, 0)), (.iload 4, (0, 0, 0, 0)), (.iaload, (0, 0, 0, 0)), (.iastore, (0, 0, 0, 0))], (.nop, (0, 0, 0, 0)), [9]),
  (116, [(.aload_n 0, (0, 0, 0, 0)), (.getfield 31, (12, 15, 1, 0)), (.iload 4, (0, 0, 0, 0)), (.iaload, (0, 0, 0, 0)), (.istore 4, (0, 0, 0, 0))], (.goto (-72), (0, 0, 0, 0)), [5]),
  (128, [(.aload_n 0, (0, 0, 0, 0)), (.iconst 0, (0, 0, 0, 0)), (.putfield 128, (12, 28, 0, 0)), (.iconst 0, (0, 0, 0, 0)), (.istore 4, (0, 0, 0, 0))], (.nop, (0, 0, 0, 0)), [11]),
  (136, [(.iload 4, (0, 0, 0, 0)), (.aload_n 0, (0, 0, 0, 0)), (.getfield 24, (12, 12, 1, 0)), (.iload_n 1, (0, 0, 0, 0)), (.iaload, (0, 0, 0, 0)), (.aload_n 0, (0, 0, 0, 0)), (.getfield 27, (12, 13, 1, 0)), (.iload_n 1, (0, 0, 0, 0)), (.iaload, (0, 0, 0, 0)), (.imul, (0, 0, 0, 0))], (.if_icmp .ge 63, (0, 0, 0, 0)), [16, 12]),
  (154, [(.aload_n 0, (0, 0, 0, 0)), (.getfield 44, (12, 19, 1, 0)), (.iload 4, (0, 0, 0, 0)), (.iaload, (0, 0, 0, 0)), (.aload_n 0, (0, 0, 0, 0)), (.getfield 122, (12, 24, 0, 0))], (.if_icmp .eq 6, (0, 0, 0, 0)), [14, 13]),
  (168, [], (.goto 40, (0, 0, 0, 0)), [15]),
  (171, [(.aload_n 0, (0, 0, 0, 0)), (.getfield 68, (12, 29, 1, 0)), (.aload_n 0, (0, 0, 0, 0)), (.getfield 128, (12, 28, 0, 0)), (.iload 4, (0, 0, 0, 0)), (.iastore, (0, 0, 0, 0)), (.aload_n 0, (0, 0, 0, 0)), (.getfield 71, (12, 30, 1, 0)), (.aload_n 0, (0, 0, 0, 0)), (.getfield 128, (12, 28, 0, 0)), (.aload_n 0, (0, 0, 0, 0)), (.getfield 47, (12, 20, 1, 0)), (.iload 4, (0, 0, 0, 0)), (.iaload, (0, 0, 0, 0)), (.iastore, (0, 0, 0, 0)), (.aload_n 0, (0, 0, 0, 0)), (.dup, (0, 0, 0, 0)), (.getfield 128, (12, 28, 0, 0)), (.iconst 1, (0, 0, 0, 0)), (.iadd, (0, 0, 0, 0)), (.putfield 128, (12, 28, 0, 0))], (.nop, (0, 0, 0, 0)), [15]),
  (208, [(.iinc 4 1, (0, 0, 0, 0))], (.goto (-75), (0, 0, 0, 0)), [11]),
  (214, [], (.return_, (0, 0, 0, 0)), [])]
/-- 79: TwinVaultsModel.spanOf(LTwinVaultsModel$Store;)V -/
def bt_X12_spanOf : List bi_K := [(0, [(.aload_n 0, (0, 0, 0, 0)), (.aload_n 1, (0, 0, 0, 0)), (.getfield 134, (11, 0, 0, 0)), (.aload_n 0, (0, 0, 0, 0)), (.aload_n 1, (0, 0, 0, 0)), (.getfield 134, (11, 0, 0, 0)), (.aload_n 1, (0, 0, 0, 0)), (.getfield 265, (11, 16, 0, 0)), (.invokevirtual 268, (57, 2, 12, 0)), (.aload_n 0, (0, 0, 0, 0)), (.aload_n 1, (0, 0, 0, 0)), (.getfield 134, (11, 0, 0, 0)), (.aload_n 1, (0, 0, 0, 0)), (.getfield 271, (11, 9, 0, 0)), (.invokevirtual 268, (57, 2, 12, 0)), (.invokevirtual 274, (78, 3, 12, 0))], (.return_, (0, 0, 0, 0)), [])]
/-- 80: TwinVaultsModel.staged(LTwinVaultsModel$Store;I)V -/
def bt_X12_staged : List bi_K := [(0, [(.aload_n 1, (0, 0, 0, 0)), (.invokevirtual 378, (11, 0, 11, 0))], (.ifCond .ne 23, (0, 0, 0, 0)), [2, 1]),
  (7, [(.aload_n 0, (0, 0, 0, 0)), (.aload_n 1, (0, 0, 0, 0)), (.iload_n 2, (0, 0, 0, 0)), (.aload_n 1, (0, 0, 0, 0)), (.getfield 366, (11, 23, 0, 0)), (.aload_n 1, (0, 0, 0, 0)), (.getfield 369, (11, 24, 0, 0)), (.aload_n 1, (0, 0, 0, 0)), (.getfield 382, (11, 26, 0, 0)), (.iconst 0, (0, 0, 0, 0)), (.invokevirtual 287, (74, 6, 12, 0))], (.return_, (0, 0, 0, 0)), []),
  (27, [(.aload_n 0, (0, 0, 0, 0)), (.aload_n 1, (0, 0, 0, 0)), (.getfield 134, (11, 0, 0, 0)), (.aload_n 1, (0, 0, 0, 0)), (.getfield 366, (11, 23, 0, 0)), (.invokevirtual 268, (57, 2, 12, 0)), (.istore_n 3, (0, 0, 0, 0)), (.aload_n 0, (0, 0, 0, 0)), (.aload_n 1, (0, 0, 0, 0)), (.getfield 134, (11, 0, 0, 0)), (.aload_n 1, (0, 0, 0, 0)), (.getfield 369, (11, 24, 0, 0)), (.invokevirtual 268, (57, 2, 12, 0)), (.istore 4, (0, 0, 0, 0)), (.aload_n 0, (0, 0, 0, 0)), (.aload_n 1, (0, 0, 0, 0)), (.getfield 131, (11, 1, 0, 0)), (.aload_n 0, (0, 0, 0, 0)), (.aload_n 1, (0, 0, 0, 0)), (.getfield 134, (11, 0, 0, 0)), (.iload_n 3, (0, 0, 0, 0)), (.iload 4, (0, 0, 0, 0)), (.invokevirtual 191, (61, 3, 12, 0)), (.iconst 1, (0, 0, 0, 0)), (.iadd, (0, 0, 0, 0)), (.invokevirtual 195, (22, 2, 12, 0))], (.ifCond .ne 4, (0, 0, 0, 0)), [4, 3]),
  (78, [], (.return_, (0, 0, 0, 0)), []),
  (79, [(.aload_n 1, (0, 0, 0, 0)), (.getfield 366, (11, 23, 0, 0))], (.ifCond .ne 8, (0, 0, 0, 0)), [6, 5]),
  (86, [(.aload_n 1, (0, 0, 0, 0)), (.iconst 0, (0, 0, 0, 0)), (.putfield 156, (11, 7, 0, 0))], (.nop, (0, 0, 0, 0)), [6]),
  (91, [(.aload_n 1, (0, 0, 0, 0)), (.getfield 369, (11, 24, 0, 0)), (.istore 5, (0, 0, 0, 0)), (.aload_n 1, (0, 0, 0, 0)), (.invokevirtual 360, (17, 0, 11, 0)), (.aload_n 1, (0, 0, 0, 0)), (.iload 5, (0, 0, 0, 0)), (.iload 4, (0, 0, 0, 0)), (.invokevirtual 204, (16, 2, 11, 0)), (.aload_n 1, (0, 0, 0, 0)), (.iload 4, (0, 0, 0, 0)), (.putfield 144, (11, 4, 0, 0)), (.aload_n 1, (0, 0, 0, 0)), (.iload 4, (0, 0, 0, 0)), (.putfield 185, (11, 5, 0, 0)), (.aload_n 1, (0, 0, 0, 0)), (.iload 4, (0, 0, 0, 0)), (.putfield 159, (11, 6, 0, 0)), (.aload_n 1, (0, 0, 0, 0)), (.iconst 0, (0, 0, 0, 0)), (.putfield 137, (11, 32, 2, 0)), (.aload_n 1, (0, 0, 0, 0)), (.aload_n 0, (0, 0, 0, 0)), (.getfield 112, (12, 2, 0, 0)), (.invokevirtual 216, (18, 1, 11, 0)), (.aload_n 0, (0, 0, 0, 0)), (.aload_n 1, (0, 0, 0, 0)), (.iconst 5, (0, 0, 0, 0)), (.iconst 0, (0, 0, 0, 0)), (.iload 5, (0, 0, 0, 0)), (.iconst 0, (0, 0, 0, 0)), (.iconst 0, (0, 0, 0, 0)), (.invokevirtual 287, (74, 6, 12, 0))], (.return_, (0, 0, 0, 0)), [])]
/-- 81: TwinVaultsModel.stagesJust(LTwinVaultsModel$Store;LTwinVaultsModel$Message;)Z -/
def bt_X12_stagesJust : List bi_K := [(0, [(.aload_n 0, (0, 0, 0, 0)), (.getfield 363, (11, 22, 2, 0))], (.ifCond .eq 29, (0, 0, 0, 0)), [4, 1]),
  (7, [(.aload_n 0, (0, 0, 0, 0)), (.getfield 366, (11, 23, 0, 0)), (.aload_n 1, (0, 0, 0, 0)), (.getfield 237, (10, 3, 0, 0))], (.if_icmp .ne 18, (0, 0, 0, 0)), [4, 2]),
  (18, [(.aload_n 0, (0, 0, 0, 0)), (.getfield 369, (11, 24, 0, 0)), (.aload_n 1, (0, 0, 0, 0)), (.getfield 240, (10, 4, 0, 0))], (.if_icmp .ne 7, (0, 0, 0, 0)), [4, 3]),
  (29, [(.iconst 1, (0, 0, 0, 0))], (.goto 4, (0, 0, 0, 0)), [5]),
  (33, [(.iconst 0, (0, 0, 0, 0))], (.nop, (0, 0, 0, 0)), [5]),
  (34, [], (.ireturn, (1, 0, 0, 0)), [])]
/-- 82: TwinVaultsModel.state(II)I -/
def bt_X12_state : List bi_K := [(0, [(.aload_n 0, (0, 0, 0, 0)), (.iconst 0, (0, 0, 0, 0)), (.putfield 1, (12, 0, 0, 0)), (.aload_n 0, (0, 0, 0, 0)), (.iload_n 1, (0, 0, 0, 0)), (.invokevirtual 407, (62, 1, 12, 0)), (.astore_n 3, (0, 0, 0, 0)), (.aload_n 3, (0, 0, 0, 0))], (.ifnonnull 6, (0, 0, 0, 0)), [2, 1]),
  (15, [(.bipush (-2), (0, 0, 0, 0))], (.ireturn, (0, 0, 0, 0)), []),
  (18, [(.iload_n 2, (0, 0, 0, 0))], (.tableswitch 263 0 24 #[113, 118, 123, 133, 143, 153, 158, 163, 168, 173, 178, 183, 188, 193, 198, 203, 208, 213, 226, 231, 236, 241, 246, 252, 258], (0, 0, 0, 0)), [31, 3, 4, 5, 6, 7, 8, 9, 10, 11, 12, 13, 14, 15, 16, 17, 18, 19, 20, 24, 25, 26, 27, 28, 29, 30]),
  (132, [(.aload_n 3, (0, 0, 0, 0)), (.getfield 305, (11, 2, 0, 0))], (.ireturn, (0, 0, 0, 0)), []),
  (137, [(.aload_n 3, (0, 0, 0, 0)), (.getfield 201, (11, 3, 0, 0))], (.ireturn, (0, 0, 0, 0)), []),
  (142, [(.aload_n 0, (0, 0, 0, 0)), (.getfield 40, (12, 18, 1, 0)), (.aload_n 3, (0, 0, 0, 0)), (.getfield 144, (11, 4, 0, 0)), (.iaload, (0, 0, 0, 0))], (.ireturn, (0, 0, 0, 0)), []),
  (152, [(.aload_n 0, (0, 0, 0, 0)), (.getfield 40, (12, 18, 1, 0)), (.aload_n 3, (0, 0, 0, 0)), (.getfield 185, (11, 5, 0, 0)), (.iaload, (0, 0, 0, 0))], (.ireturn, (0, 0, 0, 0)), []),
  (162, [(.aload_n 0, (0, 0, 0, 0)), (.getfield 40, (12, 18, 1, 0)), (.aload_n 3, (0, 0, 0, 0)), (.getfield 159, (11, 6, 0, 0)), (.iaload, (0, 0, 0, 0))], (.ireturn, (0, 0, 0, 0)), []),
  (172, [(.aload_n 3, (0, 0, 0, 0)), (.getfield 156, (11, 7, 0, 0))], (.ireturn, (0, 0, 0, 0)), []),
  (177, [(.aload_n 3, (0, 0, 0, 0)), (.invokevirtual 208, (14, 0, 11, 0))], (.ireturn, (0, 0, 0, 0)), []),
  (182, [(.aload_n 3, (0, 0, 0, 0)), (.getfield 335, (11, 8, 0, 0))], (.ireturn, (0, 0, 0, 0)), []),
  (187, [(.aload_n 3, (0, 0, 0, 0)), (.getfield 271, (11, 9, 0, 0))], (.ireturn, (0, 0, 0, 0)), []),
  (192, [(.aload_n 3, (0, 0, 0, 0)), (.getfield 354, (11, 10, 0, 0))], (.ireturn, (0, 0, 0, 0)), []),
  (197, [(.aload_n 3, (0, 0, 0, 0)), (.getfield 357, (11, 11, 0, 0))], (.ireturn, (0, 0, 0, 0)), []),
  (202, [(.aload_n 3, (0, 0, 0, 0)), (.getfield 351, (11, 12, 0, 0))], (.ireturn, (0, 0, 0, 0)), []),
  (207, [(.aload_n 3, (0, 0, 0, 0)), (.getfield 265, (11, 16, 0, 0))], (.ireturn, (0, 0, 0, 0)), []),
  (212, [(.aload_n 3, (0, 0, 0, 0)), (.getfield 277, (11, 17, 0, 0))], (.ireturn, (0, 0, 0, 0)), []),
  (217, [(.aload_n 3, (0, 0, 0, 0)), (.getfield 294, (11, 18, 0, 0))], (.ireturn, (0, 0, 0, 0)), []),
  (222, [(.aload_n 3, (0, 0, 0, 0)), (.getfield 291, (11, 19, 0, 0))], (.ireturn, (0, 0, 0, 0)), []),
  (227, [(.aload_n 3, (0, 0, 0, 0)), (.getfield 280, (11, 20, 0, 0))], (.ireturn, (0, 0, 0, 0)), []),
  (232, [(.aload_n 3, (0, 0, 0, 0)), (.getfield 341, (11, 21, 2, 0))], (.ifCond .eq 7, (0, 0, 0, 0)), [22, 21]),
  (239, [(.iconst 1, (0, 0, 0, 0))], (.goto 4, (0, 0, 0, 0)), [23]),
  (243, [(.iconst 0, (0, 0, 0, 0))], (.nop, (0, 0, 0, 0)), [23]),
  (244, [], (.ireturn, (0, 0, 0, 0)), []),
  (245, [(.aload_n 3, (0, 0, 0, 0)), (.getfield 382, (11, 26, 0, 0))], (.ireturn, (0, 0, 0, 0)), []),
  (250, [(.aload_n 3, (0, 0, 0, 0)), (.getfield 153, (11, 27, 0, 0))], (.ireturn, (0, 0, 0, 0)), []),
  (255, [(.aload_n 3, (0, 0, 0, 0)), (.getfield 369, (11, 24, 0, 0))], (.ireturn, (0, 0, 0, 0)), []),
  (260, [(.aload_n 3, (0, 0, 0, 0)), (.getfield 388, (11, 28, 0, 0))], (.ireturn, (0, 0, 0, 0)), []),
  (265, [(.aload_n 3, (0, 0, 0, 0)), (.getfield 400, (11, 29, 1, 0)), (.arraylength, (0, 0, 0, 0))], (.ireturn, (0, 0, 0, 0)), []),
  (271, [(.aload_n 0, (0, 0, 0, 0)), (.aload_n 3, (0, 0, 0, 0)), (.invokevirtual 171, (60, 1, 12, 0))], (.ireturn, (0, 0, 0, 0)), []),
  (277, [(.aload_n 3, (0, 0, 0, 0)), (.getfield 198, (11, 13, 0, 0))], (.ireturn, (0, 0, 0, 0)), []),
  (282, [(.bipush (-2), (0, 0, 0, 0))], (.ireturn, (0, 0, 0, 0)), [])]
/-- 83: TwinVaultsModel.stay(I)I -/
def bt_X12_stay : List bi_K := [(0, [(.aload_n 0, (0, 0, 0, 0)), (.iconst 0, (0, 0, 0, 0)), (.putfield 1, (12, 0, 0, 0)), (.aload_n 0, (0, 0, 0, 0)), (.iload_n 1, (0, 0, 0, 0)), (.invokevirtual 407, (62, 1, 12, 0)), (.astore_n 2, (0, 0, 0, 0)), (.aload_n 0, (0, 0, 0, 0)), (.aload_n 2, (0, 0, 0, 0)), (.iconst 2, (0, 0, 0, 0)), (.iconst 2, (0, 0, 0, 0)), (.invokevirtual 429, (24, 3, 12, 0)), (.istore_n 3, (0, 0, 0, 0)), (.iload_n 3, (0, 0, 0, 0))], (.ifCond .ge 5, (0, 0, 0, 0)), [2, 1]),
  (23, [(.iload_n 3, (0, 0, 0, 0))], (.ireturn, (0, 0, 0, 0)), []),
  (25, [(.aload_n 2, (0, 0, 0, 0)), (.getfield 351, (11, 12, 0, 0))], (.ifCond .eq 6, (0, 0, 0, 0)), [4, 3]),
  (32, [(.bipush (-4), (0, 0, 0, 0))], (.ireturn, (0, 0, 0, 0)), []),
  (35, [(.aload_n 0, (0, 0, 0, 0)), (.aload_n 2, (0, 0, 0, 0)), (.getfield 131, (11, 1, 0, 0)), (.invokevirtual 178, (21, 1, 12, 0))], (.ifCond .ne 6, (0, 0, 0, 0)), [6, 5]),
  (46, [(.bipush (-3), (0, 0, 0, 0))], (.ireturn, (0, 0, 0, 0)), []),
  (49, [(.aload_n 2, (0, 0, 0, 0)), (.iconst 1, (0, 0, 0, 0)), (.putfield 305, (11, 2, 0, 0)), (.iconst 0, (0, 0, 0, 0))], (.ireturn, (0, 0, 0, 0)), [])]
/-- 84: TwinVaultsModel.sum(II)I -/
def bt_X12_sum : List bi_K := [(0, [(.aload_n 0, (0, 0, 0, 0)), (.iconst 0, (0, 0, 0, 0)), (.putfield 1, (12, 0, 0, 0)), (.aload_n 0, (0, 0, 0, 0)), (.iload_n 1, (0, 0, 0, 0)), (.invokevirtual 407, (62, 1, 12, 0)), (.astore_n 3, (0, 0, 0, 0)), (.aload_n 0, (0, 0, 0, 0)), (.aload_n 3, (0, 0, 0, 0)), (.iload_n 2, (0, 0, 0, 0)), (.iconst 0, (0, 0, 0, 0)), (.invokevirtual 411, (50, 3, 12, 0))], (.ifCond .ne 9, (0, 0, 0, 0)), [2, 1]),
  (21, [(.aload_n 0, (0, 0, 0, 0)), (.iconst 1, (0, 0, 0, 0)), (.invokevirtual 465, (35, 1, 12, 0))], (.ireturn, (0, 0, 0, 0)), []),
  (27, [(.aload_n 0, (0, 0, 0, 0)), (.getfield 13, (12, 9, 1, 0)), (.aload_n 3, (0, 0, 0, 0)), (.getfield 131, (11, 1, 0, 0)), (.baload, (0, 0, 0, 0))], (.ifCond .ne 9, (0, 0, 0, 0)), [4, 3]),
  (39, [(.aload_n 0, (0, 0, 0, 0)), (.iconst 2, (0, 0, 0, 0)), (.invokevirtual 465, (35, 1, 12, 0))], (.ireturn, (0, 0, 0, 0)), []),
  (45, [(.aload_n 0, (0, 0, 0, 0)), (.aload_n 3, (0, 0, 0, 0)), (.invokevirtual 426, (54, 1, 12, 0)), (.iconst 0, (0, 0, 0, 0)), (.istore 4, (0, 0, 0, 0)), (.iconst 0, (0, 0, 0, 0)), (.istore 5, (0, 0, 0, 0))], (.nop, (0, 0, 0, 0)), [5]),
  (56, [(.iload 5, (0, 0, 0, 0)), (.aload_n 0, (0, 0, 0, 0)), (.getfield 27, (12, 13, 1, 0)), (.aload_n 3, (0, 0, 0, 0)), (.getfield 134, (11, 0, 0, 0)), (.iaload, (0, 0, 0, 0))], (.if_icmp .ge 41, (0, 0, 0, 0)), [7, 6]),
  (70, [(.bipush 31, (0, 0, 0, 0)), (.iload 4, (0, 0, 0, 0)), (.imul, (0, 0, 0, 0)), (.aload_n 0, (0, 0, 0, 0)), (.getfield 37, (12, 17, 1, 0)), (.aload_n 3, (0, 0, 0, 0)), (.getfield 141, (11, 31, 1, 0)), (.iload_n 2, (0, 0, 0, 0)), (.aload_n 0, (0, 0, 0, 0)), (.getfield 27, (12, 13, 1, 0)), (.aload_n 3, (0, 0, 0, 0)), (.getfield 134, (11, 0, 0, 0)), (.iaload, (0, 0, 0, 0)), (.imul, (0, 0, 0, 0)), (.iload 5, (0, 0, 0, 0)), (.iadd, (0, 0, 0, 0)), (.iaload, (0, 0, 0, 0)), (.iaload, (0, 0, 0, 0)), (.iadd, (0, 0, 0, 0)), (.istore 4, (0, 0, 0, 0)), (.iinc 5 1, (0, 0, 0, 0))], (.goto (-49), (0, 0, 0, 0)), [5]),
  (108, [(.iload 4, (0, 0, 0, 0))], (.ireturn, (0, 0, 0, 0)), [])]
/-- 85: TwinVaultsModel.takes(LTwinVaultsModel$Store;)Z -/
def bt_X12_takes : List bi_K := [(0, [(.aload_n 0, (0, 0, 0, 0)), (.aload_n 1, (0, 0, 0, 0)), (.invokevirtual 182, (28, 1, 12, 0))], (.ifCond .lt 14, (0, 0, 0, 0)), [2, 1]),
  (8, [(.aload_n 0, (0, 0, 0, 0)), (.aload_n 1, (0, 0, 0, 0)), (.getfield 131, (11, 1, 0, 0)), (.invokevirtual 178, (21, 1, 12, 0))], (.ifCond .ne 5, (0, 0, 0, 0)), [3, 2]),
  (19, [(.iconst 0, (0, 0, 0, 0))], (.ireturn, (1, 0, 0, 0)), []),
  (21, [(.aload_n 1, (0, 0, 0, 0)), (.dup, (0, 0, 0, 0)), (.getfield 198, (11, 13, 0, 0)), (.iconst 1, (0, 0, 0, 0)), (.iadd, (0, 0, 0, 0)), (.putfield 198, (11, 13, 0, 0)), (.aload_n 1, (0, 0, 0, 0)), (.sipush 4096, (0, 0, 0, 0)), (.aload_n 1, (0, 0, 0, 0)), (.getfield 201, (11, 3, 0, 0)), (.imul, (0, 0, 0, 0)), (.aload_n 1, (0, 0, 0, 0)), (.getfield 198, (11, 13, 0, 0)), (.iadd, (0, 0, 0, 0)), (.aload_n 1, (0, 0, 0, 0)), (.getfield 144, (11, 4, 0, 0)), (.invokevirtual 204, (16, 2, 11, 0)), (.aload_n 0, (0, 0, 0, 0)), (.aload_n 1, (0, 0, 0, 0)), (.getfield 134, (11, 0, 0, 0)), (.aload_n 1, (0, 0, 0, 0)), (.invokevirtual 208, (14, 0, 11, 0)), (.aload_n 1, (0, 0, 0, 0)), (.getfield 144, (11, 4, 0, 0)), (.invokevirtual 212, (52, 3, 12, 0)), (.aload_n 1, (0, 0, 0, 0)), (.aload_n 0, (0, 0, 0, 0)), (.getfield 112, (12, 2, 0, 0)), (.invokevirtual 216, (18, 1, 11, 0)), (.iconst 1, (0, 0, 0, 0))], (.ireturn, (1, 0, 0, 0)), [])]
/-- 86: TwinVaultsModel.thrown()I -/
def bt_X12_thrown : List bi_K := [(0, [(.aload_n 0, (0, 0, 0, 0)), (.getfield 1, (12, 0, 0, 0))], (.ireturn, (0, 0, 0, 0)), [])]
/-- 87: TwinVaultsModel.tick()I -/
def bt_X12_tick : List bi_K := [(0, [(.aload_n 0, (0, 0, 0, 0)), (.iconst 0, (0, 0, 0, 0)), (.putfield 1, (12, 0, 0, 0)), (.aload_n 0, (0, 0, 0, 0)), (.dup, (0, 0, 0, 0)), (.getfield 445, (12, 5, 0, 0)), (.iconst 1, (0, 0, 0, 0)), (.iadd, (0, 0, 0, 0)), (.putfield 445, (12, 5, 0, 0)), (.aload_n 0, (0, 0, 0, 0)), (.getfield 87, (12, 34, 1, 0)), (.astore_n 1, (0, 0, 0, 0)), (.aload_n 1, (0, 0, 0, 0)), (.arraylength, (0, 0, 0, 0)), (.istore_n 2, (0, 0, 0, 0)), (.iconst 0, (0, 0, 0, 0)), (.istore_n 3, (0, 0, 0, 0))], (.nop, (0, 0, 0, 0)), [1]),
  (25, [(.iload_n 3, (0, 0, 0, 0)), (.iload_n 2, (0, 0, 0, 0))], (.if_icmp .ge 38, (0, 0, 0, 0)), [6, 2]),
  (30, [(.aload_n 1, (0, 0, 0, 0)), (.iload_n 3, (0, 0, 0, 0)), (.aaload, (0, 0, 0, 0)), (.astore 4, (0, 0, 0, 0)), (.aload 4, (0, 0, 0, 0))], (.ifnull 22, (0, 0, 0, 0)), [5, 3]),
  (40, [(.aload_n 0, (0, 0, 0, 0)), (.getfield 13, (12, 9, 1, 0)), (.aload 4, (0, 0, 0, 0)), (.getfield 131, (11, 1, 0, 0)), (.baload, (0, 0, 0, 0))], (.ifCond .eq 9, (0, 0, 0, 0)), [5, 4]),
  (53, [(.aload_n 0, (0, 0, 0, 0)), (.aload 4, (0, 0, 0, 0)), (.invokevirtual 448, (88, 1, 12, 0))], (.nop, (0, 0, 0, 0)), [5]),
  (59, [(.iinc 3 1, (0, 0, 0, 0))], (.goto (-37), (0, 0, 0, 0)), [1]),
  (65, [(.aload_n 0, (0, 0, 0, 0)), (.getfield 445, (12, 5, 0, 0))], (.ireturn, (0, 0, 0, 0)), [])]
/-- 88: TwinVaultsModel.ticks(LTwinVaultsModel$Store;)V -/
def bt_X12_ticks : List bi_K := [(0, [(.aload_n 1, (0, 0, 0, 0)), (.getfield 305, (11, 2, 0, 0)), (.iconst 1, (0, 0, 0, 0))], (.if_icmp .ne 52, (0, 0, 0, 0)), [7, 1]),
  (8, [(.aload_n 0, (0, 0, 0, 0)), (.getfield 442, (12, 4, 0, 0))], (.ifCond .le 45, (0, 0, 0, 0)), [7, 2]),
  (15, [(.aload_n 0, (0, 0, 0, 0)), (.getfield 445, (12, 5, 0, 0)), (.aload_n 0, (0, 0, 0, 0)), (.getfield 442, (12, 4, 0, 0)), (.irem, (0, 0, 0, 0))], (.ifCond .ne 33, (0, 0, 0, 0)), [7, 3]),
  (27, [(.aload_n 1, (0, 0, 0, 0)), (.getfield 144, (11, 4, 0, 0)), (.aload_n 1, (0, 0, 0, 0)), (.invokevirtual 433, (15, 0, 11, 0))], (.if_icmp .eq 22, (0, 0, 0, 0)), [7, 4]),
  (38, [(.aload_n 1, (0, 0, 0, 0)), (.getfield 198, (11, 13, 0, 0)), (.sipush 4095, (0, 0, 0, 0))], (.if_icmp .ge 12, (0, 0, 0, 0)), [7, 5]),
  (48, [(.aload_n 0, (0, 0, 0, 0)), (.aload_n 1, (0, 0, 0, 0)), (.invokevirtual 436, (85, 1, 12, 0))], (.ifCond .ne 4, (0, 0, 0, 0)), [7, 6]),
  (56, [], (.return_, (0, 0, 0, 0)), []),
  (57, [(.aload_n 1, (0, 0, 0, 0)), (.getfield 305, (11, 2, 0, 0)), (.iconst 3, (0, 0, 0, 0))], (.if_icmp .ne 50, (0, 0, 0, 0)), [13, 8]),
  (65, [(.aload_n 1, (0, 0, 0, 0)), (.getfield 341, (11, 21, 2, 0))], (.ifCond .ne 4, (0, 0, 0, 0)), [10, 9]),
  (72, [], (.return_, (0, 0, 0, 0)), []),
  (73, [(.aload_n 1, (0, 0, 0, 0)), (.dup, (0, 0, 0, 0)), (.getfield 280, (11, 20, 0, 0)), (.iconst 1, (0, 0, 0, 0)), (.iadd, (0, 0, 0, 0)), (.putfield 280, (11, 20, 0, 0)), (.aload_n 1, (0, 0, 0, 0)), (.getfield 280, (11, 20, 0, 0)), (.bipush 8, (0, 0, 0, 0))], (.if_icmp .ge 4, (0, 0, 0, 0)), [12, 11]),
  (92, [], (.return_, (0, 0, 0, 0)), []),
  (93, [(.aload_n 1, (0, 0, 0, 0)), (.iconst 0, (0, 0, 0, 0)), (.putfield 280, (11, 20, 0, 0)), (.aload_n 0, (0, 0, 0, 0)), (.aload_n 1, (0, 0, 0, 0)), (.bipush 10, (0, 0, 0, 0)), (.iconst 0, (0, 0, 0, 0)), (.iconst 0, (0, 0, 0, 0)), (.iconst 0, (0, 0, 0, 0)), (.iconst 0, (0, 0, 0, 0)), (.invokevirtual 287, (74, 6, 12, 0))], (.goto 15, (0, 0, 0, 0)), [15]),
  (112, [(.aload_n 1, (0, 0, 0, 0)), (.getfield 305, (11, 2, 0, 0))], (.ifCond .eq 8, (0, 0, 0, 0)), [15, 14]),
  (119, [(.aload_n 0, (0, 0, 0, 0)), (.aload_n 1, (0, 0, 0, 0)), (.invokevirtual 451, (29, 1, 12, 0))], (.nop, (0, 0, 0, 0)), [15]),
  (124, [], (.return_, (0, 0, 0, 0)), [])]
/-- 89: TwinVaultsModel.total(I)I -/
def bt_X12_total : List bi_K := [(0, [(.aload_n 0, (0, 0, 0, 0)), (.iconst 0, (0, 0, 0, 0)), (.putfield 1, (12, 0, 0, 0)), (.iload_n 1, (0, 0, 0, 0))], (.tableswitch 68 0 5 #[38, 43, 48, 53, 58, 63], (0, 0, 0, 0)), [7, 1, 2, 3, 4, 5, 6]),
  (44, [(.aload_n 0, (0, 0, 0, 0)), (.getfield 445, (12, 5, 0, 0))], (.ireturn, (0, 0, 0, 0)), []),
  (49, [(.aload_n 0, (0, 0, 0, 0)), (.getfield 168, (12, 6, 0, 0))], (.ireturn, (0, 0, 0, 0)), []),
  (54, [(.aload_n 0, (0, 0, 0, 0)), (.getfield 419, (12, 14, 0, 0))], (.ireturn, (0, 0, 0, 0)), []),
  (59, [(.aload_n 0, (0, 0, 0, 0)), (.getfield 222, (12, 37, 0, 0))], (.ireturn, (0, 0, 0, 0)), []),
  (64, [(.aload_n 0, (0, 0, 0, 0)), (.getfield 219, (12, 7, 0, 0))], (.ireturn, (0, 0, 0, 0)), []),
  (69, [(.aload_n 0, (0, 0, 0, 0)), (.getfield 225, (12, 8, 0, 0))], (.ireturn, (0, 0, 0, 0)), []),
  (74, [(.iload_n 1, (0, 0, 0, 0)), (.bipush 10, (0, 0, 0, 0)), (.idiv, (0, 0, 0, 0)), (.iconst 1, (0, 0, 0, 0)), (.isub, (0, 0, 0, 0)), (.istore_n 2, (0, 0, 0, 0)), (.iload_n 1, (0, 0, 0, 0)), (.bipush 10, (0, 0, 0, 0))], (.if_icmp .lt 16, (0, 0, 0, 0)), [10, 8]),
  (87, [(.iload_n 2, (0, 0, 0, 0)), (.iconst 1, (0, 0, 0, 0))], (.if_icmp .gt 11, (0, 0, 0, 0)), [10, 9]),
  (92, [(.iload_n 1, (0, 0, 0, 0)), (.bipush 10, (0, 0, 0, 0)), (.irem, (0, 0, 0, 0)), (.iconst 3, (0, 0, 0, 0))], (.if_icmp .le 5, (0, 0, 0, 0)), [11, 10]),
  (100, [(.iconst (-1), (0, 0, 0, 0))], (.ireturn, (0, 0, 0, 0)), []),
  (102, [(.iload_n 1, (0, 0, 0, 0)), (.bipush 10, (0, 0, 0, 0)), (.irem, (0, 0, 0, 0))], (.tableswitch 54 0 2 #[26, 41, 48], (0, 0, 0, 0)), [18, 12, 16, 17]),
  (132, [(.aload_n 0, (0, 0, 0, 0)), (.getfield 13, (12, 9, 1, 0)), (.iload_n 2, (0, 0, 0, 0)), (.baload, (0, 0, 0, 0))], (.ifCond .eq 7, (0, 0, 0, 0)), [14, 13]),
  (141, [(.iconst 1, (0, 0, 0, 0))], (.goto 4, (0, 0, 0, 0)), [15]),
  (145, [(.iconst 0, (0, 0, 0, 0))], (.nop, (0, 0, 0, 0)), [15]),
  (146, [], (.ireturn, (0, 0, 0, 0)), []),
  (147, [(.aload_n 0, (0, 0, 0, 0)), (.getfield 17, (12, 10, 1, 0)), (.iload_n 2, (0, 0, 0, 0)), (.iaload, (0, 0, 0, 0))], (.ireturn, (0, 0, 0, 0)), []),
  (154, [(.aload_n 0, (0, 0, 0, 0)), (.iload_n 2, (0, 0, 0, 0)), (.invokevirtual 385, (42, 1, 12, 0))], (.ireturn, (0, 0, 0, 0)), []),
  (160, [(.aload_n 0, (0, 0, 0, 0)), (.getfield 21, (12, 11, 1, 0)), (.iload_n 2, (0, 0, 0, 0)), (.iaload, (0, 0, 0, 0))], (.ireturn, (0, 0, 0, 0)), [])]
/-- 90: TwinVaultsModel.up(I)I -/
def bt_X12_up : List bi_K := [(0, [(.aload_n 0, (0, 0, 0, 0)), (.iconst 0, (0, 0, 0, 0)), (.putfield 1, (12, 0, 0, 0)), (.iload_n 1, (0, 0, 0, 0)), (.invokestatic 454, (51, 1, 0, 0))], (.ifCond .ne 6, (0, 0, 0, 0)), [2, 1]),
  (12, [(.bipush (-2), (0, 0, 0, 0))], (.ireturn, (0, 0, 0, 0)), []),
  (15, [(.aload_n 0, (0, 0, 0, 0)), (.getfield 13, (12, 9, 1, 0)), (.iload_n 1, (0, 0, 0, 0)), (.baload, (0, 0, 0, 0))], (.ifCond .eq 5, (0, 0, 0, 0)), [4, 3]),
  (24, [(.iconst (-1), (0, 0, 0, 0))], (.ireturn, (0, 0, 0, 0)), []),
  (26, [(.aload_n 0, (0, 0, 0, 0)), (.getfield 13, (12, 9, 1, 0)), (.iload_n 1, (0, 0, 0, 0)), (.iconst 1, (0, 0, 0, 0)), (.bastore, (0, 0, 0, 0)), (.iconst 0, (0, 0, 0, 0)), (.istore_n 2, (0, 0, 0, 0)), (.iconst 0, (0, 0, 0, 0)), (.istore_n 3, (0, 0, 0, 0))], (.nop, (0, 0, 0, 0)), [5]),
  (37, [(.iload_n 3, (0, 0, 0, 0)), (.aload_n 0, (0, 0, 0, 0)), (.getfield 168, (12, 6, 0, 0))], (.if_icmp .ge 120, (0, 0, 0, 0)), [9, 6]),
  (45, [(.aload_n 0, (0, 0, 0, 0)), (.getfield 87, (12, 34, 1, 0)), (.iconst 4, (0, 0, 0, 0)), (.iload_n 1, (0, 0, 0, 0)), (.imul, (0, 0, 0, 0)), (.iload_n 3, (0, 0, 0, 0)), (.iadd, (0, 0, 0, 0)), (.aaload, (0, 0, 0, 0)), (.astore 4, (0, 0, 0, 0)), (.iload_n 2, (0, 0, 0, 0)), (.aload_n 0, (0, 0, 0, 0)), (.getfield 40, (12, 18, 1, 0)), (.aload 4, (0, 0, 0, 0)), (.getfield 144, (11, 4, 0, 0)), (.iaload, (0, 0, 0, 0)), (.aload_n 0, (0, 0, 0, 0)), (.getfield 40, (12, 18, 1, 0)), (.aload 4, (0, 0, 0, 0)), (.getfield 185, (11, 5, 0, 0)), (.iaload, (0, 0, 0, 0)), (.isub, (0, 0, 0, 0)), (.iadd, (0, 0, 0, 0)), (.istore_n 2, (0, 0, 0, 0)), (.aload 4, (0, 0, 0, 0)), (.getfield 144, (11, 4, 0, 0)), (.aload 4, (0, 0, 0, 0)), (.getfield 185, (11, 5, 0, 0))], (.if_icmp .eq 15, (0, 0, 0, 0)), [8, 7]),
  (94, [(.aload 4, (0, 0, 0, 0)), (.iconst 0, (0, 0, 0, 0)), (.putfield 137, (11, 32, 2, 0)), (.aload 4, (0, 0, 0, 0)), (.iconst 0, (0, 0, 0, 0)), (.putfield 147, (11, 33, 2, 0))], (.nop, (0, 0, 0, 0)), [8]),
  (106, [(.aload 4, (0, 0, 0, 0)), (.aload 4, (0, 0, 0, 0)), (.getfield 185, (11, 5, 0, 0)), (.putfield 144, (11, 4, 0, 0)), (.aload 4, (0, 0, 0, 0)), (.aload 4, (0, 0, 0, 0)), (.getfield 335, (11, 8, 0, 0)), (.putfield 265, (11, 16, 0, 0)), (.aload 4, (0, 0, 0, 0)), (.iconst 0, (0, 0, 0, 0)), (.putfield 277, (11, 17, 0, 0)), (.aload 4, (0, 0, 0, 0)), (.iconst 0, (0, 0, 0, 0)), (.putfield 294, (11, 18, 0, 0)), (.aload 4, (0, 0, 0, 0)), (.iconst 0, (0, 0, 0, 0)), (.putfield 291, (11, 19, 0, 0)), (.aload 4, (0, 0, 0, 0)), (.iconst 0, (0, 0, 0, 0)), (.putfield 280, (11, 20, 0, 0)), (.aload 4, (0, 0, 0, 0)), (.iconst 0, (0, 0, 0, 0)), (.putfield 341, (11, 21, 2, 0)), (.iinc 3 1, (0, 0, 0, 0))], (.goto (-122), (0, 0, 0, 0)), [5]),
  (162, [(.iload_n 2, (0, 0, 0, 0))], (.ireturn, (0, 0, 0, 0)), [])]
/-- 91: TwinVaultsModel.write(IIII)I -/
def bt_X12_write : List bi_K := [(0, [(.aload_n 0, (0, 0, 0, 0)), (.iconst 0, (0, 0, 0, 0)), (.putfield 1, (12, 0, 0, 0)), (.aload_n 0, (0, 0, 0, 0)), (.iload_n 1, (0, 0, 0, 0)), (.invokevirtual 407, (62, 1, 12, 0)), (.astore 5, (0, 0, 0, 0)), (.aload_n 0, (0, 0, 0, 0)), (.aload 5, (0, 0, 0, 0)), (.iload_n 2, (0, 0, 0, 0)), (.iload_n 3, (0, 0, 0, 0)), (.invokevirtual 411, (50, 3, 12, 0))], (.ifCond .eq 16, (0, 0, 0, 0)), [2, 1]),
  (23, [(.aload_n 0, (0, 0, 0, 0)), (.aload 5, (0, 0, 0, 0)), (.iload_n 2, (0, 0, 0, 0)), (.iload_n 3, (0, 0, 0, 0)), (.iload 4, (0, 0, 0, 0)), (.invokevirtual 415, (92, 4, 12, 0))], (.goto 5, (0, 0, 0, 0)), [3]),
  (36, [(.bipush (-2), (0, 0, 0, 0))], (.nop, (0, 0, 0, 0)), [3]),
  (38, [], (.ireturn, (0, 0, 0, 0)), [])]
/-- 92: TwinVaultsModel.writes(LTwinVaultsModel$Store;III)I -/
def bt_X12_writes : List bi_K := [(0, [(.aload_n 0, (0, 0, 0, 0)), (.getfield 13, (12, 9, 1, 0)), (.aload_n 1, (0, 0, 0, 0)), (.getfield 131, (11, 1, 0, 0)), (.baload, (0, 0, 0, 0))], (.ifCond .ne 6, (0, 0, 0, 0)), [2, 1]),
  (12, [(.bipush (-3), (0, 0, 0, 0))], (.ireturn, (0, 0, 0, 0)), []),
  (15, [(.aload_n 1, (0, 0, 0, 0)), (.getfield 305, (11, 2, 0, 0)), (.iconst 1, (0, 0, 0, 0))], (.if_icmp .eq 6, (0, 0, 0, 0)), [4, 3]),
  (23, [(.bipush (-4), (0, 0, 0, 0))], (.ireturn, (0, 0, 0, 0)), []),
  (26, [(.aload_n 0, (0, 0, 0, 0)), (.getfield 419, (12, 14, 0, 0)), (.ldc_w 421, (60000, 0, 0, 0))], (.if_icmp .ne 6, (0, 0, 0, 0)), [6, 5]),
  (36, [(.bipush (-5), (0, 0, 0, 0))], (.ireturn, (0, 0, 0, 0)), []),
  (39, [(.aload_n 0, (0, 0, 0, 0)), (.getfield 40, (12, 18, 1, 0)), (.aload_n 1, (0, 0, 0, 0)), (.getfield 144, (11, 4, 0, 0)), (.iaload, (0, 0, 0, 0)), (.aload_n 0, (0, 0, 0, 0)), (.getfield 40, (12, 18, 1, 0)), (.aload_n 1, (0, 0, 0, 0)), (.getfield 185, (11, 5, 0, 0)), (.iaload, (0, 0, 0, 0)), (.isub, (0, 0, 0, 0)), (.bipush 64, (0, 0, 0, 0))], (.if_icmp .ne 14, (0, 0, 0, 0)), [9, 7]),
  (63, [(.aload_n 0, (0, 0, 0, 0)), (.aload_n 1, (0, 0, 0, 0)), (.invokevirtual 422, (39, 1, 12, 0))], (.ifCond .ne 6, (0, 0, 0, 0)), [9, 8]),
  (71, [(.bipush (-3), (0, 0, 0, 0))], (.ireturn, (0, 0, 0, 0)), []),
  (74, [(.aload_n 0, (0, 0, 0, 0)), (.aload_n 1, (0, 0, 0, 0)), (.getfield 131, (11, 1, 0, 0)), (.invokevirtual 385, (42, 1, 12, 0))], (.ifCond .gt 6, (0, 0, 0, 0)), [11, 10]),
  (85, [(.bipush (-6), (0, 0, 0, 0))], (.ireturn, (0, 0, 0, 0)), []),
  (88, [(.aload_n 0, (0, 0, 0, 0)), (.aload_n 1, (0, 0, 0, 0)), (.invokevirtual 426, (54, 1, 12, 0)), (.aload_n 0, (0, 0, 0, 0)), (.dup, (0, 0, 0, 0)), (.getfield 419, (12, 14, 0, 0)), (.iconst 1, (0, 0, 0, 0)), (.iadd, (0, 0, 0, 0)), (.putfield 419, (12, 14, 0, 0)), (.aload_n 0, (0, 0, 0, 0)), (.getfield 31, (12, 15, 1, 0)), (.aload_n 0, (0, 0, 0, 0)), (.getfield 419, (12, 14, 0, 0)), (.aload_n 1, (0, 0, 0, 0)), (.getfield 144, (11, 4, 0, 0)), (.iastore, (0, 0, 0, 0)), (.aload_n 0, (0, 0, 0, 0)), (.getfield 34, (12, 16, 1, 0)), (.aload_n 0, (0, 0, 0, 0)), (.getfield 419, (12, 14, 0, 0)), (.iload_n 2, (0, 0, 0, 0)), (.aload_n 0, (0, 0, 0, 0)), (.getfield 27, (12, 13, 1, 0)), (.aload_n 1, (0, 0, 0, 0)), (.getfield 134, (11, 0, 0, 0)), (.iaload, (0, 0, 0, 0)), (.imul, (0, 0, 0, 0)), (.iload_n 3, (0, 0, 0, 0)), (.iadd, (0, 0, 0, 0)), (.iastore, (0, 0, 0, 0)), (.aload_n 0, (0, 0, 0, 0)), (.getfield 37, (12, 17, 1, 0)), (.aload_n 0, (0, 0, 0, 0)), (.getfield 419, (12, 14, 0, 0)), (.iload 4, (0, 0, 0, 0)), (.iastore, (0, 0, 0, 0)), (.aload_n 0, (0, 0, 0, 0)), (.getfield 40, (12, 18, 1, 0)), (.aload_n 0, (0, 0, 0, 0)), (.getfield 419, (12, 14, 0, 0)), (.aload_n 0, (0, 0, 0, 0)), (.getfield 40, (12, 18, 1, 0)), (.aload_n 1, (0, 0, 0, 0)), (.getfield 144, (11, 4, 0, 0)), (.iaload, (0, 0, 0, 0)), (.iconst 1, (0, 0, 0, 0)), (.iadd, (0, 0, 0, 0)), (.iastore, (0, 0, 0, 0)), (.aload_n 1, (0, 0, 0, 0)), (.getfield 141, (11, 31, 1, 0)), (.aload_n 0, (0, 0, 0, 0)), (.getfield 34, (12, 16, 1, 0)), (.aload_n 0, (0, 0, 0, 0)), (.getfield 419, (12, 14, 0, 0)), (.iaload, (0, 0, 0, 0)), (.iaload, (0, 0, 0, 0)), (.istore 5, (0, 0, 0, 0)), (.iload 5, (0, 0, 0, 0))], (.ifCond .eq 22, (0, 0, 0, 0)), [13, 12]),
  (190, [(.aload_n 0, (0, 0, 0, 0)), (.getfield 40, (12, 18, 1, 0)), (.iload 5, (0, 0, 0, 0)), (.iaload, (0, 0, 0, 0)), (.aload_n 0, (0, 0, 0, 0)), (.getfield 40, (12, 18, 1, 0)), (.aload_n 1, (0, 0, 0, 0)), (.getfield 159, (11, 6, 0, 0)), (.iaload, (0, 0, 0, 0))], (.if_icmp .gt 13, (0, 0, 0, 0)), [14, 13]),
  (209, [(.aload_n 1, (0, 0, 0, 0)), (.dup, (0, 0, 0, 0)), (.getfield 150, (11, 34, 0, 0)), (.iconst 1, (0, 0, 0, 0)), (.iadd, (0, 0, 0, 0)), (.putfield 150, (11, 34, 0, 0))], (.nop, (0, 0, 0, 0)), [14]),
  (219, [(.aload_n 1, (0, 0, 0, 0)), (.getfield 141, (11, 31, 1, 0)), (.aload_n 0, (0, 0, 0, 0)), (.getfield 34, (12, 16, 1, 0)), (.aload_n 0, (0, 0, 0, 0)), (.getfield 419, (12, 14, 0, 0)), (.iaload, (0, 0, 0, 0)), (.aload_n 0, (0, 0, 0, 0)), (.getfield 419, (12, 14, 0, 0)), (.iastore, (0, 0, 0, 0)), (.aload_n 1, (0, 0, 0, 0)), (.aload_n 0, (0, 0, 0, 0)), (.getfield 419, (12, 14, 0, 0)), (.putfield 144, (11, 4, 0, 0)), (.aload_n 0, (0, 0, 0, 0)), (.getfield 40, (12, 18, 1, 0)), (.aload_n 1, (0, 0, 0, 0)), (.getfield 144, (11, 4, 0, 0)), (.iaload, (0, 0, 0, 0)), (.aload_n 0, (0, 0, 0, 0)), (.getfield 40, (12, 18, 1, 0)), (.aload_n 1, (0, 0, 0, 0)), (.getfield 185, (11, 5, 0, 0)), (.iaload, (0, 0, 0, 0)), (.isub, (0, 0, 0, 0))], (.ireturn, (0, 0, 0, 0)), [])]
/-- 93: TwinVaults$Marks.begin()V -/
def bt_X1_begin : List bi_K := [(0, [(.aload_n 0, (0, 0, 0, 0)), (.dup, (0, 0, 0, 0)), (.getfield 13, (1, 1, 0, 0)), (.iconst 1, (0, 0, 0, 0)), (.iadd, (0, 0, 0, 0)), (.putfield 13, (1, 1, 0, 0))], (.return_, (0, 0, 0, 0)), [])]
/-- 94: TwinVaults$Marks.<init>(I)V -/
def bt_X1_init : List bi_K := [(0, [(.aload_n 0, (0, 0, 0, 0)), (.invokespecial 1, (9999, 0, 0, 0)), (.aload_n 0, (0, 0, 0, 0)), (.iload_n 1, (0, 0, 0, 0)), (.newarray .int, (0, 0, 0, 0)), (.putfield 7, (1, 0, 1, 0))], (.return_, (0, 0, 0, 0)), [])]
/-- 95: TwinVaults$Marks.mark(I)I -/
def bt_X1_mark : List bi_K := [(0, [(.iload_n 1, (0, 0, 0, 0))], (.ifCond .lt 25, (0, 0, 0, 0)), [3, 1]),
  (4, [(.iload_n 1, (0, 0, 0, 0)), (.aload_n 0, (0, 0, 0, 0)), (.getfield 7, (1, 0, 1, 0)), (.arraylength, (0, 0, 0, 0))], (.if_icmp .ge 16, (0, 0, 0, 0)), [3, 2]),
  (13, [(.aload_n 0, (0, 0, 0, 0)), (.getfield 7, (1, 0, 1, 0)), (.iload_n 1, (0, 0, 0, 0)), (.iaload, (0, 0, 0, 0)), (.aload_n 0, (0, 0, 0, 0)), (.getfield 13, (1, 1, 0, 0))], (.if_icmp .ne 5, (0, 0, 0, 0)), [4, 3]),
  (26, [(.iconst 0, (0, 0, 0, 0))], (.ireturn, (0, 0, 0, 0)), []),
  (28, [(.aload_n 0, (0, 0, 0, 0)), (.getfield 7, (1, 0, 1, 0)), (.iload_n 1, (0, 0, 0, 0)), (.aload_n 0, (0, 0, 0, 0)), (.getfield 13, (1, 1, 0, 0)), (.iastore, (0, 0, 0, 0)), (.iconst 1, (0, 0, 0, 0))], (.ireturn, (0, 0, 0, 0)), [])]
/-- 96: TwinVaults$Message.<init>(LTwinVaults$Store;III)V -/
def bt_X2_init : List bi_K := [(0, [(.aload_n 0, (0, 0, 0, 0)), (.invokespecial 1, (9999, 0, 0, 0)), (.aload_n 0, (0, 0, 0, 0)), (.iload_n 2, (0, 0, 0, 0)), (.putfield 7, (2, 0, 0, 0)), (.aload_n 0, (0, 0, 0, 0)), (.aload_n 1, (0, 0, 0, 0)), (.getfield 13, (6, 0, 0, 0)), (.putfield 18, (2, 1, 0, 0)), (.aload_n 0, (0, 0, 0, 0)), (.aload_n 1, (0, 0, 0, 0)), (.getfield 21, (6, 7, 0, 0)), (.putfield 24, (2, 2, 0, 0)), (.aload_n 0, (0, 0, 0, 0)), (.iload_n 3, (0, 0, 0, 0)), (.putfield 25, (2, 3, 0, 0)), (.aload_n 0, (0, 0, 0, 0)), (.iload 4, (0, 0, 0, 0)), (.putfield 28, (2, 4, 0, 0))], (.return_, (0, 0, 0, 0)), [])]
/-- 97: TwinVaults$Message.itemCount()I -/
def bt_X2_itemCount : List bi_K := [(0, [(.aload_n 0, (0, 0, 0, 0)), (.getfield 31, (2, 8, 1, 0))], (.ifnonnull 7, (0, 0, 0, 0)), [2, 1]),
  (7, [(.iconst 0, (0, 0, 0, 0))], (.goto 10, (0, 0, 0, 0)), [3]),
  (11, [(.aload_n 0, (0, 0, 0, 0)), (.getfield 31, (2, 8, 1, 0)), (.arraylength, (0, 0, 0, 0)), (.iconst 3, (0, 0, 0, 0)), (.idiv, (0, 0, 0, 0))], (.nop, (0, 0, 0, 0)), [3]),
  (18, [], (.ireturn, (0, 0, 0, 0)), [])]
/-- 98: TwinVaults$Row.add(I)V -/
def bt_X3_add : List bi_K := [(0, [(.aload_n 0, (0, 0, 0, 0)), (.getfield 20, (3, 3, 0, 0)), (.aload_n 0, (0, 0, 0, 0)), (.getfield 7, (3, 2, 1, 0)), (.arraylength, (0, 0, 0, 0))], (.if_icmp .ge 23, (0, 0, 0, 0)), [2, 1]),
  (12, [(.aload_n 0, (0, 0, 0, 0)), (.getfield 7, (3, 2, 1, 0)), (.aload_n 0, (0, 0, 0, 0)), (.getfield 20, (3, 3, 0, 0)), (.iload_n 1, (0, 0, 0, 0)), (.iastore, (0, 0, 0, 0)), (.aload_n 0, (0, 0, 0, 0)), (.dup, (0, 0, 0, 0)), (.getfield 20, (3, 3, 0, 0)), (.iconst 1, (0, 0, 0, 0)), (.iadd, (0, 0, 0, 0)), (.putfield 20, (3, 3, 0, 0))], (.nop, (0, 0, 0, 0)), [2]),
  (32, [], (.return_, (0, 0, 0, 0)), [])]
/-- 99: TwinVaults$Row.begin(III)V -/
def bt_X3_begin : List bi_K := [(0, [(.aload_n 0, (0, 0, 0, 0)), (.iload_n 1, (0, 0, 0, 0)), (.putfield 13, (3, 0, 0, 0)), (.aload_n 0, (0, 0, 0, 0)), (.iload_n 2, (0, 0, 0, 0)), (.putfield 17, (3, 1, 0, 0)), (.aload_n 0, (0, 0, 0, 0)), (.iconst 0, (0, 0, 0, 0)), (.putfield 20, (3, 3, 0, 0)), (.iload_n 3, (0, 0, 0, 0)), (.aload_n 0, (0, 0, 0, 0)), (.getfield 7, (3, 2, 1, 0)), (.arraylength, (0, 0, 0, 0))], (.if_icmp .le 20, (0, 0, 0, 0)), [2, 1]),
  (24, [(.aload_n 0, (0, 0, 0, 0)), (.iload_n 3, (0, 0, 0, 0)), (.iconst 2, (0, 0, 0, 0)), (.aload_n 0, (0, 0, 0, 0)), (.getfield 7, (3, 2, 1, 0)), (.arraylength, (0, 0, 0, 0)), (.imul, (0, 0, 0, 0)), (.invokestatic 23, (2, 2, 0, 0)), (.newarray .int, (0, 0, 0, 0)), (.putfield 7, (3, 2, 1, 0))], (.nop, (0, 0, 0, 0)), [2]),
  (41, [], (.return_, (0, 0, 0, 0)), [])]
/-- 100: TwinVaults$Row.<init>()V -/
def bt_X3_init : List bi_K := [(0, [(.aload_n 0, (0, 0, 0, 0)), (.invokespecial 1, (9999, 0, 0, 0)), (.aload_n 0, (0, 0, 0, 0)), (.bipush 16, (0, 0, 0, 0)), (.newarray .int, (0, 0, 0, 0)), (.putfield 7, (3, 2, 1, 0))], (.return_, (0, 0, 0, 0)), [])]
/-- 101: TwinVaults$Row.sink([III)V -/
def bt_X3_sink : List bi_K := [(0, [(.aload_n 0, (0, 0, 0, 0)), (.getfield 7, (3, 2, 1, 0)), (.iload_n 2, (0, 0, 0, 0)), (.iaload, (0, 0, 0, 0)), (.istore 4, (0, 0, 0, 0)), (.iload_n 2, (0, 0, 0, 0)), (.istore 5, (0, 0, 0, 0)), (.iconst 2, (0, 0, 0, 0)), (.iload 5, (0, 0, 0, 0)), (.imul, (0, 0, 0, 0)), (.iconst 1, (0, 0, 0, 0)), (.iadd, (0, 0, 0, 0)), (.istore 6, (0, 0, 0, 0))], (.nop, (0, 0, 0, 0)), [1]),
  (19, [(.iload 6, (0, 0, 0, 0)), (.iload_n 3, (0, 0, 0, 0))], (.if_icmp .ge 85, (0, 0, 0, 0)), [8, 2]),
  (25, [(.iload 6, (0, 0, 0, 0)), (.iconst 1, (0, 0, 0, 0)), (.iadd, (0, 0, 0, 0)), (.iload_n 3, (0, 0, 0, 0))], (.if_icmp .ge 29, (0, 0, 0, 0)), [5, 3]),
  (33, [(.aload_n 1, (0, 0, 0, 0)), (.aload_n 0, (0, 0, 0, 0)), (.getfield 7, (3, 2, 1, 0)), (.iload 6, (0, 0, 0, 0)), (.iconst 1, (0, 0, 0, 0)), (.iadd, (0, 0, 0, 0)), (.iaload, (0, 0, 0, 0)), (.iaload, (0, 0, 0, 0)), (.aload_n 1, (0, 0, 0, 0)), (.aload_n 0, (0, 0, 0, 0)), (.getfield 7, (3, 2, 1, 0)), (.iload 6, (0, 0, 0, 0)), (.iaload, (0, 0, 0, 0)), (.iaload, (0, 0, 0, 0))], (.if_icmp .le 6, (0, 0, 0, 0)), [5, 4]),
  (56, [(.iinc 6 1, (0, 0, 0, 0))], (.nop, (0, 0, 0, 0)), [5]),
  (59, [(.aload_n 1, (0, 0, 0, 0)), (.aload_n 0, (0, 0, 0, 0)), (.getfield 7, (3, 2, 1, 0)), (.iload 6, (0, 0, 0, 0)), (.iaload, (0, 0, 0, 0)), (.iaload, (0, 0, 0, 0)), (.aload_n 1, (0, 0, 0, 0)), (.iload 4, (0, 0, 0, 0)), (.iaload, (0, 0, 0, 0))], (.if_icmp .gt 6, (0, 0, 0, 0)), [7, 6]),
  (75, [], (.goto 32, (0, 0, 0, 0)), [8]),
  (78, [(.aload_n 0, (0, 0, 0, 0)), (.getfield 7, (3, 2, 1, 0)), (.iload 5, (0, 0, 0, 0)), (.aload_n 0, (0, 0, 0, 0)), (.getfield 7, (3, 2, 1, 0)), (.iload 6, (0, 0, 0, 0)), (.iaload, (0, 0, 0, 0)), (.iastore, (0, 0, 0, 0)), (.iload 6, (0, 0, 0, 0)), (.istore 5, (0, 0, 0, 0)), (.iconst 2, (0, 0, 0, 0)), (.iload 5, (0, 0, 0, 0)), (.imul, (0, 0, 0, 0)), (.iconst 1, (0, 0, 0, 0)), (.iadd, (0, 0, 0, 0)), (.istore 6, (0, 0, 0, 0))], (.goto (-85), (0, 0, 0, 0)), [1]),
  (107, [(.aload_n 0, (0, 0, 0, 0)), (.getfield 7, (3, 2, 1, 0)), (.iload 5, (0, 0, 0, 0)), (.iload 4, (0, 0, 0, 0)), (.iastore, (0, 0, 0, 0))], (.return_, (0, 0, 0, 0)), [])]
/-- 102: TwinVaults$Row.sort([I)V -/
def bt_X3_sort : List bi_K := [(0, [(.aload_n 0, (0, 0, 0, 0)), (.getfield 20, (3, 3, 0, 0)), (.iconst 2, (0, 0, 0, 0)), (.idiv, (0, 0, 0, 0)), (.iconst 1, (0, 0, 0, 0)), (.isub, (0, 0, 0, 0)), (.istore_n 2, (0, 0, 0, 0))], (.nop, (0, 0, 0, 0)), [1]),
  (9, [(.iload_n 2, (0, 0, 0, 0))], (.ifCond .lt 19, (0, 0, 0, 0)), [3, 2]),
  (13, [(.aload_n 0, (0, 0, 0, 0)), (.aload_n 1, (0, 0, 0, 0)), (.iload_n 2, (0, 0, 0, 0)), (.aload_n 0, (0, 0, 0, 0)), (.getfield 20, (3, 3, 0, 0)), (.invokevirtual 29, (101, 3, 3, 0)), (.iinc 2 (-1), (0, 0, 0, 0))], (.goto (-17), (0, 0, 0, 0)), [1]),
  (29, [(.aload_n 0, (0, 0, 0, 0)), (.getfield 20, (3, 3, 0, 0)), (.iconst 1, (0, 0, 0, 0)), (.isub, (0, 0, 0, 0)), (.istore_n 2, (0, 0, 0, 0))], (.nop, (0, 0, 0, 0)), [4]),
  (36, [(.iload_n 2, (0, 0, 0, 0))], (.ifCond .le 42, (0, 0, 0, 0)), [6, 5]),
  (40, [(.aload_n 0, (0, 0, 0, 0)), (.getfield 7, (3, 2, 1, 0)), (.iconst 0, (0, 0, 0, 0)), (.iaload, (0, 0, 0, 0)), (.istore_n 3, (0, 0, 0, 0)), (.aload_n 0, (0, 0, 0, 0)), (.getfield 7, (3, 2, 1, 0)), (.iconst 0, (0, 0, 0, 0)), (.aload_n 0, (0, 0, 0, 0)), (.getfield 7, (3, 2, 1, 0)), (.iload_n 2, (0, 0, 0, 0)), (.iaload, (0, 0, 0, 0)), (.iastore, (0, 0, 0, 0)), (.aload_n 0, (0, 0, 0, 0)), (.getfield 7, (3, 2, 1, 0)), (.iload_n 2, (0, 0, 0, 0)), (.iload_n 3, (0, 0, 0, 0)), (.iastore, (0, 0, 0, 0)), (.aload_n 0, (0, 0, 0, 0)), (.aload_n 1, (0, 0, 0, 0)), (.iconst 0, (0, 0, 0, 0)), (.iload_n 2, (0, 0, 0, 0)), (.invokevirtual 29, (101, 3, 3, 0)), (.iinc 2 (-1), (0, 0, 0, 0))], (.goto (-40), (0, 0, 0, 0)), [4]),
  (79, [], (.return_, (0, 0, 0, 0)), [])]
/-- 103: TwinVaults$Site.act()Z -/
def bt_X4_act : List bi_K := [(0, [(.aload_n 0, (0, 0, 0, 0)), (.getfield 19, (4, 3, 0, 0))], (.ifCond .ne 9, (0, 0, 0, 0)), [2, 1]),
  (7, [(.aload_n 0, (0, 0, 0, 0)), (.invokevirtual 22, (105, 0, 4, 0)), (.iconst 0, (0, 0, 0, 0))], (.ireturn, (1, 0, 0, 0)), []),
  (13, [(.aload_n 0, (0, 0, 0, 0)), (.getfield 19, (4, 3, 0, 0))], (.ifCond .le 13, (0, 0, 0, 0)), [4, 3]),
  (20, [(.aload_n 0, (0, 0, 0, 0)), (.dup, (0, 0, 0, 0)), (.getfield 19, (4, 3, 0, 0)), (.iconst 1, (0, 0, 0, 0)), (.isub, (0, 0, 0, 0)), (.putfield 19, (4, 3, 0, 0))], (.nop, (0, 0, 0, 0)), [4]),
  (30, [(.aload_n 0, (0, 0, 0, 0)), (.dup, (0, 0, 0, 0)), (.getfield 25, (4, 2, 0, 0)), (.iconst 1, (0, 0, 0, 0)), (.iadd, (0, 0, 0, 0)), (.putfield 25, (4, 2, 0, 0)), (.iconst 1, (0, 0, 0, 0))], (.ireturn, (1, 0, 0, 0)), [])]
/-- 104: TwinVaults$Site.act(I)Z -/
def bt_X4_act_ : List bi_K := [(0, [(.iconst 0, (0, 0, 0, 0)), (.istore_n 2, (0, 0, 0, 0))], (.nop, (0, 0, 0, 0)), [1]),
  (2, [(.iload_n 2, (0, 0, 0, 0)), (.iload_n 1, (0, 0, 0, 0))], (.if_icmp .ge 18, (0, 0, 0, 0)), [5, 2]),
  (7, [(.aload_n 0, (0, 0, 0, 0)), (.invokevirtual 28, (103, 0, 4, 0))], (.ifCond .ne 5, (0, 0, 0, 0)), [4, 3]),
  (14, [(.iconst 0, (0, 0, 0, 0))], (.ireturn, (1, 0, 0, 0)), []),
  (16, [(.iinc 2 1, (0, 0, 0, 0))], (.goto (-17), (0, 0, 0, 0)), [1]),
  (22, [(.iconst 1, (0, 0, 0, 0))], (.ireturn, (1, 0, 0, 0)), [])]
/-- 105: TwinVaults$Site.fail()V -/
def bt_X4_fail : List bi_K := [(0, [(.aload_n 0, (0, 0, 0, 0)), (.iconst 0, (0, 0, 0, 0)), (.putfield 15, (4, 1, 2, 0)), (.aload_n 0, (0, 0, 0, 0)), (.iconst (-1), (0, 0, 0, 0)), (.putfield 19, (4, 3, 0, 0))], (.return_, (0, 0, 0, 0)), [])]
/-- 106: TwinVaults$Site.<init>(I)V -/
def bt_X4_init : List bi_K := [(0, [(.aload_n 0, (0, 0, 0, 0)), (.invokespecial 3, (9999, 0, 0, 0)), (.aload_n 0, (0, 0, 0, 0)), (.iload_n 1, (0, 0, 0, 0)), (.putfield 9, (4, 0, 0, 0)), (.aload_n 0, (0, 0, 0, 0)), (.iconst 1, (0, 0, 0, 0)), (.putfield 15, (4, 1, 2, 0)), (.aload_n 0, (0, 0, 0, 0)), (.iconst (-1), (0, 0, 0, 0)), (.putfield 19, (4, 3, 0, 0))], (.return_, (0, 0, 0, 0)), [])]
/-- 107: TwinVaults$Staging.add(I)V -/
def bt_X5_add : List bi_K := [(0, [(.aload_n 0, (0, 0, 0, 0)), (.dup, (0, 0, 0, 0)), (.getfield 40, (5, 4, 0, 0)), (.iconst 1, (0, 0, 0, 0)), (.iadd, (0, 0, 0, 0)), (.putfield 40, (5, 4, 0, 0)), (.aload_n 0, (0, 0, 0, 0)), (.dup, (0, 0, 0, 0)), (.getfield 16, (5, 5, 0, 0)), (.iload_n 1, (0, 0, 0, 0)), (.iadd, (0, 0, 0, 0)), (.putfield 16, (5, 5, 0, 0))], (.return_, (0, 0, 0, 0)), [])]
/-- 108: TwinVaults$Staging.begin(LTwinVaults$Message;)V -/
def bt_X5_begin : List bi_K := [(0, [(.aload_n 0, (0, 0, 0, 0)), (.invokevirtual 22, (109, 0, 5, 0)), (.aload_n 0, (0, 0, 0, 0)), (.aload_n 1, (0, 0, 0, 0)), (.getfield 25, (2, 3, 0, 0)), (.putfield 13, (5, 0, 0, 0)), (.aload_n 0, (0, 0, 0, 0)), (.aload_n 1, (0, 0, 0, 0)), (.getfield 30, (2, 4, 0, 0)), (.putfield 7, (5, 1, 0, 0)), (.aload_n 0, (0, 0, 0, 0)), (.aload_n 1, (0, 0, 0, 0)), (.getfield 33, (2, 5, 0, 0)), (.putfield 19, (5, 3, 0, 0)), (.aload_n 0, (0, 0, 0, 0)), (.aload_n 1, (0, 0, 0, 0)), (.getfield 36, (2, 7, 0, 0)), (.putfield 39, (5, 2, 0, 0))], (.return_, (0, 0, 0, 0)), [])]
/-- 109: TwinVaults$Staging.clear()V -/
def bt_X5_clear : List bi_K := [(0, [(.aload_n 0, (0, 0, 0, 0)), (.iconst 0, (0, 0, 0, 0)), (.putfield 13, (5, 0, 0, 0)), (.aload_n 0, (0, 0, 0, 0)), (.iconst 0, (0, 0, 0, 0)), (.putfield 7, (5, 1, 0, 0)), (.aload_n 0, (0, 0, 0, 0)), (.iconst 0, (0, 0, 0, 0)), (.putfield 39, (5, 2, 0, 0)), (.aload_n 0, (0, 0, 0, 0)), (.iconst 0, (0, 0, 0, 0)), (.putfield 19, (5, 3, 0, 0)), (.aload_n 0, (0, 0, 0, 0)), (.iconst 0, (0, 0, 0, 0)), (.putfield 40, (5, 4, 0, 0)), (.aload_n 0, (0, 0, 0, 0)), (.iconst 0, (0, 0, 0, 0)), (.putfield 16, (5, 5, 0, 0))], (.return_, (0, 0, 0, 0)), [])]
/-- 110: TwinVaults$Staging.hasAll()Z -/
def bt_X5_hasAll : List bi_K := [(0, [(.aload_n 0, (0, 0, 0, 0)), (.getfield 16, (5, 5, 0, 0)), (.aload_n 0, (0, 0, 0, 0)), (.getfield 19, (5, 3, 0, 0))], (.if_icmp .lt 7, (0, 0, 0, 0)), [2, 1]),
  (11, [(.iconst 1, (0, 0, 0, 0))], (.goto 4, (0, 0, 0, 0)), [3]),
  (15, [(.iconst 0, (0, 0, 0, 0))], (.nop, (0, 0, 0, 0)), [3]),
  (16, [], (.ireturn, (1, 0, 0, 0)), [])]
/-- 111: TwinVaults$Staging.<init>()V -/
def bt_X5_init : List bi_K := [(0, [(.aload_n 0, (0, 0, 0, 0)), (.invokespecial 1, (9999, 0, 0, 0))], (.return_, (0, 0, 0, 0)), [])]
/-- 112: TwinVaults$Staging.isOf(II)Z -/
def bt_X5_isOf : List bi_K := [(0, [(.aload_n 0, (0, 0, 0, 0)), (.getfield 7, (5, 1, 0, 0))], (.ifCond .eq 23, (0, 0, 0, 0)), [4, 1]),
  (7, [(.aload_n 0, (0, 0, 0, 0)), (.getfield 13, (5, 0, 0, 0)), (.iload_n 1, (0, 0, 0, 0))], (.if_icmp .ne 15, (0, 0, 0, 0)), [4, 2]),
  (15, [(.aload_n 0, (0, 0, 0, 0)), (.getfield 7, (5, 1, 0, 0)), (.iload_n 2, (0, 0, 0, 0))], (.if_icmp .ne 7, (0, 0, 0, 0)), [4, 3]),
  (23, [(.iconst 1, (0, 0, 0, 0))], (.goto 4, (0, 0, 0, 0)), [5]),
  (27, [(.iconst 0, (0, 0, 0, 0))], (.nop, (0, 0, 0, 0)), [5]),
  (28, [], (.ireturn, (1, 0, 0, 0)), [])]
/-- 113: TwinVaults$Store.beginEpoch(II)V -/
def bt_X6_beginEpoch : List bi_K := [(0, [(.aload_n 0, (0, 0, 0, 0)), (.iconst 1, (0, 0, 0, 0)), (.putfield 19, (6, 6, 0, 0)), (.aload_n 0, (0, 0, 0, 0)), (.iload_n 1, (0, 0, 0, 0)), (.putfield 43, (6, 7, 0, 0)), (.aload_n 0, (0, 0, 0, 0)), (.iconst 1, (0, 0, 0, 0)), (.putfield 110, (6, 8, 0, 0)), (.aload_n 0, (0, 0, 0, 0)), (.getfield 29, (6, 3, 1, 0)), (.invokevirtual 113, (109, 0, 5, 0)), (.aload_n 0, (0, 0, 0, 0)), (.getfield 22, (6, 2, 1, 0)), (.sipush 4096, (0, 0, 0, 0)), (.aload_n 0, (0, 0, 0, 0)), (.getfield 43, (6, 7, 0, 0)), (.imul, (0, 0, 0, 0)), (.aload_n 0, (0, 0, 0, 0)), (.getfield 110, (6, 8, 0, 0)), (.iadd, (0, 0, 0, 0)), (.invokevirtual 116, (149, 1, 7, 0)), (.aload_n 0, (0, 0, 0, 0)), (.iload_n 2, (0, 0, 0, 0)), (.invokevirtual 119, (122, 1, 6, 0))], (.return_, (0, 0, 0, 0)), [])]
/-- 114: TwinVaults$Store.blocks()I -/
def bt_X6_blocks : List bi_K := [(0, [(.aload_n 0, (0, 0, 0, 0)), (.getfield 22, (6, 2, 1, 0)), (.getfield 46, (7, 10, 0, 0)), (.aload_n 0, (0, 0, 0, 0)), (.getfield 29, (6, 3, 1, 0)), (.getfield 51, (5, 5, 0, 0)), (.iadd, (0, 0, 0, 0))], (.ireturn, (0, 0, 0, 0)), [])]
/-- 115: TwinVaults$Store.forgetOther()V -/
def bt_X6_forgetOther : List bi_K := [(0, [(.aload_n 0, (0, 0, 0, 0)), (.iconst 0, (0, 0, 0, 0)), (.putfield 84, (6, 9, 0, 0)), (.aload_n 0, (0, 0, 0, 0)), (.iconst 0, (0, 0, 0, 0)), (.putfield 69, (6, 10, 0, 0)), (.aload_n 0, (0, 0, 0, 0)), (.iconst 0, (0, 0, 0, 0)), (.putfield 61, (6, 14, 0, 0)), (.aload_n 0, (0, 0, 0, 0)), (.iconst 0, (0, 0, 0, 0)), (.iconst 0, (0, 0, 0, 0)), (.invokevirtual 87, (116, 2, 6, 0))], (.return_, (0, 0, 0, 0)), [])]
/-- 116: TwinVaults$Store.hold(II)V -/
def bt_X6_hold : List bi_K := [(0, [(.aload_n 0, (0, 0, 0, 0)), (.iload_n 1, (0, 0, 0, 0)), (.putfield 78, (6, 11, 0, 0)), (.aload_n 0, (0, 0, 0, 0)), (.iload_n 2, (0, 0, 0, 0)), (.putfield 81, (6, 12, 0, 0))], (.return_, (0, 0, 0, 0)), [])]
/-- 117: TwinVaults$Store.<init>(ILTwinVaults$Site;ILTwinVaults$Vault;)V -/
def bt_X6_init : List bi_K := [(0, [(.aload_n 0, (0, 0, 0, 0)), (.invokespecial 3, (9999, 0, 0, 0)), (.aload_n 0, (0, 0, 0, 0)), (.iload_n 1, (0, 0, 0, 0)), (.putfield 9, (6, 0, 0, 0)), (.aload_n 0, (0, 0, 0, 0)), (.aload_n 2, (0, 0, 0, 0)), (.putfield 15, (6, 1, 1, 0)), (.aload_n 0, (0, 0, 0, 0)), (.iload_n 3, (0, 0, 0, 0)), (.putfield 19, (6, 6, 0, 0)), (.aload_n 0, (0, 0, 0, 0)), (.aload 4, (0, 0, 0, 0)), (.putfield 22, (6, 2, 1, 0)), (.aload_n 0, (0, 0, 0, 0)), (.new 26, (5, 7, 0, 0)), (.dup, (0, 0, 0, 0)), (.invokespecial 28, (111, 0, 5, 0)), (.putfield 29, (6, 3, 1, 0)), (.aload_n 0, (0, 0, 0, 0)), (.new 33, (3, 4, 0, 0)), (.dup, (0, 0, 0, 0)), (.invokespecial 35, (100, 0, 3, 0)), (.putfield 36, (6, 4, 1, 0)), (.aload_n 0, (0, 0, 0, 0)), (.new 33, (3, 4, 0, 0)), (.dup, (0, 0, 0, 0)), (.invokespecial 35, (100, 0, 3, 0)), (.putfield 40, (6, 5, 1, 0)), (.aload_n 0, (0, 0, 0, 0)), (.iconst 1, (0, 0, 0, 0)), (.putfield 43, (6, 7, 0, 0))], (.return_, (0, 0, 0, 0)), [])]
/-- 118: TwinVaults$Store.isPinned(I)Z -/
def bt_X6_isPinned : List bi_K := [(0, [(.iload_n 1, (0, 0, 0, 0)), (.aload_n 0, (0, 0, 0, 0)), (.getfield 22, (6, 2, 1, 0)), (.invokevirtual 91, (134, 0, 7, 0))], (.if_icmp .eq 43, (0, 0, 0, 0)), [6, 1]),
  (11, [(.iload_n 1, (0, 0, 0, 0)), (.aload_n 0, (0, 0, 0, 0)), (.getfield 84, (6, 9, 0, 0))], (.if_icmp .eq 35, (0, 0, 0, 0)), [6, 2]),
  (19, [(.iload_n 1, (0, 0, 0, 0)), (.aload_n 0, (0, 0, 0, 0)), (.getfield 69, (6, 10, 0, 0))], (.if_icmp .eq 27, (0, 0, 0, 0)), [6, 3]),
  (27, [(.iload_n 1, (0, 0, 0, 0)), (.aload_n 0, (0, 0, 0, 0)), (.getfield 61, (6, 14, 0, 0))], (.if_icmp .eq 19, (0, 0, 0, 0)), [6, 4]),
  (35, [(.iload_n 1, (0, 0, 0, 0)), (.aload_n 0, (0, 0, 0, 0)), (.getfield 78, (6, 11, 0, 0))], (.if_icmp .eq 11, (0, 0, 0, 0)), [6, 5]),
  (43, [(.iload_n 1, (0, 0, 0, 0)), (.aload_n 0, (0, 0, 0, 0)), (.getfield 81, (6, 12, 0, 0))], (.if_icmp .ne 7, (0, 0, 0, 0)), [7, 6]),
  (51, [(.iconst 1, (0, 0, 0, 0))], (.goto 4, (0, 0, 0, 0)), [8]),
  (55, [(.iconst 0, (0, 0, 0, 0))], (.nop, (0, 0, 0, 0)), [8]),
  (56, [], (.ireturn, (1, 0, 0, 0)), [])]
/-- 119: TwinVaults$Store.isSource()Z -/
def bt_X6_isSource : List bi_K := [(0, [(.aload_n 0, (0, 0, 0, 0)), (.getfield 19, (6, 6, 0, 0)), (.iconst 1, (0, 0, 0, 0))], (.if_icmp .eq 11, (0, 0, 0, 0)), [2, 1]),
  (8, [(.aload_n 0, (0, 0, 0, 0)), (.getfield 19, (6, 6, 0, 0)), (.iconst 2, (0, 0, 0, 0))], (.if_icmp .ne 7, (0, 0, 0, 0)), [3, 2]),
  (16, [(.iconst 1, (0, 0, 0, 0))], (.goto 4, (0, 0, 0, 0)), [4]),
  (20, [(.iconst 0, (0, 0, 0, 0))], (.nop, (0, 0, 0, 0)), [4]),
  (21, [], (.ireturn, (1, 0, 0, 0)), [])]
/-- 120: TwinVaults$Store.learnEpoch(I)V -/
def bt_X6_learnEpoch : List bi_K := [(0, [(.aload_n 0, (0, 0, 0, 0)), (.getfield 19, (6, 6, 0, 0)), (.iconst 2, (0, 0, 0, 0))], (.if_icmp .ne 23, (0, 0, 0, 0)), [3, 1]),
  (8, [(.aload_n 0, (0, 0, 0, 0)), (.getfield 122, (6, 13, 0, 0)), (.iload_n 1, (0, 0, 0, 0))], (.if_icmp .ne 15, (0, 0, 0, 0)), [3, 2]),
  (16, [(.aload_n 0, (0, 0, 0, 0)), (.iconst 0, (0, 0, 0, 0)), (.putfield 19, (6, 6, 0, 0)), (.aload_n 0, (0, 0, 0, 0)), (.invokevirtual 125, (115, 0, 6, 0))], (.goto 15, (0, 0, 0, 0)), [5]),
  (28, [(.aload_n 0, (0, 0, 0, 0)), (.invokevirtual 54, (119, 0, 6, 0))], (.ifCond .eq 8, (0, 0, 0, 0)), [5, 4]),
  (35, [(.aload_n 0, (0, 0, 0, 0)), (.iconst 3, (0, 0, 0, 0)), (.putfield 19, (6, 6, 0, 0))], (.nop, (0, 0, 0, 0)), [5]),
  (40, [(.aload_n 0, (0, 0, 0, 0)), (.iconst 0, (0, 0, 0, 0)), (.putfield 122, (6, 13, 0, 0)), (.aload_n 0, (0, 0, 0, 0)), (.iload_n 1, (0, 0, 0, 0)), (.putfield 43, (6, 7, 0, 0)), (.aload_n 0, (0, 0, 0, 0)), (.iconst 0, (0, 0, 0, 0)), (.putfield 110, (6, 8, 0, 0)), (.aload_n 0, (0, 0, 0, 0)), (.iconst 0, (0, 0, 0, 0)), (.putfield 58, (6, 15, 0, 0)), (.aload_n 0, (0, 0, 0, 0)), (.getfield 29, (6, 3, 1, 0)), (.invokevirtual 113, (109, 0, 5, 0))], (.return_, (0, 0, 0, 0)), [])]
/-- 121: TwinVaults$Store.sends(LTwinVaults$Message;I)Z -/
def bt_X6_sends : List bi_K := [(0, [(.aload_n 0, (0, 0, 0, 0)), (.invokevirtual 54, (119, 0, 6, 0))], (.ifCond .eq 37, (0, 0, 0, 0)), [5, 1]),
  (7, [(.aload_n 0, (0, 0, 0, 0)), (.getfield 58, (6, 15, 0, 0)), (.iload_n 2, (0, 0, 0, 0))], (.if_icmp .ne 29, (0, 0, 0, 0)), [5, 2]),
  (15, [(.aload_n 0, (0, 0, 0, 0)), (.getfield 61, (6, 14, 0, 0)), (.aload_n 1, (0, 0, 0, 0)), (.getfield 64, (2, 3, 0, 0))], (.if_icmp .ne 18, (0, 0, 0, 0)), [5, 3]),
  (26, [(.aload_n 0, (0, 0, 0, 0)), (.getfield 69, (6, 10, 0, 0)), (.aload_n 1, (0, 0, 0, 0)), (.getfield 72, (2, 4, 0, 0))], (.if_icmp .ne 7, (0, 0, 0, 0)), [5, 4]),
  (37, [(.iconst 1, (0, 0, 0, 0))], (.goto 4, (0, 0, 0, 0)), [6]),
  (41, [(.iconst 0, (0, 0, 0, 0))], (.nop, (0, 0, 0, 0)), [6]),
  (42, [], (.ireturn, (1, 0, 0, 0)), [])]
/-- 122: TwinVaults$Store.thin(I)V -/
def bt_X6_thin : List bi_K := [(0, [(.iconst 0, (0, 0, 0, 0)), (.istore_n 2, (0, 0, 0, 0)), (.aload_n 0, (0, 0, 0, 0)), (.getfield 22, (6, 2, 1, 0)), (.getfield 95, (7, 9, 0, 0)), (.istore_n 3, (0, 0, 0, 0))], (.nop, (0, 0, 0, 0)), [1]),
  (10, [(.iload_n 3, (0, 0, 0, 0))], (.ifCond .le 50, (0, 0, 0, 0)), [7, 2]),
  (14, [(.aload_n 0, (0, 0, 0, 0)), (.getfield 22, (6, 2, 1, 0)), (.getfield 95, (7, 9, 0, 0)), (.iload_n 1, (0, 0, 0, 0))], (.if_icmp .le 39, (0, 0, 0, 0)), [7, 3]),
  (25, [(.aload_n 0, (0, 0, 0, 0)), (.aload_n 0, (0, 0, 0, 0)), (.getfield 22, (6, 2, 1, 0)), (.getfield 98, (7, 7, 1, 0)), (.iload_n 2, (0, 0, 0, 0)), (.iaload, (0, 0, 0, 0)), (.invokevirtual 102, (118, 1, 6, 0))], (.ifCond .eq 9, (0, 0, 0, 0)), [5, 4]),
  (41, [(.iinc 2 1, (0, 0, 0, 0))], (.goto 11, (0, 0, 0, 0)), [6]),
  (47, [(.aload_n 0, (0, 0, 0, 0)), (.getfield 22, (6, 2, 1, 0)), (.iload_n 2, (0, 0, 0, 0)), (.invokevirtual 106, (127, 1, 7, 0))], (.nop, (0, 0, 0, 0)), [6]),
  (55, [(.iinc 3 (-1), (0, 0, 0, 0))], (.goto (-48), (0, 0, 0, 0)), [1]),
  (61, [], (.return_, (0, 0, 0, 0)), [])]
/-- 123: TwinVaults$Store.waitedEnough()Z -/
def bt_X6_waitedEnough : List bi_K := [(0, [(.aload_n 0, (0, 0, 0, 0)), (.dup, (0, 0, 0, 0)), (.getfield 75, (6, 18, 0, 0)), (.iconst 1, (0, 0, 0, 0)), (.iadd, (0, 0, 0, 0)), (.putfield 75, (6, 18, 0, 0)), (.aload_n 0, (0, 0, 0, 0)), (.getfield 75, (6, 18, 0, 0)), (.bipush 8, (0, 0, 0, 0))], (.if_icmp .lt 7, (0, 0, 0, 0)), [2, 1]),
  (19, [(.iconst 1, (0, 0, 0, 0))], (.goto 4, (0, 0, 0, 0)), [3]),
  (23, [(.iconst 0, (0, 0, 0, 0))], (.nop, (0, 0, 0, 0)), [3]),
  (24, [], (.ireturn, (1, 0, 0, 0)), [])]
/-- 124: TwinVaults$Store.wake()I -/
def bt_X6_wake : List bi_K := [(0, [(.aload_n 0, (0, 0, 0, 0)), (.aload_n 0, (0, 0, 0, 0)), (.getfield 84, (6, 9, 0, 0)), (.putfield 61, (6, 14, 0, 0)), (.aload_n 0, (0, 0, 0, 0)), (.iconst 0, (0, 0, 0, 0)), (.putfield 58, (6, 15, 0, 0)), (.aload_n 0, (0, 0, 0, 0)), (.iconst 0, (0, 0, 0, 0)), (.putfield 128, (6, 16, 0, 0)), (.aload_n 0, (0, 0, 0, 0)), (.iconst 0, (0, 0, 0, 0)), (.putfield 131, (6, 17, 0, 0)), (.aload_n 0, (0, 0, 0, 0)), (.iconst 0, (0, 0, 0, 0)), (.putfield 75, (6, 18, 0, 0)), (.aload_n 0, (0, 0, 0, 0)), (.iconst 0, (0, 0, 0, 0)), (.putfield 134, (6, 19, 2, 0)), (.aload_n 0, (0, 0, 0, 0)), (.getfield 22, (6, 2, 1, 0)), (.invokevirtual 138, (140, 0, 7, 0))], (.ireturn, (0, 0, 0, 0)), [])]
/-- 125: TwinVaults$Vault.adopt(IIZ)V -/
def bt_X7_adopt : List bi_K := [(0, [(.iload_n 3, (0, 0, 0, 0))], (.ifCond .eq 13, (0, 0, 0, 0)), [2, 1]),
  (4, [(.aload_n 0, (0, 0, 0, 0)), (.iconst 0, (0, 0, 0, 0)), (.putfield 32, (7, 9, 0, 0)), (.aload_n 0, (0, 0, 0, 0)), (.iconst 0, (0, 0, 0, 0)), (.putfield 70, (7, 10, 0, 0))], (.nop, (0, 0, 0, 0)), [2]),
  (14, [(.aload_n 0, (0, 0, 0, 0)), (.aload_n 0, (0, 0, 0, 0)), (.invokevirtual 49, (136, 0, 7, 0)), (.invokevirtual 94, (147, 1, 7, 0)), (.aload_n 0, (0, 0, 0, 0)), (.dup, (0, 0, 0, 0)), (.getfield 70, (7, 10, 0, 0)), (.aload_n 0, (0, 0, 0, 0)), (.getfield 9, (7, 0, 1, 0)), (.iload_n 2, (0, 0, 0, 0)), (.aload_n 0, (0, 0, 0, 0)), (.getfield 9, (7, 0, 1, 0)), (.getfield 35, (8, 5, 1, 0)), (.aload_n 0, (0, 0, 0, 0)), (.getfield 40, (7, 4, 0, 0)), (.iaload, (0, 0, 0, 0)), (.invokevirtual 90, (155, 2, 8, 0)), (.iadd, (0, 0, 0, 0)), (.putfield 70, (7, 10, 0, 0)), (.aload_n 0, (0, 0, 0, 0)), (.iload_n 2, (0, 0, 0, 0)), (.invokevirtual 98, (126, 1, 7, 0)), (.aload_n 0, (0, 0, 0, 0)), (.iload_n 2, (0, 0, 0, 0)), (.putfield 43, (7, 5, 0, 0)), (.aload_n 0, (0, 0, 0, 0)), (.iload_n 2, (0, 0, 0, 0)), (.putfield 46, (7, 6, 0, 0)), (.aload_n 0, (0, 0, 0, 0)), (.iload_n 1, (0, 0, 0, 0)), (.invokevirtual 101, (149, 1, 7, 0))], (.return_, (0, 0, 0, 0)), [])]
/-- 126: TwinVaults$Vault.advance(I)V -/
def bt_X7_advance : List bi_K := [(0, [(.aload_n 0, (0, 0, 0, 0)), (.getfield 9, (7, 0, 1, 0)), (.getfield 35, (8, 5, 1, 0)), (.aload_n 0, (0, 0, 0, 0)), (.getfield 40, (7, 4, 0, 0)), (.iaload, (0, 0, 0, 0)), (.istore_n 2, (0, 0, 0, 0)), (.iload_n 1, (0, 0, 0, 0)), (.istore_n 3, (0, 0, 0, 0)), (.aload_n 0, (0, 0, 0, 0)), (.getfield 9, (7, 0, 1, 0)), (.getfield 35, (8, 5, 1, 0)), (.iload_n 1, (0, 0, 0, 0)), (.iaload, (0, 0, 0, 0)), (.iload_n 2, (0, 0, 0, 0)), (.isub, (0, 0, 0, 0)), (.istore 4, (0, 0, 0, 0))], (.nop, (0, 0, 0, 0)), [1]),
  (28, [(.iload 4, (0, 0, 0, 0))], (.ifCond .le 57, (0, 0, 0, 0)), [5, 2]),
  (33, [(.aload_n 0, (0, 0, 0, 0)), (.getfield 9, (7, 0, 1, 0)), (.getfield 104, (8, 1, 1, 0)), (.iload_n 3, (0, 0, 0, 0)), (.iaload, (0, 0, 0, 0)), (.istore 5, (0, 0, 0, 0)), (.aload_n 0, (0, 0, 0, 0)), (.getfield 9, (7, 0, 1, 0)), (.getfield 35, (8, 5, 1, 0)), (.aload_n 0, (0, 0, 0, 0)), (.getfield 22, (7, 3, 1, 0)), (.iload 5, (0, 0, 0, 0)), (.iaload, (0, 0, 0, 0)), (.iaload, (0, 0, 0, 0)), (.iload_n 2, (0, 0, 0, 0))], (.if_icmp .gt 11, (0, 0, 0, 0)), [4, 3]),
  (63, [(.aload_n 0, (0, 0, 0, 0)), (.getfield 22, (7, 3, 1, 0)), (.iload 5, (0, 0, 0, 0)), (.iload_n 3, (0, 0, 0, 0)), (.iastore, (0, 0, 0, 0))], (.nop, (0, 0, 0, 0)), [4]),
  (71, [(.aload_n 0, (0, 0, 0, 0)), (.getfield 9, (7, 0, 1, 0)), (.getfield 80, (8, 3, 1, 0)), (.iload_n 3, (0, 0, 0, 0)), (.iaload, (0, 0, 0, 0)), (.istore_n 3, (0, 0, 0, 0)), (.iinc 4 (-1), (0, 0, 0, 0))], (.goto (-56), (0, 0, 0, 0)), [1]),
  (87, [(.aload_n 0, (0, 0, 0, 0)), (.iload_n 1, (0, 0, 0, 0)), (.putfield 40, (7, 4, 0, 0))], (.return_, (0, 0, 0, 0)), [])]
/-- 127: TwinVaults$Vault.drop(I)V -/
def bt_X7_drop : List bi_K := [(0, [(.iload_n 1, (0, 0, 0, 0)), (.iconst 1, (0, 0, 0, 0)), (.iadd, (0, 0, 0, 0)), (.aload_n 0, (0, 0, 0, 0)), (.getfield 32, (7, 9, 0, 0))], (.if_icmp .ge 14, (0, 0, 0, 0)), [2, 1]),
  (10, [(.aload_n 0, (0, 0, 0, 0)), (.getfield 29, (7, 8, 1, 0)), (.iload_n 1, (0, 0, 0, 0)), (.iconst 1, (0, 0, 0, 0)), (.iadd, (0, 0, 0, 0)), (.iaload, (0, 0, 0, 0))], (.goto 7, (0, 0, 0, 0)), [3]),
  (21, [(.aload_n 0, (0, 0, 0, 0)), (.getfield 46, (7, 6, 0, 0))], (.nop, (0, 0, 0, 0)), [3]),
  (25, [(.istore_n 2, (0, 0, 0, 0)), (.aload_n 0, (0, 0, 0, 0)), (.dup, (0, 0, 0, 0)), (.getfield 70, (7, 10, 0, 0)), (.aload_n 0, (0, 0, 0, 0)), (.getfield 9, (7, 0, 1, 0)), (.iload_n 2, (0, 0, 0, 0)), (.aload_n 0, (0, 0, 0, 0)), (.iload_n 1, (0, 0, 0, 0)), (.invokevirtual 63, (137, 1, 7, 0)), (.iload_n 1, (0, 0, 0, 0))], (.ifCond .ne 7, (0, 0, 0, 0)), [5, 4]),
  (45, [(.iconst 0, (0, 0, 0, 0))], (.goto 10, (0, 0, 0, 0)), [6]),
  (49, [(.aload_n 0, (0, 0, 0, 0)), (.iload_n 1, (0, 0, 0, 0)), (.iconst 1, (0, 0, 0, 0)), (.isub, (0, 0, 0, 0)), (.invokevirtual 63, (137, 1, 7, 0))], (.nop, (0, 0, 0, 0)), [6]),
  (56, [(.invokevirtual 86, (156, 3, 8, 0)), (.isub, (0, 0, 0, 0)), (.putfield 70, (7, 10, 0, 0)), (.iload_n 1, (0, 0, 0, 0)), (.iconst 1, (0, 0, 0, 0)), (.iadd, (0, 0, 0, 0)), (.istore_n 3, (0, 0, 0, 0))], (.nop, (0, 0, 0, 0)), [7]),
  (67, [(.iload_n 3, (0, 0, 0, 0)), (.aload_n 0, (0, 0, 0, 0)), (.getfield 32, (7, 9, 0, 0))], (.if_icmp .ge 37, (0, 0, 0, 0)), [9, 8]),
  (75, [(.aload_n 0, (0, 0, 0, 0)), (.getfield 26, (7, 7, 1, 0)), (.iload_n 3, (0, 0, 0, 0)), (.iconst 1, (0, 0, 0, 0)), (.isub, (0, 0, 0, 0)), (.aload_n 0, (0, 0, 0, 0)), (.getfield 26, (7, 7, 1, 0)), (.iload_n 3, (0, 0, 0, 0)), (.iaload, (0, 0, 0, 0)), (.iastore, (0, 0, 0, 0)), (.aload_n 0, (0, 0, 0, 0)), (.getfield 29, (7, 8, 1, 0)), (.iload_n 3, (0, 0, 0, 0)), (.iconst 1, (0, 0, 0, 0)), (.isub, (0, 0, 0, 0)), (.aload_n 0, (0, 0, 0, 0)), (.getfield 29, (7, 8, 1, 0)), (.iload_n 3, (0, 0, 0, 0)), (.iaload, (0, 0, 0, 0)), (.iastore, (0, 0, 0, 0)), (.iinc 3 1, (0, 0, 0, 0))], (.goto (-39), (0, 0, 0, 0)), [7]),
  (109, [(.aload_n 0, (0, 0, 0, 0)), (.dup, (0, 0, 0, 0)), (.getfield 32, (7, 9, 0, 0)), (.iconst 1, (0, 0, 0, 0)), (.isub, (0, 0, 0, 0)), (.putfield 32, (7, 9, 0, 0))], (.return_, (0, 0, 0, 0)), [])]
/-- 128: TwinVaults$Vault.find(I)I -/
def bt_X7_find : List bi_K := [(0, [(.iconst 0, (0, 0, 0, 0)), (.istore_n 2, (0, 0, 0, 0))], (.nop, (0, 0, 0, 0)), [1]),
  (2, [(.iload_n 2, (0, 0, 0, 0)), (.aload_n 0, (0, 0, 0, 0)), (.getfield 32, (7, 9, 0, 0))], (.if_icmp .ge 21, (0, 0, 0, 0)), [5, 2]),
  (10, [(.aload_n 0, (0, 0, 0, 0)), (.getfield 26, (7, 7, 1, 0)), (.iload_n 2, (0, 0, 0, 0)), (.iaload, (0, 0, 0, 0)), (.iload_n 1, (0, 0, 0, 0))], (.if_icmp .ne 5, (0, 0, 0, 0)), [4, 3]),
  (20, [(.iload_n 2, (0, 0, 0, 0))], (.ireturn, (0, 0, 0, 0)), []),
  (22, [(.iinc 2 1, (0, 0, 0, 0))], (.goto (-23), (0, 0, 0, 0)), [1]),
  (28, [(.iconst (-1), (0, 0, 0, 0))], (.ireturn, (0, 0, 0, 0)), [])]
/-- 129: TwinVaults$Vault.hasPlace(II)Z -/
def bt_X7_hasPlace : List bi_K := [(0, [(.iload_n 1, (0, 0, 0, 0))], (.ifCond .lt 27, (0, 0, 0, 0)), [5, 1]),
  (4, [(.iload_n 1, (0, 0, 0, 0)), (.aload_n 0, (0, 0, 0, 0)), (.getfield 15, (7, 1, 0, 0))], (.if_icmp .ge 19, (0, 0, 0, 0)), [5, 2]),
  (12, [(.iload_n 2, (0, 0, 0, 0))], (.ifCond .lt 15, (0, 0, 0, 0)), [5, 3]),
  (16, [(.iload_n 2, (0, 0, 0, 0)), (.aload_n 0, (0, 0, 0, 0)), (.getfield 19, (7, 2, 0, 0))], (.if_icmp .ge 7, (0, 0, 0, 0)), [5, 4]),
  (24, [(.iconst 1, (0, 0, 0, 0))], (.goto 4, (0, 0, 0, 0)), [6]),
  (28, [(.iconst 0, (0, 0, 0, 0))], (.nop, (0, 0, 0, 0)), [6]),
  (29, [], (.ireturn, (1, 0, 0, 0)), [])]
/-- 130: TwinVaults$Vault.hasSnapshot(I)Z -/
def bt_X7_hasSnapshot : List bi_K := [(0, [(.iload_n 1, (0, 0, 0, 0))], (.ifCond .lt 15, (0, 0, 0, 0)), [3, 1]),
  (4, [(.iload_n 1, (0, 0, 0, 0)), (.aload_n 0, (0, 0, 0, 0)), (.getfield 32, (7, 9, 0, 0))], (.if_icmp .ge 7, (0, 0, 0, 0)), [3, 2]),
  (12, [(.iconst 1, (0, 0, 0, 0))], (.goto 4, (0, 0, 0, 0)), [4]),
  (16, [(.iconst 0, (0, 0, 0, 0))], (.nop, (0, 0, 0, 0)), [4]),
  (17, [], (.ireturn, (1, 0, 0, 0)), [])]
/-- 131: TwinVaults$Vault.<init>(LTwinVaults$Writes;II)V -/
def bt_X7_init : List bi_K := [(0, [(.aload_n 0, (0, 0, 0, 0)), (.invokespecial 3, (9999, 0, 0, 0)), (.aload_n 0, (0, 0, 0, 0)), (.aload_n 1, (0, 0, 0, 0)), (.putfield 9, (7, 0, 1, 0)), (.aload_n 0, (0, 0, 0, 0)), (.iload_n 2, (0, 0, 0, 0)), (.putfield 15, (7, 1, 0, 0)), (.aload_n 0, (0, 0, 0, 0)), (.iload_n 3, (0, 0, 0, 0)), (.putfield 19, (7, 2, 0, 0)), (.aload_n 0, (0, 0, 0, 0)), (.iload_n 2, (0, 0, 0, 0)), (.sipush 4096, (0, 0, 0, 0)), (.imul, (0, 0, 0, 0)), (.newarray .int, (0, 0, 0, 0)), (.putfield 22, (7, 3, 1, 0)), (.aload_n 0, (0, 0, 0, 0)), (.bipush 16, (0, 0, 0, 0)), (.newarray .int, (0, 0, 0, 0)), (.putfield 26, (7, 7, 1, 0)), (.aload_n 0, (0, 0, 0, 0)), (.bipush 16, (0, 0, 0, 0)), (.newarray .int, (0, 0, 0, 0)), (.putfield 29, (7, 8, 1, 0))], (.return_, (0, 0, 0, 0)), [])]
/-- 132: TwinVaults$Vault.journal()I -/
def bt_X7_journal : List bi_K := [(0, [(.aload_n 0, (0, 0, 0, 0)), (.getfield 9, (7, 0, 1, 0)), (.getfield 35, (8, 5, 1, 0)), (.aload_n 0, (0, 0, 0, 0)), (.getfield 43, (7, 5, 0, 0)), (.iaload, (0, 0, 0, 0)), (.aload_n 0, (0, 0, 0, 0)), (.getfield 9, (7, 0, 1, 0)), (.getfield 35, (8, 5, 1, 0)), (.aload_n 0, (0, 0, 0, 0)), (.getfield 46, (7, 6, 0, 0)), (.iaload, (0, 0, 0, 0)), (.isub, (0, 0, 0, 0))], (.ireturn, (0, 0, 0, 0)), [])]
/-- 133: TwinVaults$Vault.keepNow()V -/
def bt_X7_keepNow : List bi_K := [(0, [(.aload_n 0, (0, 0, 0, 0)), (.dup, (0, 0, 0, 0)), (.getfield 70, (7, 10, 0, 0)), (.aload_n 0, (0, 0, 0, 0)), (.getfield 9, (7, 0, 1, 0)), (.aload_n 0, (0, 0, 0, 0)), (.getfield 40, (7, 4, 0, 0)), (.aload_n 0, (0, 0, 0, 0)), (.getfield 9, (7, 0, 1, 0)), (.getfield 35, (8, 5, 1, 0)), (.aload_n 0, (0, 0, 0, 0)), (.getfield 46, (7, 6, 0, 0)), (.iaload, (0, 0, 0, 0)), (.aload_n 0, (0, 0, 0, 0)), (.invokevirtual 83, (135, 0, 7, 0)), (.invokevirtual 86, (156, 3, 8, 0)), (.isub, (0, 0, 0, 0)), (.putfield 70, (7, 10, 0, 0)), (.aload_n 0, (0, 0, 0, 0)), (.aload_n 0, (0, 0, 0, 0)), (.getfield 40, (7, 4, 0, 0)), (.putfield 43, (7, 5, 0, 0)), (.aload_n 0, (0, 0, 0, 0)), (.aload_n 0, (0, 0, 0, 0)), (.getfield 40, (7, 4, 0, 0)), (.putfield 46, (7, 6, 0, 0))], (.return_, (0, 0, 0, 0)), [])]
/-- 134: TwinVaults$Vault.latest()I -/
def bt_X7_latest : List bi_K := [(0, [(.aload_n 0, (0, 0, 0, 0)), (.getfield 32, (7, 9, 0, 0))], (.ifCond .ne 7, (0, 0, 0, 0)), [2, 1]),
  (7, [(.iconst 0, (0, 0, 0, 0))], (.goto 14, (0, 0, 0, 0)), [3]),
  (11, [(.aload_n 0, (0, 0, 0, 0)), (.getfield 26, (7, 7, 1, 0)), (.aload_n 0, (0, 0, 0, 0)), (.getfield 32, (7, 9, 0, 0)), (.iconst 1, (0, 0, 0, 0)), (.isub, (0, 0, 0, 0)), (.iaload, (0, 0, 0, 0))], (.nop, (0, 0, 0, 0)), [3]),
  (22, [], (.ireturn, (0, 0, 0, 0)), [])]
/-- 135: TwinVaults$Vault.latestLength()I -/
def bt_X7_latestLength : List bi_K := [(0, [(.aload_n 0, (0, 0, 0, 0)), (.getfield 9, (7, 0, 1, 0)), (.getfield 35, (8, 5, 1, 0)), (.aload_n 0, (0, 0, 0, 0)), (.invokevirtual 49, (136, 0, 7, 0)), (.iaload, (0, 0, 0, 0))], (.ireturn, (0, 0, 0, 0)), [])]
/-- 136: TwinVaults$Vault.latestLine()I -/
def bt_X7_latestLine : List bi_K := [(0, [(.aload_n 0, (0, 0, 0, 0)), (.getfield 32, (7, 9, 0, 0))], (.ifCond .ne 7, (0, 0, 0, 0)), [2, 1]),
  (7, [(.iconst 0, (0, 0, 0, 0))], (.goto 14, (0, 0, 0, 0)), [3]),
  (11, [(.aload_n 0, (0, 0, 0, 0)), (.getfield 29, (7, 8, 1, 0)), (.aload_n 0, (0, 0, 0, 0)), (.getfield 32, (7, 9, 0, 0)), (.iconst 1, (0, 0, 0, 0)), (.isub, (0, 0, 0, 0)), (.iaload, (0, 0, 0, 0))], (.nop, (0, 0, 0, 0)), [3]),
  (22, [], (.ireturn, (0, 0, 0, 0)), [])]
/-- 137: TwinVaults$Vault.lengthOf(I)I -/
def bt_X7_lengthOf : List bi_K := [(0, [(.aload_n 0, (0, 0, 0, 0)), (.getfield 9, (7, 0, 1, 0)), (.getfield 35, (8, 5, 1, 0)), (.aload_n 0, (0, 0, 0, 0)), (.getfield 29, (7, 8, 1, 0)), (.iload_n 1, (0, 0, 0, 0)), (.iaload, (0, 0, 0, 0)), (.iaload, (0, 0, 0, 0))], (.ireturn, (0, 0, 0, 0)), [])]
/-- 138: TwinVaults$Vault.lengthOfId(I)I -/
def bt_X7_lengthOfId : List bi_K := [(0, [(.aload_n 0, (0, 0, 0, 0)), (.getfield 9, (7, 0, 1, 0)), (.getfield 35, (8, 5, 1, 0)), (.aload_n 0, (0, 0, 0, 0)), (.iload_n 1, (0, 0, 0, 0)), (.invokevirtual 57, (139, 1, 7, 0)), (.iaload, (0, 0, 0, 0))], (.ireturn, (0, 0, 0, 0)), [])]
/-- 139: TwinVaults$Vault.lineOf(I)I -/
def bt_X7_lineOf : List bi_K := [(0, [(.aload_n 0, (0, 0, 0, 0)), (.iload_n 1, (0, 0, 0, 0)), (.invokevirtual 53, (128, 1, 7, 0)), (.istore_n 2, (0, 0, 0, 0)), (.iload_n 2, (0, 0, 0, 0))], (.ifCond .ge 7, (0, 0, 0, 0)), [2, 1]),
  (10, [(.iconst 0, (0, 0, 0, 0))], (.goto 9, (0, 0, 0, 0)), [3]),
  (14, [(.aload_n 0, (0, 0, 0, 0)), (.getfield 29, (7, 8, 1, 0)), (.iload_n 2, (0, 0, 0, 0)), (.iaload, (0, 0, 0, 0))], (.nop, (0, 0, 0, 0)), [3]),
  (20, [], (.ireturn, (0, 0, 0, 0)), [])]
/-- 140: TwinVaults$Vault.losePending()I -/
def bt_X7_losePending : List bi_K := [(0, [(.aload_n 0, (0, 0, 0, 0)), (.invokevirtual 77, (144, 0, 7, 0)), (.istore_n 1, (0, 0, 0, 0)), (.aload_n 0, (0, 0, 0, 0)), (.getfield 9, (7, 0, 1, 0)), (.getfield 35, (8, 5, 1, 0)), (.aload_n 0, (0, 0, 0, 0)), (.getfield 46, (7, 6, 0, 0)), (.iaload, (0, 0, 0, 0)), (.istore_n 2, (0, 0, 0, 0)), (.aload_n 0, (0, 0, 0, 0)), (.dup, (0, 0, 0, 0)), (.getfield 70, (7, 10, 0, 0)), (.aload_n 0, (0, 0, 0, 0)), (.getfield 9, (7, 0, 1, 0)), (.aload_n 0, (0, 0, 0, 0)), (.getfield 40, (7, 4, 0, 0)), (.iload_n 2, (0, 0, 0, 0)), (.invokevirtual 90, (155, 2, 8, 0)), (.aload_n 0, (0, 0, 0, 0)), (.getfield 9, (7, 0, 1, 0)), (.aload_n 0, (0, 0, 0, 0)), (.getfield 43, (7, 5, 0, 0)), (.iload_n 2, (0, 0, 0, 0)), (.invokevirtual 90, (155, 2, 8, 0)), (.isub, (0, 0, 0, 0)), (.isub, (0, 0, 0, 0)), (.putfield 70, (7, 10, 0, 0)), (.aload_n 0, (0, 0, 0, 0)), (.aload_n 0, (0, 0, 0, 0)), (.getfield 43, (7, 5, 0, 0)), (.invokevirtual 94, (147, 1, 7, 0)), (.iload_n 1, (0, 0, 0, 0))], (.ireturn, (0, 0, 0, 0)), [])]
/-- 141: TwinVaults$Vault.nowIsLatest()Z -/
def bt_X7_nowIsLatest : List bi_K := [(0, [(.aload_n 0, (0, 0, 0, 0)), (.getfield 40, (7, 4, 0, 0)), (.aload_n 0, (0, 0, 0, 0)), (.invokevirtual 49, (136, 0, 7, 0))], (.if_icmp .ne 7, (0, 0, 0, 0)), [2, 1]),
  (11, [(.iconst 1, (0, 0, 0, 0))], (.goto 4, (0, 0, 0, 0)), [3]),
  (15, [(.iconst 0, (0, 0, 0, 0))], (.nop, (0, 0, 0, 0)), [3]),
  (16, [], (.ireturn, (1, 0, 0, 0)), [])]
/-- 142: TwinVaults$Vault.numberAt(I)I -/
def bt_X7_numberAt : List bi_K := [(0, [(.aload_n 0, (0, 0, 0, 0)), (.getfield 9, (7, 0, 1, 0)), (.getfield 60, (8, 2, 1, 0)), (.aload_n 0, (0, 0, 0, 0)), (.getfield 22, (7, 3, 1, 0)), (.iload_n 1, (0, 0, 0, 0)), (.iaload, (0, 0, 0, 0)), (.iaload, (0, 0, 0, 0))], (.ireturn, (0, 0, 0, 0)), [])]
/-- 143: TwinVaults$Vault.oldNumberAt(II)I -/
def bt_X7_oldNumberAt : List bi_K := [(0, [(.aload_n 0, (0, 0, 0, 0)), (.getfield 22, (7, 3, 1, 0)), (.iload_n 2, (0, 0, 0, 0)), (.iaload, (0, 0, 0, 0)), (.istore_n 3, (0, 0, 0, 0)), (.aload_n 0, (0, 0, 0, 0)), (.iload_n 1, (0, 0, 0, 0)), (.invokevirtual 63, (137, 1, 7, 0)), (.istore 4, (0, 0, 0, 0)), (.iconst 0, (0, 0, 0, 0)), (.istore 5, (0, 0, 0, 0))], (.nop, (0, 0, 0, 0)), [1]),
  (17, [(.iload 5, (0, 0, 0, 0)), (.ldc 66, (60000, 0, 0, 0))], (.if_icmp .ge 33, (0, 0, 0, 0)), [4, 2]),
  (24, [(.aload_n 0, (0, 0, 0, 0)), (.getfield 9, (7, 0, 1, 0)), (.getfield 35, (8, 5, 1, 0)), (.iload_n 3, (0, 0, 0, 0)), (.iaload, (0, 0, 0, 0)), (.iload 4, (0, 0, 0, 0))], (.if_icmp .le 19, (0, 0, 0, 0)), [4, 3]),
  (38, [(.aload_n 0, (0, 0, 0, 0)), (.getfield 9, (7, 0, 1, 0)), (.getfield 67, (8, 4, 1, 0)), (.iload_n 3, (0, 0, 0, 0)), (.iaload, (0, 0, 0, 0)), (.istore_n 3, (0, 0, 0, 0)), (.iinc 5 1, (0, 0, 0, 0))], (.goto (-34), (0, 0, 0, 0)), [1]),
  (54, [(.aload_n 0, (0, 0, 0, 0)), (.getfield 9, (7, 0, 1, 0)), (.getfield 60, (8, 2, 1, 0)), (.iload_n 3, (0, 0, 0, 0)), (.iaload, (0, 0, 0, 0))], (.ireturn, (0, 0, 0, 0)), [])]
/-- 144: TwinVaults$Vault.pending()I -/
def bt_X7_pending : List bi_K := [(0, [(.aload_n 0, (0, 0, 0, 0)), (.getfield 9, (7, 0, 1, 0)), (.getfield 35, (8, 5, 1, 0)), (.aload_n 0, (0, 0, 0, 0)), (.getfield 40, (7, 4, 0, 0)), (.iaload, (0, 0, 0, 0)), (.aload_n 0, (0, 0, 0, 0)), (.getfield 9, (7, 0, 1, 0)), (.getfield 35, (8, 5, 1, 0)), (.aload_n 0, (0, 0, 0, 0)), (.getfield 43, (7, 5, 0, 0)), (.iaload, (0, 0, 0, 0)), (.isub, (0, 0, 0, 0))], (.ireturn, (0, 0, 0, 0)), [])]
/-- 145: TwinVaults$Vault.put(II)V -/
def bt_X7_put : List bi_K := [(0, [(.aload_n 0, (0, 0, 0, 0)), (.getfield 22, (7, 3, 1, 0)), (.iload_n 1, (0, 0, 0, 0)), (.iaload, (0, 0, 0, 0)), (.istore_n 3, (0, 0, 0, 0)), (.aload_n 0, (0, 0, 0, 0)), (.getfield 9, (7, 0, 1, 0)), (.getfield 35, (8, 5, 1, 0)), (.iload_n 3, (0, 0, 0, 0)), (.iaload, (0, 0, 0, 0)), (.aload_n 0, (0, 0, 0, 0)), (.getfield 9, (7, 0, 1, 0)), (.getfield 35, (8, 5, 1, 0)), (.aload_n 0, (0, 0, 0, 0)), (.getfield 46, (7, 6, 0, 0)), (.iaload, (0, 0, 0, 0))], (.if_icmp .gt 13, (0, 0, 0, 0)), [2, 1]),
  (31, [(.aload_n 0, (0, 0, 0, 0)), (.dup, (0, 0, 0, 0)), (.getfield 70, (7, 10, 0, 0)), (.iconst 1, (0, 0, 0, 0)), (.iadd, (0, 0, 0, 0)), (.putfield 70, (7, 10, 0, 0))], (.nop, (0, 0, 0, 0)), [2]),
  (41, [(.aload_n 0, (0, 0, 0, 0)), (.aload_n 0, (0, 0, 0, 0)), (.getfield 9, (7, 0, 1, 0)), (.aload_n 0, (0, 0, 0, 0)), (.getfield 40, (7, 4, 0, 0)), (.iload_n 1, (0, 0, 0, 0)), (.iload_n 2, (0, 0, 0, 0)), (.iload_n 3, (0, 0, 0, 0)), (.invokevirtual 73, (151, 4, 8, 0)), (.putfield 40, (7, 4, 0, 0)), (.aload_n 0, (0, 0, 0, 0)), (.getfield 22, (7, 3, 1, 0)), (.iload_n 1, (0, 0, 0, 0)), (.aload_n 0, (0, 0, 0, 0)), (.getfield 40, (7, 4, 0, 0)), (.iastore, (0, 0, 0, 0))], (.return_, (0, 0, 0, 0)), [])]
/-- 146: TwinVaults$Vault.returnTo(I)V -/
def bt_X7_returnTo : List bi_K := [(0, [(.aload_n 0, (0, 0, 0, 0)), (.iload_n 1, (0, 0, 0, 0)), (.iconst 1, (0, 0, 0, 0)), (.iadd, (0, 0, 0, 0)), (.putfield 32, (7, 9, 0, 0)), (.aload_n 0, (0, 0, 0, 0)), (.aload_n 0, (0, 0, 0, 0)), (.invokevirtual 49, (136, 0, 7, 0)), (.invokevirtual 94, (147, 1, 7, 0)), (.aload_n 0, (0, 0, 0, 0)), (.aload_n 0, (0, 0, 0, 0)), (.getfield 40, (7, 4, 0, 0)), (.putfield 43, (7, 5, 0, 0)), (.aload_n 0, (0, 0, 0, 0)), (.aload_n 0, (0, 0, 0, 0)), (.getfield 40, (7, 4, 0, 0)), (.putfield 46, (7, 6, 0, 0)), (.aload_n 0, (0, 0, 0, 0)), (.iconst 0, (0, 0, 0, 0)), (.putfield 70, (7, 10, 0, 0)), (.iconst 0, (0, 0, 0, 0)), (.istore_n 2, (0, 0, 0, 0)), (.iconst 0, (0, 0, 0, 0)), (.istore_n 3, (0, 0, 0, 0))], (.nop, (0, 0, 0, 0)), [1]),
  (40, [(.iload_n 3, (0, 0, 0, 0)), (.aload_n 0, (0, 0, 0, 0)), (.getfield 32, (7, 9, 0, 0))], (.if_icmp .ge 38, (0, 0, 0, 0)), [3, 2]),
  (48, [(.aload_n 0, (0, 0, 0, 0)), (.dup, (0, 0, 0, 0)), (.getfield 70, (7, 10, 0, 0)), (.aload_n 0, (0, 0, 0, 0)), (.getfield 9, (7, 0, 1, 0)), (.aload_n 0, (0, 0, 0, 0)), (.getfield 29, (7, 8, 1, 0)), (.iload_n 3, (0, 0, 0, 0)), (.iaload, (0, 0, 0, 0)), (.iload_n 2, (0, 0, 0, 0)), (.invokevirtual 90, (155, 2, 8, 0)), (.iadd, (0, 0, 0, 0)), (.putfield 70, (7, 10, 0, 0)), (.aload_n 0, (0, 0, 0, 0)), (.iload_n 3, (0, 0, 0, 0)), (.invokevirtual 63, (137, 1, 7, 0)), (.istore_n 2, (0, 0, 0, 0)), (.iinc 3 1, (0, 0, 0, 0))], (.goto (-40), (0, 0, 0, 0)), [1]),
  (83, [], (.return_, (0, 0, 0, 0)), [])]
/-- 147: TwinVaults$Vault.rewind(I)V -/
def bt_X7_rewind : List bi_K := [(0, [(.aload_n 0, (0, 0, 0, 0)), (.getfield 9, (7, 0, 1, 0)), (.getfield 35, (8, 5, 1, 0)), (.aload_n 0, (0, 0, 0, 0)), (.getfield 40, (7, 4, 0, 0)), (.iaload, (0, 0, 0, 0)), (.aload_n 0, (0, 0, 0, 0)), (.getfield 9, (7, 0, 1, 0)), (.getfield 35, (8, 5, 1, 0)), (.iload_n 1, (0, 0, 0, 0)), (.iaload, (0, 0, 0, 0)), (.isub, (0, 0, 0, 0)), (.istore_n 2, (0, 0, 0, 0))], (.nop, (0, 0, 0, 0)), [1]),
  (23, [(.iload_n 2, (0, 0, 0, 0))], (.ifCond .le 54, (0, 0, 0, 0)), [3, 2]),
  (27, [(.aload_n 0, (0, 0, 0, 0)), (.getfield 22, (7, 3, 1, 0)), (.aload_n 0, (0, 0, 0, 0)), (.getfield 9, (7, 0, 1, 0)), (.getfield 104, (8, 1, 1, 0)), (.aload_n 0, (0, 0, 0, 0)), (.getfield 40, (7, 4, 0, 0)), (.iaload, (0, 0, 0, 0)), (.aload_n 0, (0, 0, 0, 0)), (.getfield 9, (7, 0, 1, 0)), (.getfield 67, (8, 4, 1, 0)), (.aload_n 0, (0, 0, 0, 0)), (.getfield 40, (7, 4, 0, 0)), (.iaload, (0, 0, 0, 0)), (.iastore, (0, 0, 0, 0)), (.aload_n 0, (0, 0, 0, 0)), (.aload_n 0, (0, 0, 0, 0)), (.getfield 9, (7, 0, 1, 0)), (.getfield 80, (8, 3, 1, 0)), (.aload_n 0, (0, 0, 0, 0)), (.getfield 40, (7, 4, 0, 0)), (.iaload, (0, 0, 0, 0)), (.putfield 40, (7, 4, 0, 0)), (.iinc 2 (-1), (0, 0, 0, 0))], (.goto (-52), (0, 0, 0, 0)), [1]),
  (78, [], (.return_, (0, 0, 0, 0)), [])]
/-- 148: TwinVaults$Vault.save(I)V -/
def bt_X7_save : List bi_K := [(0, [(.aload_n 0, (0, 0, 0, 0)), (.getfield 40, (7, 4, 0, 0)), (.istore_n 2, (0, 0, 0, 0)), (.aload_n 0, (0, 0, 0, 0)), (.invokevirtual 77, (144, 0, 7, 0)), (.iload_n 1, (0, 0, 0, 0)), (.isub, (0, 0, 0, 0)), (.istore_n 3, (0, 0, 0, 0))], (.nop, (0, 0, 0, 0)), [1]),
  (12, [(.iload_n 3, (0, 0, 0, 0))], (.ifCond .le 19, (0, 0, 0, 0)), [3, 2]),
  (16, [(.aload_n 0, (0, 0, 0, 0)), (.getfield 9, (7, 0, 1, 0)), (.getfield 80, (8, 3, 1, 0)), (.iload_n 2, (0, 0, 0, 0)), (.iaload, (0, 0, 0, 0)), (.istore_n 2, (0, 0, 0, 0)), (.iinc 3 (-1), (0, 0, 0, 0))], (.goto (-17), (0, 0, 0, 0)), [1]),
  (32, [(.aload_n 0, (0, 0, 0, 0)), (.iload_n 2, (0, 0, 0, 0)), (.putfield 43, (7, 5, 0, 0))], (.return_, (0, 0, 0, 0)), [])]
/-- 149: TwinVaults$Vault.shelve(I)V -/
def bt_X7_shelve : List bi_K := [(0, [(.aload_n 0, (0, 0, 0, 0)), (.getfield 32, (7, 9, 0, 0)), (.bipush 16, (0, 0, 0, 0))], (.if_icmp .ge 36, (0, 0, 0, 0)), [2, 1]),
  (9, [(.aload_n 0, (0, 0, 0, 0)), (.getfield 26, (7, 7, 1, 0)), (.aload_n 0, (0, 0, 0, 0)), (.getfield 32, (7, 9, 0, 0)), (.iload_n 1, (0, 0, 0, 0)), (.iastore, (0, 0, 0, 0)), (.aload_n 0, (0, 0, 0, 0)), (.getfield 29, (7, 8, 1, 0)), (.aload_n 0, (0, 0, 0, 0)), (.getfield 32, (7, 9, 0, 0)), (.aload_n 0, (0, 0, 0, 0)), (.getfield 40, (7, 4, 0, 0)), (.iastore, (0, 0, 0, 0)), (.aload_n 0, (0, 0, 0, 0)), (.dup, (0, 0, 0, 0)), (.getfield 32, (7, 9, 0, 0)), (.iconst 1, (0, 0, 0, 0)), (.iadd, (0, 0, 0, 0)), (.putfield 32, (7, 9, 0, 0))], (.nop, (0, 0, 0, 0)), [2]),
  (42, [], (.return_, (0, 0, 0, 0)), [])]
/-- 150: TwinVaults$Writes.collect(LTwinVaults$Row;II)V -/
def bt_X8_collect : List bi_K := [(0, [(.aload_n 1, (0, 0, 0, 0)), (.getfield 64, (3, 0, 0, 0)), (.iload_n 2, (0, 0, 0, 0))], (.if_icmp .ne 12, (0, 0, 0, 0)), [3, 1]),
  (8, [(.aload_n 1, (0, 0, 0, 0)), (.getfield 69, (3, 1, 0, 0)), (.iload_n 3, (0, 0, 0, 0))], (.if_icmp .ne 4, (0, 0, 0, 0)), [3, 2]),
  (16, [], (.return_, (0, 0, 0, 0)), []),
  (17, [(.aload_n 1, (0, 0, 0, 0)), (.iload_n 2, (0, 0, 0, 0)), (.iload_n 3, (0, 0, 0, 0)), (.aload_n 0, (0, 0, 0, 0)), (.iload_n 2, (0, 0, 0, 0)), (.iload_n 3, (0, 0, 0, 0)), (.invokevirtual 72, (155, 2, 8, 0)), (.invokevirtual 75, (99, 3, 3, 0)), (.aload_n 0, (0, 0, 0, 0)), (.getfield 33, (8, 6, 1, 0)), (.invokevirtual 57, (93, 0, 1, 0)), (.iload_n 2, (0, 0, 0, 0)), (.istore 4, (0, 0, 0, 0)), (.aload_n 0, (0, 0, 0, 0)), (.getfield 24, (8, 5, 1, 0)), (.iload_n 2, (0, 0, 0, 0)), (.iaload, (0, 0, 0, 0)), (.iload_n 3, (0, 0, 0, 0)), (.isub, (0, 0, 0, 0)), (.istore 5, (0, 0, 0, 0))], (.nop, (0, 0, 0, 0)), [4]),
  (49, [(.iload 5, (0, 0, 0, 0))], (.ifCond .le 42, (0, 0, 0, 0)), [8, 5]),
  (54, [(.aload_n 0, (0, 0, 0, 0)), (.getfield 33, (8, 6, 1, 0)), (.aload_n 0, (0, 0, 0, 0)), (.getfield 9, (8, 1, 1, 0)), (.iload 4, (0, 0, 0, 0)), (.iaload, (0, 0, 0, 0)), (.invokevirtual 60, (95, 1, 1, 0)), (.iconst 1, (0, 0, 0, 0))], (.if_icmp .ne 9, (0, 0, 0, 0)), [7, 6]),
  (72, [(.aload_n 1, (0, 0, 0, 0)), (.iload 4, (0, 0, 0, 0)), (.invokevirtual 78, (98, 1, 3, 0))], (.nop, (0, 0, 0, 0)), [7]),
  (78, [(.aload_n 0, (0, 0, 0, 0)), (.getfield 18, (8, 3, 1, 0)), (.iload 4, (0, 0, 0, 0)), (.iaload, (0, 0, 0, 0)), (.istore 4, (0, 0, 0, 0)), (.iinc 5 (-1), (0, 0, 0, 0))], (.goto (-41), (0, 0, 0, 0)), [4]),
  (93, [(.aload_n 1, (0, 0, 0, 0)), (.aload_n 0, (0, 0, 0, 0)), (.getfield 9, (8, 1, 1, 0)), (.invokevirtual 81, (102, 1, 3, 0))], (.return_, (0, 0, 0, 0)), [])]
/-- 151: TwinVaults$Writes.extend(IIII)I -/
def bt_X8_extend : List bi_K := [(0, [(.aload_n 0, (0, 0, 0, 0)), (.getfield 37, (8, 0, 0, 0)), (.iconst 1, (0, 0, 0, 0)), (.iadd, (0, 0, 0, 0)), (.aload_n 0, (0, 0, 0, 0)), (.getfield 24, (8, 5, 1, 0)), (.arraylength, (0, 0, 0, 0))], (.if_icmp .lt 14, (0, 0, 0, 0)), [2, 1]),
  (14, [(.aload_n 0, (0, 0, 0, 0)), (.iconst 2, (0, 0, 0, 0)), (.aload_n 0, (0, 0, 0, 0)), (.getfield 24, (8, 5, 1, 0)), (.arraylength, (0, 0, 0, 0)), (.imul, (0, 0, 0, 0)), (.invokevirtual 41, (152, 1, 8, 0))], (.nop, (0, 0, 0, 0)), [2]),
  (25, [(.aload_n 0, (0, 0, 0, 0)), (.dup, (0, 0, 0, 0)), (.getfield 37, (8, 0, 0, 0)), (.iconst 1, (0, 0, 0, 0)), (.iadd, (0, 0, 0, 0)), (.putfield 37, (8, 0, 0, 0)), (.aload_n 0, (0, 0, 0, 0)), (.getfield 9, (8, 1, 1, 0)), (.aload_n 0, (0, 0, 0, 0)), (.getfield 37, (8, 0, 0, 0)), (.iload_n 2, (0, 0, 0, 0)), (.iastore, (0, 0, 0, 0)), (.aload_n 0, (0, 0, 0, 0)), (.getfield 15, (8, 2, 1, 0)), (.aload_n 0, (0, 0, 0, 0)), (.getfield 37, (8, 0, 0, 0)), (.iload_n 3, (0, 0, 0, 0)), (.iastore, (0, 0, 0, 0)), (.aload_n 0, (0, 0, 0, 0)), (.getfield 18, (8, 3, 1, 0)), (.aload_n 0, (0, 0, 0, 0)), (.getfield 37, (8, 0, 0, 0)), (.iload_n 1, (0, 0, 0, 0)), (.iastore, (0, 0, 0, 0)), (.aload_n 0, (0, 0, 0, 0)), (.getfield 21, (8, 4, 1, 0)), (.aload_n 0, (0, 0, 0, 0)), (.getfield 37, (8, 0, 0, 0)), (.iload 4, (0, 0, 0, 0)), (.iastore, (0, 0, 0, 0)), (.aload_n 0, (0, 0, 0, 0)), (.getfield 24, (8, 5, 1, 0)), (.aload_n 0, (0, 0, 0, 0)), (.getfield 37, (8, 0, 0, 0)), (.aload_n 0, (0, 0, 0, 0)), (.getfield 24, (8, 5, 1, 0)), (.iload_n 1, (0, 0, 0, 0)), (.iaload, (0, 0, 0, 0)), (.iconst 1, (0, 0, 0, 0)), (.iadd, (0, 0, 0, 0)), (.iastore, (0, 0, 0, 0)), (.aload_n 0, (0, 0, 0, 0)), (.getfield 37, (8, 0, 0, 0))], (.ireturn, (0, 0, 0, 0)), [])]
/-- 152: TwinVaults$Writes.grow(I)V -/
def bt_X8_grow : List bi_K := [(0, [(.iload_n 1, (0, 0, 0, 0)), (.ldc 44, (60002, 0, 0, 0)), (.invokestatic 45, (3, 2, 0, 0)), (.istore_n 2, (0, 0, 0, 0)), (.aload_n 0, (0, 0, 0, 0)), (.aload_n 0, (0, 0, 0, 0)), (.getfield 9, (8, 1, 1, 0)), (.iload_n 2, (0, 0, 0, 0)), (.invokestatic 51, (0, 2, 0, 0)), (.putfield 9, (8, 1, 1, 0)), (.aload_n 0, (0, 0, 0, 0)), (.aload_n 0, (0, 0, 0, 0)), (.getfield 15, (8, 2, 1, 0)), (.iload_n 2, (0, 0, 0, 0)), (.invokestatic 51, (0, 2, 0, 0)), (.putfield 15, (8, 2, 1, 0)), (.aload_n 0, (0, 0, 0, 0)), (.aload_n 0, (0, 0, 0, 0)), (.getfield 18, (8, 3, 1, 0)), (.iload_n 2, (0, 0, 0, 0)), (.invokestatic 51, (0, 2, 0, 0)), (.putfield 18, (8, 3, 1, 0)), (.aload_n 0, (0, 0, 0, 0)), (.aload_n 0, (0, 0, 0, 0)), (.getfield 21, (8, 4, 1, 0)), (.iload_n 2, (0, 0, 0, 0)), (.invokestatic 51, (0, 2, 0, 0)), (.putfield 21, (8, 4, 1, 0)), (.aload_n 0, (0, 0, 0, 0)), (.aload_n 0, (0, 0, 0, 0)), (.getfield 24, (8, 5, 1, 0)), (.iload_n 2, (0, 0, 0, 0)), (.invokestatic 51, (0, 2, 0, 0)), (.putfield 24, (8, 5, 1, 0))], (.return_, (0, 0, 0, 0)), [])]
/-- 153: TwinVaults$Writes.<init>()V -/
def bt_X8_init : List bi_K := [(0, [(.aload_n 0, (0, 0, 0, 0)), (.invokespecial 3, (9999, 0, 0, 0)), (.sipush 1024, (0, 0, 0, 0)), (.istore_n 1, (0, 0, 0, 0)), (.aload_n 0, (0, 0, 0, 0)), (.iload_n 1, (0, 0, 0, 0)), (.newarray .int, (0, 0, 0, 0)), (.putfield 9, (8, 1, 1, 0)), (.aload_n 0, (0, 0, 0, 0)), (.iload_n 1, (0, 0, 0, 0)), (.newarray .int, (0, 0, 0, 0)), (.putfield 15, (8, 2, 1, 0)), (.aload_n 0, (0, 0, 0, 0)), (.iload_n 1, (0, 0, 0, 0)), (.newarray .int, (0, 0, 0, 0)), (.putfield 18, (8, 3, 1, 0)), (.aload_n 0, (0, 0, 0, 0)), (.iload_n 1, (0, 0, 0, 0)), (.newarray .int, (0, 0, 0, 0)), (.putfield 21, (8, 4, 1, 0)), (.aload_n 0, (0, 0, 0, 0)), (.iload_n 1, (0, 0, 0, 0)), (.newarray .int, (0, 0, 0, 0)), (.putfield 24, (8, 5, 1, 0)), (.aload_n 0, (0, 0, 0, 0)), (.new 27, (1, 2, 0, 0)), (.dup, (0, 0, 0, 0)), (.ldc 29, (32768, 0, 0, 0)), (.invokespecial 30, (94, 1, 1, 0)), (.putfield 33, (8, 6, 1, 0))], (.return_, (0, 0, 0, 0)), [])]
/-- 154: TwinVaults$Writes.nodesBehind(II)I -/
def bt_X8_nodesBehind : List bi_K := [(0, [(.aload_n 0, (0, 0, 0, 0)), (.getfield 33, (8, 6, 1, 0)), (.invokevirtual 57, (93, 0, 1, 0)), (.iconst 0, (0, 0, 0, 0)), (.istore_n 3, (0, 0, 0, 0)), (.iload_n 1, (0, 0, 0, 0)), (.istore 4, (0, 0, 0, 0)), (.aload_n 0, (0, 0, 0, 0)), (.getfield 24, (8, 5, 1, 0)), (.iload_n 1, (0, 0, 0, 0)), (.iaload, (0, 0, 0, 0)), (.iload_n 2, (0, 0, 0, 0)), (.isub, (0, 0, 0, 0)), (.istore 5, (0, 0, 0, 0))], (.nop, (0, 0, 0, 0)), [1]),
  (22, [(.iload 5, (0, 0, 0, 0))], (.ifCond .le 96, (0, 0, 0, 0)), [3, 2]),
  (27, [(.aload_n 0, (0, 0, 0, 0)), (.getfield 9, (8, 1, 1, 0)), (.iload 4, (0, 0, 0, 0)), (.iaload, (0, 0, 0, 0)), (.bipush 16, (0, 0, 0, 0)), (.idiv, (0, 0, 0, 0)), (.istore 6, (0, 0, 0, 0)), (.sipush 2048, (0, 0, 0, 0)), (.aload_n 0, (0, 0, 0, 0)), (.getfield 9, (8, 1, 1, 0)), (.iload 4, (0, 0, 0, 0)), (.iaload, (0, 0, 0, 0)), (.sipush 256, (0, 0, 0, 0)), (.idiv, (0, 0, 0, 0)), (.iadd, (0, 0, 0, 0)), (.istore 7, (0, 0, 0, 0)), (.sipush 4096, (0, 0, 0, 0)), (.aload_n 0, (0, 0, 0, 0)), (.getfield 9, (8, 1, 1, 0)), (.iload 4, (0, 0, 0, 0)), (.iaload, (0, 0, 0, 0)), (.sipush 4096, (0, 0, 0, 0)), (.idiv, (0, 0, 0, 0)), (.iadd, (0, 0, 0, 0)), (.istore 8, (0, 0, 0, 0)), (.iload_n 3, (0, 0, 0, 0)), (.aload_n 0, (0, 0, 0, 0)), (.getfield 33, (8, 6, 1, 0)), (.iload 6, (0, 0, 0, 0)), (.invokevirtual 60, (95, 1, 1, 0)), (.aload_n 0, (0, 0, 0, 0)), (.getfield 33, (8, 6, 1, 0)), (.iload 7, (0, 0, 0, 0)), (.invokevirtual 60, (95, 1, 1, 0)), (.iadd, (0, 0, 0, 0)), (.aload_n 0, (0, 0, 0, 0)), (.getfield 33, (8, 6, 1, 0)), (.iload 8, (0, 0, 0, 0)), (.invokevirtual 60, (95, 1, 1, 0)), (.iadd, (0, 0, 0, 0)), (.iadd, (0, 0, 0, 0)), (.istore_n 3, (0, 0, 0, 0)), (.aload_n 0, (0, 0, 0, 0)), (.getfield 18, (8, 3, 1, 0)), (.iload 4, (0, 0, 0, 0)), (.iaload, (0, 0, 0, 0)), (.istore 4, (0, 0, 0, 0)), (.iinc 5 (-1), (0, 0, 0, 0))], (.goto (-95), (0, 0, 0, 0)), [1]),
  (120, [(.iload_n 3, (0, 0, 0, 0))], (.ireturn, (0, 0, 0, 0)), [])]
/-- 155: TwinVaults$Writes.placesBehind(II)I -/
def bt_X8_placesBehind : List bi_K := [(0, [(.iconst 0, (0, 0, 0, 0)), (.istore_n 3, (0, 0, 0, 0)), (.iload_n 1, (0, 0, 0, 0)), (.istore 4, (0, 0, 0, 0)), (.aload_n 0, (0, 0, 0, 0)), (.getfield 24, (8, 5, 1, 0)), (.iload_n 1, (0, 0, 0, 0)), (.iaload, (0, 0, 0, 0)), (.iload_n 2, (0, 0, 0, 0)), (.isub, (0, 0, 0, 0)), (.istore 5, (0, 0, 0, 0))], (.nop, (0, 0, 0, 0)), [1]),
  (15, [(.iload 5, (0, 0, 0, 0))], (.ifCond .le 37, (0, 0, 0, 0)), [5, 2]),
  (20, [(.aload_n 0, (0, 0, 0, 0)), (.getfield 24, (8, 5, 1, 0)), (.aload_n 0, (0, 0, 0, 0)), (.getfield 21, (8, 4, 1, 0)), (.iload 4, (0, 0, 0, 0)), (.iaload, (0, 0, 0, 0)), (.iaload, (0, 0, 0, 0)), (.iload_n 2, (0, 0, 0, 0))], (.if_icmp .gt 6, (0, 0, 0, 0)), [4, 3]),
  (36, [(.iinc 3 1, (0, 0, 0, 0))], (.nop, (0, 0, 0, 0)), [4]),
  (39, [(.aload_n 0, (0, 0, 0, 0)), (.getfield 18, (8, 3, 1, 0)), (.iload 4, (0, 0, 0, 0)), (.iaload, (0, 0, 0, 0)), (.istore 4, (0, 0, 0, 0)), (.iinc 5 (-1), (0, 0, 0, 0))], (.goto (-36), (0, 0, 0, 0)), [1]),
  (54, [(.iload_n 3, (0, 0, 0, 0))], (.ireturn, (0, 0, 0, 0)), [])]
/-- 156: TwinVaults$Writes.placesInBoth(III)I -/
def bt_X8_placesInBoth : List bi_K := [(0, [(.iconst 0, (0, 0, 0, 0)), (.istore 4, (0, 0, 0, 0)), (.iload_n 1, (0, 0, 0, 0)), (.istore 5, (0, 0, 0, 0)), (.aload_n 0, (0, 0, 0, 0)), (.getfield 24, (8, 5, 1, 0)), (.iload_n 1, (0, 0, 0, 0)), (.iaload, (0, 0, 0, 0)), (.iload_n 2, (0, 0, 0, 0)), (.isub, (0, 0, 0, 0)), (.istore 6, (0, 0, 0, 0))], (.nop, (0, 0, 0, 0)), [1]),
  (16, [(.iload 6, (0, 0, 0, 0))], (.ifCond .le 47, (0, 0, 0, 0)), [6, 2]),
  (21, [(.aload_n 0, (0, 0, 0, 0)), (.getfield 24, (8, 5, 1, 0)), (.aload_n 0, (0, 0, 0, 0)), (.getfield 21, (8, 4, 1, 0)), (.iload 5, (0, 0, 0, 0)), (.iaload, (0, 0, 0, 0)), (.iaload, (0, 0, 0, 0)), (.istore 7, (0, 0, 0, 0)), (.iload 7, (0, 0, 0, 0)), (.iload_n 3, (0, 0, 0, 0))], (.if_icmp .le 12, (0, 0, 0, 0)), [5, 3]),
  (41, [(.iload 7, (0, 0, 0, 0)), (.iload_n 2, (0, 0, 0, 0))], (.if_icmp .gt 6, (0, 0, 0, 0)), [5, 4]),
  (47, [(.iinc 4 1, (0, 0, 0, 0))], (.nop, (0, 0, 0, 0)), [5]),
  (50, [(.aload_n 0, (0, 0, 0, 0)), (.getfield 18, (8, 3, 1, 0)), (.iload 5, (0, 0, 0, 0)), (.iaload, (0, 0, 0, 0)), (.istore 5, (0, 0, 0, 0)), (.iinc 6 (-1), (0, 0, 0, 0))], (.goto (-46), (0, 0, 0, 0)), [1]),
  (65, [(.iload 4, (0, 0, 0, 0))], (.ireturn, (0, 0, 0, 0)), [])]
/-- 157: TwinVaults$Writes.told(II)I -/
def bt_X8_told : List bi_K := [(0, [(.iload_n 2, (0, 0, 0, 0))], (.ifCond .ne 14, (0, 0, 0, 0)), [2, 1]),
  (4, [(.aload_n 0, (0, 0, 0, 0)), (.getfield 9, (8, 1, 1, 0)), (.iload_n 1, (0, 0, 0, 0)), (.iaload, (0, 0, 0, 0)), (.sipush 4096, (0, 0, 0, 0)), (.idiv, (0, 0, 0, 0))], (.ireturn, (0, 0, 0, 0)), []),
  (15, [(.iload_n 2, (0, 0, 0, 0)), (.iconst 1, (0, 0, 0, 0))], (.if_icmp .ne 16, (0, 0, 0, 0)), [4, 3]),
  (20, [(.aload_n 0, (0, 0, 0, 0)), (.getfield 9, (8, 1, 1, 0)), (.iload_n 1, (0, 0, 0, 0)), (.iaload, (0, 0, 0, 0)), (.sipush 4096, (0, 0, 0, 0)), (.irem, (0, 0, 0, 0))], (.goto 9, (0, 0, 0, 0)), [5]),
  (33, [(.aload_n 0, (0, 0, 0, 0)), (.getfield 15, (8, 2, 1, 0)), (.iload_n 1, (0, 0, 0, 0)), (.iaload, (0, 0, 0, 0))], (.nop, (0, 0, 0, 0)), [5]),
  (39, [], (.ireturn, (0, 0, 0, 0)), [])]
/-- 158: TwinVaults.back(I)I -/
def bt_X9_back : List bi_K := [(0, [(.aload_n 0, (0, 0, 0, 0)), (.iload_n 1, (0, 0, 0, 0)), (.invokevirtual 68, (206, 1, 9, 0)), (.astore_n 2, (0, 0, 0, 0)), (.aload_n 2, (0, 0, 0, 0)), (.iconst 3, (0, 0, 0, 0)), (.invokestatic 112, (192, 2, 0, 0)), (.istore_n 3, (0, 0, 0, 0)), (.iload_n 3, (0, 0, 0, 0))], (.ifCond .eq 5, (0, 0, 0, 0)), [2, 1]),
  (16, [(.iload_n 3, (0, 0, 0, 0))], (.ireturn, (0, 0, 0, 0)), []),
  (18, [(.aload_n 2, (0, 0, 0, 0)), (.iconst 1, (0, 0, 0, 0)), (.putfield 163, (6, 19, 2, 0)), (.aload_n 0, (0, 0, 0, 0)), (.aload_n 2, (0, 0, 0, 0)), (.invokevirtual 178, (197, 1, 9, 0)), (.iconst 0, (0, 0, 0, 0))], (.ireturn, (0, 0, 0, 0)), [])]
/-- 159: TwinVaults.checkpoint(I)I -/
def bt_X9_checkpoint : List bi_K := [(0, [(.aload_n 0, (0, 0, 0, 0)), (.iload_n 1, (0, 0, 0, 0)), (.invokevirtual 68, (206, 1, 9, 0)), (.astore_n 2, (0, 0, 0, 0)), (.aload_n 2, (0, 0, 0, 0))], (.ifnonnull 6, (0, 0, 0, 0)), [2, 1]),
  (10, [(.bipush (-2), (0, 0, 0, 0))], (.ireturn, (0, 0, 0, 0)), []),
  (13, [(.aload_n 2, (0, 0, 0, 0)), (.getfield 91, (6, 1, 1, 0)), (.getfield 95, (4, 1, 2, 0))], (.ifCond .ne 6, (0, 0, 0, 0)), [4, 3]),
  (23, [(.bipush (-3), (0, 0, 0, 0))], (.ireturn, (0, 0, 0, 0)), []),
  (26, [(.aload_n 2, (0, 0, 0, 0)), (.getfield 91, (6, 1, 1, 0)), (.getfield 106, (4, 2, 0, 0)), (.istore_n 3, (0, 0, 0, 0)), (.aload_n 0, (0, 0, 0, 0)), (.aload_n 2, (0, 0, 0, 0)), (.invokevirtual 109, (160, 1, 9, 0))], (.ifCond .eq 15, (0, 0, 0, 0)), [6, 5]),
  (42, [(.aload_n 2, (0, 0, 0, 0)), (.getfield 91, (6, 1, 1, 0)), (.getfield 106, (4, 2, 0, 0)), (.iload_n 3, (0, 0, 0, 0)), (.isub, (0, 0, 0, 0))], (.goto 5, (0, 0, 0, 0)), [7]),
  (54, [(.bipush (-3), (0, 0, 0, 0))], (.nop, (0, 0, 0, 0)), [7]),
  (56, [], (.ireturn, (0, 0, 0, 0)), [])]
/-- 160: TwinVaults.checkpointed(LTwinVaults$Store;)Z -/
def bt_X9_checkpointed : List bi_K := [(0, [(.aload_n 1, (0, 0, 0, 0)), (.getfield 72, (6, 2, 1, 0)), (.astore_n 2, (0, 0, 0, 0)), (.aload_n 2, (0, 0, 0, 0)), (.getfield 286, (7, 4, 0, 0)), (.aload_n 2, (0, 0, 0, 0)), (.getfield 292, (7, 6, 0, 0))], (.if_icmp .ne 5, (0, 0, 0, 0)), [2, 1]),
  (16, [(.iconst 1, (0, 0, 0, 0))], (.ireturn, (1, 0, 0, 0)), []),
  (18, [(.aload_n 1, (0, 0, 0, 0)), (.getfield 91, (6, 1, 1, 0)), (.aload_n 0, (0, 0, 0, 0)), (.getfield 46, (9, 5, 1, 0)), (.aload_n 2, (0, 0, 0, 0)), (.getfield 286, (7, 4, 0, 0)), (.aload_n 0, (0, 0, 0, 0)), (.getfield 46, (9, 5, 1, 0)), (.getfield 283, (8, 5, 1, 0)), (.aload_n 2, (0, 0, 0, 0)), (.getfield 292, (7, 6, 0, 0)), (.iaload, (0, 0, 0, 0)), (.invokevirtual 368, (154, 2, 8, 0)), (.iconst 1, (0, 0, 0, 0)), (.iadd, (0, 0, 0, 0)), (.invokevirtual 371, (104, 1, 4, 0))], (.ifCond .ne 5, (0, 0, 0, 0)), [4, 3]),
  (53, [(.iconst 0, (0, 0, 0, 0))], (.ireturn, (1, 0, 0, 0)), []),
  (55, [(.aload_n 2, (0, 0, 0, 0)), (.invokevirtual 373, (133, 0, 7, 0)), (.iconst 1, (0, 0, 0, 0))], (.ireturn, (1, 0, 0, 0)), [])]
/-- 161: TwinVaults.commit(LTwinVaults$Store;)V -/
def bt_X9_commit : List bi_K := [(0, [(.aload_n 1, (0, 0, 0, 0)), (.getfield 304, (6, 3, 1, 0)), (.astore_n 2, (0, 0, 0, 0)), (.aload_n 2, (0, 0, 0, 0)), (.getfield 313, (5, 1, 0, 0)), (.istore_n 3, (0, 0, 0, 0)), (.aload_n 2, (0, 0, 0, 0)), (.getfield 422, (5, 0, 0, 0))], (.ifCond .ne 7, (0, 0, 0, 0)), [2, 1]),
  (17, [(.iconst 0, (0, 0, 0, 0))], (.goto 10, (0, 0, 0, 0)), [3]),
  (21, [(.aload_n 1, (0, 0, 0, 0)), (.getfield 72, (6, 2, 1, 0)), (.invokevirtual 479, (135, 0, 7, 0))], (.nop, (0, 0, 0, 0)), [3]),
  (28, [(.istore 4, (0, 0, 0, 0)), (.aload_n 1, (0, 0, 0, 0)), (.getfield 91, (6, 1, 1, 0)), (.aload_n 0, (0, 0, 0, 0)), (.getfield 46, (9, 5, 1, 0)), (.aload_n 2, (0, 0, 0, 0)), (.getfield 482, (5, 2, 0, 0)), (.iload 4, (0, 0, 0, 0)), (.invokevirtual 368, (154, 2, 8, 0)), (.iconst 1, (0, 0, 0, 0)), (.iadd, (0, 0, 0, 0)), (.invokevirtual 371, (104, 1, 4, 0))], (.ifCond .ne 4, (0, 0, 0, 0)), [5, 4]),
  (55, [], (.return_, (0, 0, 0, 0)), []),
  (56, [(.aload_n 1, (0, 0, 0, 0)), (.getfield 72, (6, 2, 1, 0)), (.iload_n 3, (0, 0, 0, 0)), (.aload_n 2, (0, 0, 0, 0)), (.getfield 482, (5, 2, 0, 0)), (.aload_n 2, (0, 0, 0, 0)), (.getfield 422, (5, 0, 0, 0))], (.ifCond .ne 7, (0, 0, 0, 0)), [7, 6]),
  (72, [(.iconst 1, (0, 0, 0, 0))], (.goto 4, (0, 0, 0, 0)), [8]),
  (76, [(.iconst 0, (0, 0, 0, 0))], (.nop, (0, 0, 0, 0)), [8]),
  (77, [(.invokevirtual 483, (125, 3, 7, 0)), (.aload_n 2, (0, 0, 0, 0)), (.invokevirtual 487, (109, 0, 5, 0)), (.aload_n 1, (0, 0, 0, 0)), (.aload_n 0, (0, 0, 0, 0)), (.getfield 22, (9, 1, 0, 0)), (.invokevirtual 379, (122, 1, 6, 0)), (.aload_n 0, (0, 0, 0, 0)), (.aload_n 1, (0, 0, 0, 0)), (.iconst 5, (0, 0, 0, 0)), (.iload_n 3, (0, 0, 0, 0)), (.invokevirtual 427, (193, 3, 9, 0))], (.return_, (0, 0, 0, 0)), [])]
/-- 162: TwinVaults.crash(I)Z -/
def bt_X9_crash : List bi_K := [(0, [(.iload_n 1, (0, 0, 0, 0))], (.ifCond .lt 20, (0, 0, 0, 0)), [3, 1]),
  (4, [(.iload_n 1, (0, 0, 0, 0)), (.iconst 1, (0, 0, 0, 0))], (.if_icmp .gt 15, (0, 0, 0, 0)), [3, 2]),
  (9, [(.aload_n 0, (0, 0, 0, 0)), (.getfield 30, (9, 3, 1, 0)), (.iload_n 1, (0, 0, 0, 0)), (.aaload, (0, 0, 0, 0)), (.getfield 95, (4, 1, 2, 0))], (.ifCond .ne 5, (0, 0, 0, 0)), [4, 3]),
  (21, [(.iconst 0, (0, 0, 0, 0))], (.ireturn, (1, 0, 0, 0)), []),
  (23, [(.aload_n 0, (0, 0, 0, 0)), (.getfield 30, (9, 3, 1, 0)), (.iload_n 1, (0, 0, 0, 0)), (.aaload, (0, 0, 0, 0)), (.invokevirtual 195, (105, 0, 4, 0)), (.iconst 1, (0, 0, 0, 0))], (.ireturn, (1, 0, 0, 0)), [])]
/-- 163: TwinVaults.differ(III)I -/
def bt_X9_differ : List bi_K := [(0, [(.aload_n 0, (0, 0, 0, 0)), (.iload_n 1, (0, 0, 0, 0)), (.invokevirtual 68, (206, 1, 9, 0)), (.astore 4, (0, 0, 0, 0)), (.aload 4, (0, 0, 0, 0))], (.ifnull 32, (0, 0, 0, 0)), [4, 1]),
  (12, [(.aload 4, (0, 0, 0, 0)), (.getfield 72, (6, 2, 1, 0)), (.iload_n 2, (0, 0, 0, 0)), (.invokevirtual 258, (130, 1, 7, 0))], (.ifCond .eq 20, (0, 0, 0, 0)), [4, 2]),
  (24, [(.aload 4, (0, 0, 0, 0)), (.getfield 72, (6, 2, 1, 0)), (.iload_n 3, (0, 0, 0, 0)), (.invokevirtual 258, (130, 1, 7, 0))], (.ifCond .eq 8, (0, 0, 0, 0)), [4, 3]),
  (36, [(.iload_n 2, (0, 0, 0, 0)), (.iload_n 3, (0, 0, 0, 0))], (.if_icmp .le 14, (0, 0, 0, 0)), [5, 4]),
  (41, [], (.athrow, (0, 236, 272, 240)), []),
  (52, [(.aload 4, (0, 0, 0, 0)), (.getfield 91, (6, 1, 1, 0)), (.getfield 95, (4, 1, 2, 0))], (.ifCond .ne 13, (0, 0, 0, 0)), [7, 6]),
  (63, [], (.athrow, (1, 249, 251, 253)), []),
  (73, [(.aload_n 0, (0, 0, 0, 0)), (.getfield 46, (9, 5, 1, 0)), (.aload 4, (0, 0, 0, 0)), (.getfield 72, (6, 2, 1, 0)), (.getfield 274, (7, 8, 1, 0)), (.iload_n 3, (0, 0, 0, 0)), (.iaload, (0, 0, 0, 0)), (.aload 4, (0, 0, 0, 0)), (.getfield 72, (6, 2, 1, 0)), (.iload_n 2, (0, 0, 0, 0)), (.invokevirtual 277, (137, 1, 7, 0)), (.invokevirtual 280, (155, 2, 8, 0))], (.ireturn, (0, 0, 0, 0)), [])]
/-- 164: TwinVaults.fill(IIIII)I -/
def bt_X9_fill : List bi_K := [(0, [(.aload_n 0, (0, 0, 0, 0)), (.iload_n 1, (0, 0, 0, 0)), (.invokevirtual 68, (206, 1, 9, 0)), (.astore 6, (0, 0, 0, 0)), (.aload 6, (0, 0, 0, 0))], (.ifnull 16, (0, 0, 0, 0)), [2, 1]),
  (12, [(.aload 6, (0, 0, 0, 0)), (.getfield 72, (6, 2, 1, 0)), (.iload_n 2, (0, 0, 0, 0)), (.iload_n 3, (0, 0, 0, 0)), (.invokevirtual 76, (129, 2, 7, 0))], (.ifCond .ne 6, (0, 0, 0, 0)), [3, 2]),
  (25, [(.bipush (-2), (0, 0, 0, 0))], (.ireturn, (0, 0, 0, 0)), []),
  (28, [(.iload 4, (0, 0, 0, 0)), (.iconst 1, (0, 0, 0, 0))], (.if_icmp .lt 29, (0, 0, 0, 0)), [6, 4]),
  (34, [(.iload 4, (0, 0, 0, 0)), (.sipush 4096, (0, 0, 0, 0))], (.if_icmp .gt 21, (0, 0, 0, 0)), [6, 5]),
  (42, [(.aload 6, (0, 0, 0, 0)), (.getfield 72, (6, 2, 1, 0)), (.iload_n 2, (0, 0, 0, 0)), (.iload_n 3, (0, 0, 0, 0)), (.iload 4, (0, 0, 0, 0)), (.iadd, (0, 0, 0, 0)), (.iconst 1, (0, 0, 0, 0)), (.isub, (0, 0, 0, 0)), (.invokevirtual 76, (129, 2, 7, 0))], (.ifCond .ne 6, (0, 0, 0, 0)), [7, 6]),
  (60, [(.bipush (-2), (0, 0, 0, 0))], (.ireturn, (0, 0, 0, 0)), []),
  (63, [(.iload_n 2, (0, 0, 0, 0)), (.iload_n 3, (0, 0, 0, 0)), (.invokestatic 80, (203, 2, 0, 0)), (.istore 7, (0, 0, 0, 0)), (.iconst 0, (0, 0, 0, 0)), (.istore 8, (0, 0, 0, 0))], (.nop, (0, 0, 0, 0)), [8]),
  (73, [(.iload 8, (0, 0, 0, 0)), (.iload 4, (0, 0, 0, 0))], (.if_icmp .ge 45, (0, 0, 0, 0)), [15, 9]),
  (80, [(.aload_n 0, (0, 0, 0, 0)), (.aload 6, (0, 0, 0, 0)), (.iload 7, (0, 0, 0, 0)), (.iload 8, (0, 0, 0, 0)), (.iadd, (0, 0, 0, 0)), (.iload 5, (0, 0, 0, 0)), (.iload 8, (0, 0, 0, 0)), (.iadd, (0, 0, 0, 0)), (.invokevirtual 83, (215, 3, 9, 0)), (.istore 9, (0, 0, 0, 0)), (.iload 9, (0, 0, 0, 0))], (.ifCond .eq 16, (0, 0, 0, 0)), [14, 10]),
  (103, [(.iload 8, (0, 0, 0, 0))], (.ifCond .ne 8, (0, 0, 0, 0)), [12, 11]),
  (108, [(.iload 9, (0, 0, 0, 0))], (.goto 5, (0, 0, 0, 0)), [13]),
  (113, [(.iload 8, (0, 0, 0, 0))], (.nop, (0, 0, 0, 0)), [13]),
  (115, [], (.ireturn, (0, 0, 0, 0)), []),
  (116, [(.iinc 8 1, (0, 0, 0, 0))], (.goto (-46), (0, 0, 0, 0)), [8]),
  (122, [(.iload 4, (0, 0, 0, 0))], (.ireturn, (0, 0, 0, 0)), [])]
/-- 165: TwinVaults.flush(I)I -/
def bt_X9_flush : List bi_K := [(0, [(.aload_n 0, (0, 0, 0, 0)), (.iload_n 1, (0, 0, 0, 0)), (.invokevirtual 68, (206, 1, 9, 0)), (.astore_n 2, (0, 0, 0, 0)), (.aload_n 2, (0, 0, 0, 0))], (.ifnonnull 6, (0, 0, 0, 0)), [2, 1]),
  (10, [(.bipush (-2), (0, 0, 0, 0))], (.ireturn, (0, 0, 0, 0)), []),
  (13, [(.aload_n 2, (0, 0, 0, 0)), (.getfield 91, (6, 1, 1, 0)), (.getfield 95, (4, 1, 2, 0))], (.ifCond .eq 11, (0, 0, 0, 0)), [4, 3]),
  (23, [(.aload_n 0, (0, 0, 0, 0)), (.aload_n 2, (0, 0, 0, 0)), (.invokevirtual 99, (166, 1, 9, 0))], (.ifCond .ne 6, (0, 0, 0, 0)), [5, 4]),
  (31, [(.bipush (-3), (0, 0, 0, 0))], (.ireturn, (0, 0, 0, 0)), []),
  (34, [(.aload_n 2, (0, 0, 0, 0)), (.getfield 72, (6, 2, 1, 0)), (.invokevirtual 103, (132, 0, 7, 0))], (.ireturn, (0, 0, 0, 0)), [])]
/-- 166: TwinVaults.flushed(LTwinVaults$Store;)Z -/
def bt_X9_flushed : List bi_K := [(0, [(.aload_n 1, (0, 0, 0, 0)), (.getfield 72, (6, 2, 1, 0)), (.astore_n 2, (0, 0, 0, 0)), (.aload_n 2, (0, 0, 0, 0)), (.invokevirtual 103, (132, 0, 7, 0)), (.aload_n 2, (0, 0, 0, 0)), (.invokevirtual 87, (144, 0, 7, 0)), (.iadd, (0, 0, 0, 0)), (.sipush 512, (0, 0, 0, 0))], (.if_icmp .le 9, (0, 0, 0, 0)), [2, 1]),
  (20, [(.aload_n 0, (0, 0, 0, 0)), (.aload_n 1, (0, 0, 0, 0)), (.invokevirtual 109, (160, 1, 9, 0))], (.ireturn, (1, 0, 0, 0)), []),
  (26, [(.aload_n 2, (0, 0, 0, 0)), (.invokevirtual 87, (144, 0, 7, 0)), (.istore_n 3, (0, 0, 0, 0))], (.nop, (0, 0, 0, 0)), [3]),
  (31, [(.iload_n 3, (0, 0, 0, 0))], (.ifCond .le 27, (0, 0, 0, 0)), [7, 4]),
  (35, [(.aload_n 1, (0, 0, 0, 0)), (.getfield 91, (6, 1, 1, 0)), (.invokevirtual 129, (103, 0, 4, 0))], (.ifCond .ne 5, (0, 0, 0, 0)), [6, 5]),
  (45, [(.iconst 0, (0, 0, 0, 0))], (.ireturn, (1, 0, 0, 0)), []),
  (47, [(.aload_n 2, (0, 0, 0, 0)), (.bipush 8, (0, 0, 0, 0)), (.invokevirtual 365, (148, 1, 7, 0)), (.iinc 3 (-8), (0, 0, 0, 0))], (.goto (-25), (0, 0, 0, 0)), [3]),
  (59, [(.iconst 1, (0, 0, 0, 0))], (.ireturn, (1, 0, 0, 0)), [])]
/-- 167: TwinVaults.force(I)I -/
def bt_X9_force : List bi_K := [(0, [(.aload_n 0, (0, 0, 0, 0)), (.iload_n 1, (0, 0, 0, 0)), (.invokevirtual 68, (206, 1, 9, 0)), (.astore_n 2, (0, 0, 0, 0)), (.aload_n 2, (0, 0, 0, 0))], (.ifnonnull 6, (0, 0, 0, 0)), [2, 1]),
  (10, [(.bipush (-2), (0, 0, 0, 0))], (.ireturn, (0, 0, 0, 0)), []),
  (13, [(.aload_n 2, (0, 0, 0, 0)), (.getfield 91, (6, 1, 1, 0)), (.getfield 95, (4, 1, 2, 0))], (.ifCond .ne 6, (0, 0, 0, 0)), [4, 3]),
  (23, [(.bipush (-3), (0, 0, 0, 0))], (.ireturn, (0, 0, 0, 0)), []),
  (26, [(.aload_n 2, (0, 0, 0, 0)), (.getfield 132, (6, 6, 0, 0))], (.ifCond .eq 14, (0, 0, 0, 0)), [7, 5]),
  (33, [(.aload_n 2, (0, 0, 0, 0)), (.getfield 132, (6, 6, 0, 0)), (.iconst 3, (0, 0, 0, 0))], (.if_icmp .eq 6, (0, 0, 0, 0)), [7, 6]),
  (41, [(.bipush (-4), (0, 0, 0, 0))], (.ireturn, (0, 0, 0, 0)), []),
  (44, [(.aload_n 2, (0, 0, 0, 0)), (.getfield 132, (6, 6, 0, 0)), (.iconst 3, (0, 0, 0, 0))], (.if_icmp .ne 14, (0, 0, 0, 0)), [10, 8]),
  (52, [(.aload_n 0, (0, 0, 0, 0)), (.aload_n 2, (0, 0, 0, 0)), (.invokevirtual 109, (160, 1, 9, 0))], (.ifCond .ne 6, (0, 0, 0, 0)), [10, 9]),
  (60, [(.bipush (-3), (0, 0, 0, 0))], (.ireturn, (0, 0, 0, 0)), []),
  (63, [(.aload_n 2, (0, 0, 0, 0)), (.getfield 91, (6, 1, 1, 0)), (.invokevirtual 129, (103, 0, 4, 0))], (.ifCond .ne 6, (0, 0, 0, 0)), [12, 11]),
  (73, [(.bipush (-3), (0, 0, 0, 0))], (.ireturn, (0, 0, 0, 0)), []),
  (76, [(.aload_n 2, (0, 0, 0, 0)), (.getfield 132, (6, 6, 0, 0))], (.ifCond .ne 18, (0, 0, 0, 0)), [14, 13]),
  (83, [(.aload_n 2, (0, 0, 0, 0)), (.aload_n 2, (0, 0, 0, 0)), (.getfield 72, (6, 2, 1, 0)), (.invokevirtual 126, (134, 0, 7, 0)), (.iconst 0, (0, 0, 0, 0)), (.invokevirtual 138, (116, 2, 6, 0))], (.goto 29, (0, 0, 0, 0)), [17]),
  (98, [(.aload_n 2, (0, 0, 0, 0)), (.getfield 142, (6, 11, 0, 0))], (.ifCond .ne 22, (0, 0, 0, 0)), [17, 15]),
  (105, [(.aload_n 2, (0, 0, 0, 0)), (.getfield 145, (6, 12, 0, 0))], (.ifCond .ne 15, (0, 0, 0, 0)), [17, 16]),
  (112, [(.aload_n 2, (0, 0, 0, 0)), (.aload_n 2, (0, 0, 0, 0)), (.getfield 148, (6, 9, 0, 0)), (.aload_n 2, (0, 0, 0, 0)), (.getfield 151, (6, 10, 0, 0)), (.invokevirtual 138, (116, 2, 6, 0))], (.nop, (0, 0, 0, 0)), [17]),
  (124, [(.aload_n 2, (0, 0, 0, 0)), (.iconst 0, (0, 0, 0, 0)), (.putfield 148, (6, 9, 0, 0)), (.aload_n 2, (0, 0, 0, 0)), (.iconst 0, (0, 0, 0, 0)), (.putfield 151, (6, 10, 0, 0)), (.aload_n 2, (0, 0, 0, 0)), (.iconst 0, (0, 0, 0, 0)), (.putfield 154, (6, 14, 0, 0)), (.aload_n 2, (0, 0, 0, 0)), (.iconst 0, (0, 0, 0, 0)), (.putfield 157, (6, 15, 0, 0)), (.aload_n 2, (0, 0, 0, 0)), (.iconst 0, (0, 0, 0, 0)), (.putfield 160, (6, 18, 0, 0)), (.aload_n 2, (0, 0, 0, 0)), (.iconst 0, (0, 0, 0, 0)), (.putfield 163, (6, 19, 2, 0)), (.aload_n 2, (0, 0, 0, 0)), (.aload_n 2, (0, 0, 0, 0)), (.getfield 166, (6, 7, 0, 0)), (.aload_n 2, (0, 0, 0, 0)), (.getfield 91, (6, 1, 1, 0)), (.getfield 169, (4, 0, 0, 0))], (.ifCond .ne 7, (0, 0, 0, 0)), [19, 18]),
  (169, [(.iconst 3, (0, 0, 0, 0))], (.goto 4, (0, 0, 0, 0)), [20]),
  (173, [(.iconst 0, (0, 0, 0, 0))], (.nop, (0, 0, 0, 0)), [20]),
  (174, [(.invokestatic 172, (176, 2, 0, 0)), (.aload_n 0, (0, 0, 0, 0)), (.getfield 22, (9, 1, 0, 0)), (.invokevirtual 175, (113, 2, 6, 0)), (.aload_n 2, (0, 0, 0, 0)), (.getfield 166, (6, 7, 0, 0))], (.ireturn, (0, 0, 0, 0)), [])]
/-- 168: TwinVaults.freeBlocks(LTwinVaults$Site;)I -/
def bt_X9_freeBlocks : List bi_K := [(0, [(.aload_n 0, (0, 0, 0, 0)), (.getfield 16, (9, 0, 0, 0)), (.istore_n 2, (0, 0, 0, 0)), (.iconst 0, (0, 0, 0, 0)), (.istore_n 3, (0, 0, 0, 0))], (.nop, (0, 0, 0, 0)), [1]),
  (7, [(.iload_n 3, (0, 0, 0, 0)), (.iconst 4, (0, 0, 0, 0))], (.if_icmp .ge 36, (0, 0, 0, 0)), [5, 2]),
  (12, [(.aload_n 0, (0, 0, 0, 0)), (.iconst 4, (0, 0, 0, 0)), (.aload_n 1, (0, 0, 0, 0)), (.getfield 169, (4, 0, 0, 0)), (.imul, (0, 0, 0, 0)), (.iload_n 3, (0, 0, 0, 0)), (.iadd, (0, 0, 0, 0)), (.invokevirtual 68, (206, 1, 9, 0)), (.astore 4, (0, 0, 0, 0)), (.aload 4, (0, 0, 0, 0))], (.ifnull 11, (0, 0, 0, 0)), [4, 3]),
  (31, [(.iload_n 2, (0, 0, 0, 0)), (.aload 4, (0, 0, 0, 0)), (.invokevirtual 326, (114, 0, 6, 0)), (.isub, (0, 0, 0, 0)), (.istore_n 2, (0, 0, 0, 0))], (.nop, (0, 0, 0, 0)), [4]),
  (39, [(.iinc 3 1, (0, 0, 0, 0))], (.goto (-35), (0, 0, 0, 0)), [1]),
  (45, [(.iload_n 2, (0, 0, 0, 0))], (.ireturn, (0, 0, 0, 0)), [])]
/-- 169: TwinVaults.group(II)I -/
def bt_X9_group : List bi_K := [(0, [(.iload_n 1, (0, 0, 0, 0)), (.iconst 1, (0, 0, 0, 0))], (.if_icmp .lt 21, (0, 0, 0, 0)), [4, 1]),
  (5, [(.iload_n 1, (0, 0, 0, 0)), (.bipush 8, (0, 0, 0, 0))], (.if_icmp .gt 15, (0, 0, 0, 0)), [4, 2]),
  (11, [(.iload_n 2, (0, 0, 0, 0)), (.iconst 1, (0, 0, 0, 0))], (.if_icmp .lt 10, (0, 0, 0, 0)), [4, 3]),
  (16, [(.iload_n 2, (0, 0, 0, 0)), (.sipush 4096, (0, 0, 0, 0))], (.if_icmp .le 6, (0, 0, 0, 0)), [5, 4]),
  (23, [(.bipush (-2), (0, 0, 0, 0))], (.ireturn, (0, 0, 0, 0)), []),
  (26, [(.aload_n 0, (0, 0, 0, 0)), (.getfield 57, (9, 7, 0, 0)), (.iconst 4, (0, 0, 0, 0))], (.if_icmp .lt 5, (0, 0, 0, 0)), [7, 6]),
  (34, [(.iconst (-1), (0, 0, 0, 0))], (.ireturn, (0, 0, 0, 0)), []),
  (36, [(.aload_n 0, (0, 0, 0, 0)), (.getfield 57, (9, 7, 0, 0)), (.istore_n 3, (0, 0, 0, 0)), (.aload_n 0, (0, 0, 0, 0)), (.getfield 39, (9, 4, 1, 0)), (.iload_n 3, (0, 0, 0, 0)), (.new 37, (6, 20, 0, 0)), (.dup, (0, 0, 0, 0)), (.iload_n 3, (0, 0, 0, 0)), (.aload_n 0, (0, 0, 0, 0)), (.getfield 30, (9, 3, 1, 0)), (.iconst 0, (0, 0, 0, 0)), (.aaload, (0, 0, 0, 0)), (.iconst 1, (0, 0, 0, 0)), (.new 60, (7, 11, 0, 0)), (.dup, (0, 0, 0, 0)), (.aload_n 0, (0, 0, 0, 0)), (.getfield 46, (9, 5, 1, 0)), (.iload_n 1, (0, 0, 0, 0)), (.iload_n 2, (0, 0, 0, 0)), (.invokespecial 62, (131, 3, 7, 0)), (.invokespecial 65, (117, 4, 6, 0)), (.aastore, (0, 0, 0, 0)), (.aload_n 0, (0, 0, 0, 0)), (.getfield 39, (9, 4, 1, 0)), (.iload_n 3, (0, 0, 0, 0)), (.iconst 4, (0, 0, 0, 0)), (.iadd, (0, 0, 0, 0)), (.new 37, (6, 20, 0, 0)), (.dup, (0, 0, 0, 0)), (.iload_n 3, (0, 0, 0, 0)), (.iconst 4, (0, 0, 0, 0)), (.iadd, (0, 0, 0, 0)), (.aload_n 0, (0, 0, 0, 0)), (.getfield 30, (9, 3, 1, 0)), (.iconst 1, (0, 0, 0, 0)), (.aaload, (0, 0, 0, 0)), (.iconst 0, (0, 0, 0, 0)), (.new 60, (7, 11, 0, 0)), (.dup, (0, 0, 0, 0)), (.aload_n 0, (0, 0, 0, 0)), (.getfield 46, (9, 5, 1, 0)), (.iload_n 1, (0, 0, 0, 0)), (.iload_n 2, (0, 0, 0, 0)), (.invokespecial 62, (131, 3, 7, 0)), (.invokespecial 65, (117, 4, 6, 0)), (.aastore, (0, 0, 0, 0)), (.aload_n 0, (0, 0, 0, 0)), (.dup, (0, 0, 0, 0)), (.getfield 57, (9, 7, 0, 0)), (.iconst 1, (0, 0, 0, 0)), (.iadd, (0, 0, 0, 0)), (.putfield 57, (9, 7, 0, 0)), (.iload_n 3, (0, 0, 0, 0))], (.ireturn, (0, 0, 0, 0)), [])]
/-- 170: TwinVaults.handOver(LTwinVaults$Store;)V -/
def bt_X9_handOver : List bi_K := [(0, [(.aload_n 1, (0, 0, 0, 0)), (.getfield 135, (6, 13, 0, 0))], (.ifCond .eq 18, (0, 0, 0, 0)), [3, 1]),
  (7, [(.aload_n 1, (0, 0, 0, 0)), (.invokevirtual 388, (123, 0, 6, 0))], (.ifCond .eq 52, (0, 0, 0, 0)), [8, 2]),
  (14, [(.aload_n 0, (0, 0, 0, 0)), (.aload_n 1, (0, 0, 0, 0)), (.invokevirtual 397, (196, 1, 9, 0))], (.goto 44, (0, 0, 0, 0)), [8]),
  (22, [(.aload_n 1, (0, 0, 0, 0)), (.getfield 91, (6, 1, 1, 0)), (.invokevirtual 129, (103, 0, 4, 0))], (.ifCond .eq 34, (0, 0, 0, 0)), [8, 4]),
  (32, [(.aload_n 1, (0, 0, 0, 0)), (.aload_n 1, (0, 0, 0, 0)), (.getfield 166, (6, 7, 0, 0)), (.aload_n 1, (0, 0, 0, 0)), (.getfield 91, (6, 1, 1, 0)), (.getfield 169, (4, 0, 0, 0))], (.ifCond .ne 7, (0, 0, 0, 0)), [6, 5]),
  (47, [(.iconst 2, (0, 0, 0, 0))], (.goto 4, (0, 0, 0, 0)), [7]),
  (51, [(.iconst 1, (0, 0, 0, 0))], (.nop, (0, 0, 0, 0)), [7]),
  (52, [(.invokestatic 172, (176, 2, 0, 0)), (.putfield 135, (6, 13, 0, 0)), (.aload_n 0, (0, 0, 0, 0)), (.aload_n 1, (0, 0, 0, 0)), (.invokevirtual 397, (196, 1, 9, 0))], (.nop, (0, 0, 0, 0)), [8]),
  (63, [], (.return_, (0, 0, 0, 0)), [])]
/-- 171: TwinVaults.<init>(III)V -/
def bt_X9_init : List bi_K := [(0, [(.aload_n 0, (0, 0, 0, 0)), (.invokespecial 1, (9999, 0, 0, 0)), (.aload_n 0, (0, 0, 0, 0)), (.bipush 16, (0, 0, 0, 0)), (.sipush 8192, (0, 0, 0, 0)), (.iload_n 1, (0, 0, 0, 0)), (.invokestatic 7, (3, 2, 0, 0)), (.invokestatic 13, (2, 2, 0, 0)), (.putfield 16, (9, 0, 0, 0)), (.aload_n 0, (0, 0, 0, 0)), (.iconst 2, (0, 0, 0, 0)), (.bipush 8, (0, 0, 0, 0)), (.iload_n 2, (0, 0, 0, 0)), (.invokestatic 7, (3, 2, 0, 0)), (.invokestatic 13, (2, 2, 0, 0)), (.putfield 22, (9, 1, 0, 0)), (.aload_n 0, (0, 0, 0, 0)), (.iconst 1, (0, 0, 0, 0)), (.bipush 8, (0, 0, 0, 0)), (.iload_n 3, (0, 0, 0, 0)), (.invokestatic 7, (3, 2, 0, 0)), (.invokestatic 13, (2, 2, 0, 0)), (.putfield 25, (9, 2, 0, 0)), (.aload_n 0, (0, 0, 0, 0)), (.iconst 2, (0, 0, 0, 0)), (.anewarray 28, (4, 0, 0, 0)), (.putfield 30, (9, 3, 1, 0)), (.aload_n 0, (0, 0, 0, 0)), (.getfield 30, (9, 3, 1, 0)), (.iconst 0, (0, 0, 0, 0)), (.new 28, (4, 4, 0, 0)), (.dup, (0, 0, 0, 0)), (.iconst 0, (0, 0, 0, 0)), (.invokespecial 34, (106, 1, 4, 0)), (.aastore, (0, 0, 0, 0)), (.aload_n 0, (0, 0, 0, 0)), (.getfield 30, (9, 3, 1, 0)), (.iconst 1, (0, 0, 0, 0)), (.new 28, (4, 4, 0, 0)), (.dup, (0, 0, 0, 0)), (.iconst 1, (0, 0, 0, 0)), (.invokespecial 34, (106, 1, 4, 0)), (.aastore, (0, 0, 0, 0)), (.aload_n 0, (0, 0, 0, 0)), (.bipush 8, (0, 0, 0, 0)), (.anewarray 37, (6, 0, 0, 0)), (.putfield 39, (9, 4, 1, 0)), (.aload_n 0, (0, 0, 0, 0)), (.new 43, (8, 7, 0, 0)), (.dup, (0, 0, 0, 0)), (.invokespecial 45, (153, 0, 8, 0)), (.putfield 46, (9, 5, 1, 0)), (.aload_n 0, (0, 0, 0, 0)), (.new 50, (0, 4, 0, 0)), (.dup, (0, 0, 0, 0)), (.invokespecial 52, (7, 0, 0, 0)), (.putfield 53, (9, 6, 1, 0))], (.return_, (0, 0, 0, 0)), [])]
/-- 172: TwinVaults.item(III)I -/
def bt_X9_item : List bi_K := [(0, [(.aload_n 0, (0, 0, 0, 0)), (.getfield 53, (9, 6, 1, 0)), (.iload_n 1, (0, 0, 0, 0)), (.invokevirtual 201, (5, 1, 0, 0)), (.astore 4, (0, 0, 0, 0)), (.aload 4, (0, 0, 0, 0))], (.ifnull 25, (0, 0, 0, 0)), [5, 1]),
  (15, [(.iload_n 2, (0, 0, 0, 0))], (.ifCond .lt 21, (0, 0, 0, 0)), [5, 2]),
  (19, [(.iload_n 2, (0, 0, 0, 0)), (.aload 4, (0, 0, 0, 0)), (.invokevirtual 233, (97, 0, 2, 0))], (.if_icmp .ge 12, (0, 0, 0, 0)), [5, 3]),
  (28, [(.iload_n 3, (0, 0, 0, 0))], (.ifCond .lt 8, (0, 0, 0, 0)), [5, 4]),
  (32, [(.iload_n 3, (0, 0, 0, 0)), (.iconst 2, (0, 0, 0, 0))], (.if_icmp .le 13, (0, 0, 0, 0)), [6, 5]),
  (37, [], (.athrow, (0, 236, 238, 240)), []),
  (47, [(.aload 4, (0, 0, 0, 0)), (.getfield 243, (2, 8, 1, 0)), (.iconst 3, (0, 0, 0, 0)), (.iload_n 2, (0, 0, 0, 0)), (.imul, (0, 0, 0, 0)), (.iload_n 3, (0, 0, 0, 0)), (.iadd, (0, 0, 0, 0)), (.iaload, (0, 0, 0, 0))], (.ireturn, (0, 0, 0, 0)), [])]
/-- 173: TwinVaults.leave(I)I -/
def bt_X9_leave : List bi_K := [(0, [(.aload_n 0, (0, 0, 0, 0)), (.iload_n 1, (0, 0, 0, 0)), (.invokevirtual 68, (206, 1, 9, 0)), (.astore_n 2, (0, 0, 0, 0)), (.aload_n 2, (0, 0, 0, 0)), (.iconst 1, (0, 0, 0, 0)), (.invokestatic 112, (192, 2, 0, 0)), (.istore_n 3, (0, 0, 0, 0)), (.iload_n 3, (0, 0, 0, 0))], (.ifCond .eq 5, (0, 0, 0, 0)), [2, 1]),
  (16, [(.iload_n 3, (0, 0, 0, 0))], (.ireturn, (0, 0, 0, 0)), []),
  (18, [(.aload_n 2, (0, 0, 0, 0)), (.getfield 72, (6, 2, 1, 0)), (.invokevirtual 116, (141, 0, 7, 0))], (.ifCond .ne 27, (0, 0, 0, 0)), [7, 3]),
  (28, [(.aload_n 2, (0, 0, 0, 0)), (.getfield 120, (6, 8, 0, 0)), (.sipush 4095, (0, 0, 0, 0))], (.if_icmp .lt 6, (0, 0, 0, 0)), [5, 4]),
  (38, [(.bipush (-5), (0, 0, 0, 0))], (.ireturn, (0, 0, 0, 0)), []),
  (41, [(.aload_n 0, (0, 0, 0, 0)), (.aload_n 2, (0, 0, 0, 0)), (.invokevirtual 123, (210, 1, 9, 0))], (.ifCond .ne 6, (0, 0, 0, 0)), [7, 6]),
  (49, [(.bipush (-3), (0, 0, 0, 0))], (.ireturn, (0, 0, 0, 0)), []),
  (52, [(.aload_n 2, (0, 0, 0, 0)), (.getfield 91, (6, 1, 1, 0)), (.invokevirtual 129, (103, 0, 4, 0))], (.ifCond .ne 6, (0, 0, 0, 0)), [9, 8]),
  (62, [(.bipush (-3), (0, 0, 0, 0))], (.ireturn, (0, 0, 0, 0)), []),
  (65, [(.aload_n 2, (0, 0, 0, 0)), (.iconst 2, (0, 0, 0, 0)), (.putfield 132, (6, 6, 0, 0)), (.aload_n 2, (0, 0, 0, 0)), (.iconst 0, (0, 0, 0, 0)), (.putfield 135, (6, 13, 0, 0)), (.aload_n 2, (0, 0, 0, 0)), (.getfield 72, (6, 2, 1, 0)), (.invokevirtual 126, (134, 0, 7, 0))], (.ireturn, (0, 0, 0, 0)), [])]
/-- 174: TwinVaults.lost(III)I -/
def bt_X9_lost : List bi_K := [(0, [(.aload_n 0, (0, 0, 0, 0)), (.iload_n 1, (0, 0, 0, 0)), (.invokevirtual 68, (206, 1, 9, 0)), (.astore 4, (0, 0, 0, 0)), (.aload 4, (0, 0, 0, 0))], (.ifnull 28, (0, 0, 0, 0)), [5, 1]),
  (12, [(.iload_n 2, (0, 0, 0, 0))], (.ifCond .lt 24, (0, 0, 0, 0)), [5, 2]),
  (16, [(.iload_n 2, (0, 0, 0, 0)), (.aload 4, (0, 0, 0, 0)), (.getfield 319, (6, 5, 1, 0)), (.getfield 323, (3, 3, 0, 0))], (.if_icmp .ge 12, (0, 0, 0, 0)), [5, 3]),
  (28, [(.iload_n 3, (0, 0, 0, 0))], (.ifCond .lt 8, (0, 0, 0, 0)), [5, 4]),
  (32, [(.iload_n 3, (0, 0, 0, 0)), (.iconst 2, (0, 0, 0, 0))], (.if_icmp .le 14, (0, 0, 0, 0)), [6, 5]),
  (37, [], (.athrow, (0, 236, 332, 240)), []),
  (48, [(.aload_n 0, (0, 0, 0, 0)), (.getfield 46, (9, 5, 1, 0)), (.aload 4, (0, 0, 0, 0)), (.getfield 319, (6, 5, 1, 0)), (.getfield 334, (3, 2, 1, 0)), (.iload_n 2, (0, 0, 0, 0)), (.iaload, (0, 0, 0, 0)), (.iload_n 3, (0, 0, 0, 0)), (.invokevirtual 337, (157, 2, 8, 0))], (.ireturn, (0, 0, 0, 0)), [])]
/-- 175: TwinVaults.message(II)I -/
def bt_X9_message : List bi_K := [(0, [(.aload_n 0, (0, 0, 0, 0)), (.getfield 53, (9, 6, 1, 0)), (.iload_n 1, (0, 0, 0, 0)), (.invokevirtual 201, (5, 1, 0, 0)), (.astore_n 3, (0, 0, 0, 0)), (.aload_n 3, (0, 0, 0, 0))], (.ifnonnull 5, (0, 0, 0, 0)), [2, 1]),
  (13, [(.iconst (-1), (0, 0, 0, 0))], (.ireturn, (0, 0, 0, 0)), []),
  (15, [(.iload_n 2, (0, 0, 0, 0))], (.tableswitch 88 0 7 #[48, 53, 58, 63, 68, 73, 78, 83], (0, 0, 0, 0)), [11, 3, 4, 5, 6, 7, 8, 9, 10]),
  (64, [(.aload_n 3, (0, 0, 0, 0)), (.getfield 212, (2, 0, 0, 0))], (.ireturn, (0, 0, 0, 0)), []),
  (69, [(.aload_n 3, (0, 0, 0, 0)), (.getfield 217, (2, 1, 0, 0))], (.ireturn, (0, 0, 0, 0)), []),
  (74, [(.aload_n 3, (0, 0, 0, 0)), (.getfield 220, (2, 2, 0, 0))], (.ireturn, (0, 0, 0, 0)), []),
  (79, [(.aload_n 3, (0, 0, 0, 0)), (.getfield 221, (2, 3, 0, 0))], (.ireturn, (0, 0, 0, 0)), []),
  (84, [(.aload_n 3, (0, 0, 0, 0)), (.getfield 224, (2, 4, 0, 0))], (.ireturn, (0, 0, 0, 0)), []),
  (89, [(.aload_n 3, (0, 0, 0, 0)), (.getfield 227, (2, 5, 0, 0))], (.ireturn, (0, 0, 0, 0)), []),
  (94, [(.aload_n 3, (0, 0, 0, 0)), (.getfield 230, (2, 6, 0, 0))], (.ireturn, (0, 0, 0, 0)), []),
  (99, [(.aload_n 3, (0, 0, 0, 0)), (.invokevirtual 233, (97, 0, 2, 0))], (.ireturn, (0, 0, 0, 0)), []),
  (104, [(.iconst (-1), (0, 0, 0, 0))], (.ireturn, (0, 0, 0, 0)), [])]
/-- 176: TwinVaults.nextEpoch(II)I -/
def bt_X9_nextEpoch : List bi_K := [(0, [(.iload_n 0, (0, 0, 0, 0)), (.iconst 1, (0, 0, 0, 0)), (.iadd, (0, 0, 0, 0)), (.iload_n 1, (0, 0, 0, 0)), (.iload_n 0, (0, 0, 0, 0)), (.isub, (0, 0, 0, 0)), (.iconst 1, (0, 0, 0, 0)), (.isub, (0, 0, 0, 0)), (.iconst 4, (0, 0, 0, 0)), (.invokestatic 358, (1, 2, 0, 0)), (.iadd, (0, 0, 0, 0))], (.ireturn, (0, 0, 0, 0)), [])]
/-- 177: TwinVaults.old(IIII)I -/
def bt_X9_old : List bi_K := [(0, [(.aload_n 0, (0, 0, 0, 0)), (.iload_n 1, (0, 0, 0, 0)), (.invokevirtual 68, (206, 1, 9, 0)), (.astore 5, (0, 0, 0, 0)), (.aload 5, (0, 0, 0, 0))], (.ifnull 29, (0, 0, 0, 0)), [3, 1]),
  (12, [(.aload 5, (0, 0, 0, 0)), (.getfield 72, (6, 2, 1, 0)), (.iload_n 2, (0, 0, 0, 0)), (.invokevirtual 258, (130, 1, 7, 0))], (.ifCond .eq 17, (0, 0, 0, 0)), [3, 2]),
  (24, [(.aload 5, (0, 0, 0, 0)), (.getfield 72, (6, 2, 1, 0)), (.iload_n 3, (0, 0, 0, 0)), (.iload 4, (0, 0, 0, 0)), (.invokevirtual 76, (129, 2, 7, 0))], (.ifCond .ne 14, (0, 0, 0, 0)), [4, 3]),
  (38, [], (.athrow, (0, 236, 262, 240)), []),
  (49, [(.aload 5, (0, 0, 0, 0)), (.getfield 91, (6, 1, 1, 0)), (.getfield 95, (4, 1, 2, 0))], (.ifCond .ne 13, (0, 0, 0, 0)), [6, 5]),
  (60, [], (.athrow, (1, 249, 251, 253)), []),
  (70, [(.aload 5, (0, 0, 0, 0)), (.getfield 72, (6, 2, 1, 0)), (.iload_n 2, (0, 0, 0, 0)), (.iload_n 3, (0, 0, 0, 0)), (.iload 4, (0, 0, 0, 0)), (.invokestatic 80, (203, 2, 0, 0)), (.invokevirtual 264, (143, 2, 7, 0))], (.ireturn, (0, 0, 0, 0)), [])]
/-- 178: TwinVaults.onAccept(LTwinVaults$Store;LTwinVaults$Message;)V -/
def bt_X9_onAccept : List bi_K := [(0, [(.aload_n 1, (0, 0, 0, 0)), (.aload_n 2, (0, 0, 0, 0)), (.iconst 1, (0, 0, 0, 0)), (.invokevirtual 499, (121, 2, 6, 0))], (.ifCond .ne 4, (0, 0, 0, 0)), [2, 1]),
  (9, [], (.return_, (0, 0, 0, 0)), []),
  (10, [(.aload_n 1, (0, 0, 0, 0)), (.iconst 2, (0, 0, 0, 0)), (.putfield 157, (6, 15, 0, 0)), (.aload_n 1, (0, 0, 0, 0)), (.aload_n 2, (0, 0, 0, 0)), (.getfield 227, (2, 5, 0, 0)), (.putfield 298, (6, 16, 0, 0)), (.aload_n 1, (0, 0, 0, 0)), (.aload_n 2, (0, 0, 0, 0)), (.getfield 227, (2, 5, 0, 0)), (.putfield 301, (6, 17, 0, 0)), (.aload_n 1, (0, 0, 0, 0)), (.iconst 0, (0, 0, 0, 0)), (.putfield 160, (6, 18, 0, 0)), (.aload_n 0, (0, 0, 0, 0)), (.aload_n 1, (0, 0, 0, 0)), (.invokevirtual 503, (199, 1, 9, 0))], (.return_, (0, 0, 0, 0)), [])]
/-- 179: TwinVaults.onAck(LTwinVaults$Store;LTwinVaults$Message;)V -/
def bt_X9_onAck : List bi_K := [(0, [(.aload_n 1, (0, 0, 0, 0)), (.aload_n 2, (0, 0, 0, 0)), (.iconst 2, (0, 0, 0, 0)), (.invokevirtual 499, (121, 2, 6, 0))], (.ifCond .eq 14, (0, 0, 0, 0)), [2, 1]),
  (9, [(.aload_n 2, (0, 0, 0, 0)), (.getfield 227, (2, 5, 0, 0)), (.aload_n 1, (0, 0, 0, 0)), (.getfield 298, (6, 16, 0, 0))], (.if_icmp .gt 4, (0, 0, 0, 0)), [3, 2]),
  (20, [], (.return_, (0, 0, 0, 0)), []),
  (21, [(.aload_n 1, (0, 0, 0, 0)), (.aload_n 2, (0, 0, 0, 0)), (.getfield 227, (2, 5, 0, 0)), (.putfield 298, (6, 16, 0, 0)), (.aload_n 1, (0, 0, 0, 0)), (.aload_n 1, (0, 0, 0, 0)), (.getfield 301, (6, 17, 0, 0)), (.aload_n 2, (0, 0, 0, 0)), (.getfield 227, (2, 5, 0, 0)), (.invokestatic 13, (2, 2, 0, 0)), (.putfield 301, (6, 17, 0, 0)), (.aload_n 1, (0, 0, 0, 0)), (.iconst 0, (0, 0, 0, 0)), (.putfield 160, (6, 18, 0, 0)), (.aload_n 0, (0, 0, 0, 0)), (.aload_n 1, (0, 0, 0, 0)), (.invokevirtual 503, (199, 1, 9, 0))], (.return_, (0, 0, 0, 0)), [])]
/-- 180: TwinVaults.onCommon(LTwinVaults$Store;LTwinVaults$Message;)V -/
def bt_X9_onCommon : List bi_K := [(0, [(.aload_n 1, (0, 0, 0, 0)), (.getfield 72, (6, 2, 1, 0)), (.aload_n 2, (0, 0, 0, 0)), (.getfield 224, (2, 4, 0, 0)), (.invokevirtual 490, (128, 1, 7, 0)), (.istore_n 3, (0, 0, 0, 0)), (.aload_n 1, (0, 0, 0, 0)), (.getfield 132, (6, 6, 0, 0)), (.iconst 3, (0, 0, 0, 0))], (.if_icmp .ne 31, (0, 0, 0, 0)), [5, 1]),
  (20, [(.aload_n 1, (0, 0, 0, 0)), (.getfield 163, (6, 19, 2, 0))], (.ifCond .eq 24, (0, 0, 0, 0)), [5, 2]),
  (27, [(.aload_n 2, (0, 0, 0, 0)), (.getfield 224, (2, 4, 0, 0))], (.ifCond .eq 7, (0, 0, 0, 0)), [4, 3]),
  (34, [(.iload_n 3, (0, 0, 0, 0))], (.ifCond .lt 13, (0, 0, 0, 0)), [5, 4]),
  (38, [(.aload_n 1, (0, 0, 0, 0)), (.getfield 91, (6, 1, 1, 0)), (.invokevirtual 129, (103, 0, 4, 0))], (.ifCond .ne 4, (0, 0, 0, 0)), [6, 5]),
  (48, [], (.return_, (0, 0, 0, 0)), []),
  (49, [(.aload_n 0, (0, 0, 0, 0)), (.getfield 46, (9, 5, 1, 0)), (.aload_n 1, (0, 0, 0, 0)), (.getfield 319, (6, 5, 1, 0)), (.aload_n 1, (0, 0, 0, 0)), (.getfield 72, (6, 2, 1, 0)), (.getfield 286, (7, 4, 0, 0)), (.aload_n 1, (0, 0, 0, 0)), (.getfield 72, (6, 2, 1, 0)), (.aload_n 2, (0, 0, 0, 0)), (.getfield 224, (2, 4, 0, 0)), (.invokevirtual 412, (138, 1, 7, 0)), (.invokevirtual 415, (150, 3, 8, 0)), (.aload_n 1, (0, 0, 0, 0)), (.getfield 72, (6, 2, 1, 0)), (.iload_n 3, (0, 0, 0, 0)), (.invokevirtual 493, (146, 1, 7, 0)), (.aload_n 1, (0, 0, 0, 0)), (.iconst 0, (0, 0, 0, 0)), (.putfield 132, (6, 6, 0, 0)), (.aload_n 1, (0, 0, 0, 0)), (.invokevirtual 496, (115, 0, 6, 0)), (.aload_n 1, (0, 0, 0, 0)), (.iconst 0, (0, 0, 0, 0)), (.putfield 163, (6, 19, 2, 0)), (.aload_n 1, (0, 0, 0, 0)), (.aload_n 0, (0, 0, 0, 0)), (.getfield 22, (9, 1, 0, 0)), (.invokevirtual 379, (122, 1, 6, 0))], (.return_, (0, 0, 0, 0)), [])]
/-- 181: TwinVaults.onData(LTwinVaults$Store;LTwinVaults$Message;)V -/
def bt_X9_onData : List bi_K := [(0, [(.aload_n 1, (0, 0, 0, 0)), (.getfield 304, (6, 3, 1, 0)), (.astore_n 3, (0, 0, 0, 0)), (.aload_n 1, (0, 0, 0, 0)), (.getfield 132, (6, 6, 0, 0))], (.ifCond .ne 18, (0, 0, 0, 0)), [2, 1]),
  (12, [(.aload_n 3, (0, 0, 0, 0)), (.aload_n 2, (0, 0, 0, 0)), (.getfield 221, (2, 3, 0, 0)), (.aload_n 2, (0, 0, 0, 0)), (.getfield 224, (2, 4, 0, 0)), (.invokevirtual 462, (112, 2, 5, 0))], (.ifCond .ne 4, (0, 0, 0, 0)), [3, 2]),
  (27, [], (.return_, (0, 0, 0, 0)), []),
  (28, [(.aload_n 2, (0, 0, 0, 0)), (.getfield 227, (2, 5, 0, 0)), (.aload_n 3, (0, 0, 0, 0)), (.getfield 308, (5, 4, 0, 0))], (.if_icmp .lt 10, (0, 0, 0, 0)), [5, 4]),
  (39, [(.aload_n 3, (0, 0, 0, 0)), (.invokevirtual 468, (110, 0, 5, 0))], (.ifCond .eq 10, (0, 0, 0, 0)), [6, 5]),
  (46, [(.aload_n 0, (0, 0, 0, 0)), (.aload_n 1, (0, 0, 0, 0)), (.iconst 4, (0, 0, 0, 0)), (.invokevirtual 474, (200, 2, 9, 0))], (.return_, (0, 0, 0, 0)), []),
  (53, [(.aload_n 2, (0, 0, 0, 0)), (.getfield 227, (2, 5, 0, 0)), (.aload_n 3, (0, 0, 0, 0)), (.getfield 308, (5, 4, 0, 0))], (.if_icmp .le 4, (0, 0, 0, 0)), [8, 7]),
  (64, [], (.return_, (0, 0, 0, 0)), []),
  (65, [(.aload_n 0, (0, 0, 0, 0)), (.aload_n 1, (0, 0, 0, 0)), (.getfield 91, (6, 1, 1, 0)), (.invokevirtual 354, (168, 1, 9, 0)), (.aload_n 2, (0, 0, 0, 0)), (.invokevirtual 233, (97, 0, 2, 0))], (.if_icmp .ge 14, (0, 0, 0, 0)), [10, 9]),
  (80, [(.aload_n 3, (0, 0, 0, 0)), (.dup, (0, 0, 0, 0)), (.getfield 316, (5, 6, 0, 0)), (.iconst 1, (0, 0, 0, 0)), (.iadd, (0, 0, 0, 0)), (.putfield 316, (5, 6, 0, 0))], (.return_, (0, 0, 0, 0)), []),
  (91, [(.aload_n 1, (0, 0, 0, 0)), (.getfield 91, (6, 1, 1, 0)), (.invokevirtual 129, (103, 0, 4, 0))], (.ifCond .ne 4, (0, 0, 0, 0)), [12, 11]),
  (101, [], (.return_, (0, 0, 0, 0)), []),
  (102, [(.aload_n 3, (0, 0, 0, 0)), (.aload_n 2, (0, 0, 0, 0)), (.invokevirtual 233, (97, 0, 2, 0)), (.invokevirtual 477, (107, 1, 5, 0)), (.aload_n 3, (0, 0, 0, 0)), (.invokevirtual 468, (110, 0, 5, 0))], (.ifCond .eq 11, (0, 0, 0, 0)), [14, 13]),
  (117, [(.aload_n 0, (0, 0, 0, 0)), (.aload_n 1, (0, 0, 0, 0)), (.invokevirtual 471, (161, 1, 9, 0))], (.goto 9, (0, 0, 0, 0)), [15]),
  (125, [(.aload_n 0, (0, 0, 0, 0)), (.aload_n 1, (0, 0, 0, 0)), (.iconst 4, (0, 0, 0, 0)), (.invokevirtual 474, (200, 2, 9, 0))], (.nop, (0, 0, 0, 0)), [15]),
  (131, [], (.return_, (0, 0, 0, 0)), [])]
/-- 182: TwinVaults.onGive(LTwinVaults$Store;LTwinVaults$Message;)V -/
def bt_X9_onGive : List bi_K := [(0, [(.aload_n 1, (0, 0, 0, 0)), (.getfield 132, (6, 6, 0, 0))], (.ifCond .ne 27, (0, 0, 0, 0)), [3, 1]),
  (7, [(.aload_n 2, (0, 0, 0, 0)), (.getfield 224, (2, 4, 0, 0)), (.aload_n 1, (0, 0, 0, 0)), (.getfield 72, (6, 2, 1, 0)), (.invokevirtual 126, (134, 0, 7, 0))], (.if_icmp .ne 13, (0, 0, 0, 0)), [3, 2]),
  (21, [(.aload_n 1, (0, 0, 0, 0)), (.getfield 91, (6, 1, 1, 0)), (.invokevirtual 129, (103, 0, 4, 0))], (.ifCond .ne 4, (0, 0, 0, 0)), [4, 3]),
  (31, [], (.return_, (0, 0, 0, 0)), []),
  (32, [(.aload_n 1, (0, 0, 0, 0)), (.aload_n 2, (0, 0, 0, 0)), (.getfield 224, (2, 4, 0, 0)), (.putfield 148, (6, 9, 0, 0)), (.aload_n 1, (0, 0, 0, 0)), (.aload_n 2, (0, 0, 0, 0)), (.getfield 224, (2, 4, 0, 0)), (.putfield 154, (6, 14, 0, 0)), (.aload_n 1, (0, 0, 0, 0)), (.iconst 0, (0, 0, 0, 0)), (.putfield 151, (6, 10, 0, 0)), (.aload_n 1, (0, 0, 0, 0)), (.iconst 0, (0, 0, 0, 0)), (.iconst 0, (0, 0, 0, 0)), (.invokevirtual 138, (116, 2, 6, 0)), (.aload_n 1, (0, 0, 0, 0)), (.aload_n 2, (0, 0, 0, 0)), (.getfield 227, (2, 5, 0, 0)), (.aload_n 0, (0, 0, 0, 0)), (.getfield 22, (9, 1, 0, 0)), (.invokevirtual 175, (113, 2, 6, 0)), (.aload_n 0, (0, 0, 0, 0)), (.aload_n 1, (0, 0, 0, 0)), (.bipush 9, (0, 0, 0, 0)), (.iconst 0, (0, 0, 0, 0)), (.invokevirtual 427, (193, 3, 9, 0))], (.return_, (0, 0, 0, 0)), [])]
/-- 183: TwinVaults.onHave(LTwinVaults$Store;LTwinVaults$Message;)V -/
def bt_X9_onHave : List bi_K := [(0, [(.aload_n 1, (0, 0, 0, 0)), (.invokevirtual 382, (119, 0, 6, 0))], (.ifCond .eq 31, (0, 0, 0, 0)), [4, 1]),
  (7, [(.aload_n 1, (0, 0, 0, 0)), (.getfield 151, (6, 10, 0, 0))], (.ifCond .eq 24, (0, 0, 0, 0)), [4, 2]),
  (14, [(.aload_n 1, (0, 0, 0, 0)), (.getfield 151, (6, 10, 0, 0)), (.aload_n 2, (0, 0, 0, 0)), (.getfield 224, (2, 4, 0, 0))], (.if_icmp .ne 13, (0, 0, 0, 0)), [4, 3]),
  (25, [(.aload_n 1, (0, 0, 0, 0)), (.getfield 91, (6, 1, 1, 0)), (.invokevirtual 129, (103, 0, 4, 0))], (.ifCond .ne 4, (0, 0, 0, 0)), [5, 4]),
  (35, [], (.return_, (0, 0, 0, 0)), []),
  (36, [(.aload_n 1, (0, 0, 0, 0)), (.aload_n 2, (0, 0, 0, 0)), (.getfield 224, (2, 4, 0, 0)), (.putfield 148, (6, 9, 0, 0)), (.aload_n 1, (0, 0, 0, 0)), (.aload_n 2, (0, 0, 0, 0)), (.getfield 224, (2, 4, 0, 0)), (.putfield 154, (6, 14, 0, 0)), (.aload_n 1, (0, 0, 0, 0)), (.iconst 0, (0, 0, 0, 0)), (.putfield 151, (6, 10, 0, 0)), (.aload_n 1, (0, 0, 0, 0)), (.iconst 0, (0, 0, 0, 0)), (.putfield 157, (6, 15, 0, 0)), (.aload_n 1, (0, 0, 0, 0)), (.iconst 0, (0, 0, 0, 0)), (.putfield 160, (6, 18, 0, 0)), (.aload_n 1, (0, 0, 0, 0)), (.aload_n 0, (0, 0, 0, 0)), (.getfield 22, (9, 1, 0, 0)), (.invokevirtual 379, (122, 1, 6, 0))], (.return_, (0, 0, 0, 0)), [])]
/-- 184: TwinVaults.onHello(LTwinVaults$Store;LTwinVaults$Message;)V -/
def bt_X9_onHello : List bi_K := [(0, [(.aload_n 1, (0, 0, 0, 0)), (.getfield 132, (6, 6, 0, 0)), (.iconst 1, (0, 0, 0, 0))], (.if_icmp .ne 18, (0, 0, 0, 0)), [2, 1]),
  (8, [(.aload_n 1, (0, 0, 0, 0)), (.getfield 148, (6, 9, 0, 0)), (.sipush 4096, (0, 0, 0, 0)), (.aload_n 1, (0, 0, 0, 0)), (.getfield 166, (6, 7, 0, 0)), (.imul, (0, 0, 0, 0))], (.if_icmp .le 4, (0, 0, 0, 0)), [3, 2]),
  (23, [], (.return_, (0, 0, 0, 0)), []),
  (24, [(.iconst 0, (0, 0, 0, 0)), (.istore_n 3, (0, 0, 0, 0)), (.iconst 0, (0, 0, 0, 0)), (.istore 4, (0, 0, 0, 0))], (.nop, (0, 0, 0, 0)), [4]),
  (29, [(.iload 4, (0, 0, 0, 0)), (.aload_n 2, (0, 0, 0, 0)), (.invokevirtual 233, (97, 0, 2, 0))], (.if_icmp .ge 42, (0, 0, 0, 0)), [9, 5]),
  (38, [(.iload_n 3, (0, 0, 0, 0))], (.ifCond .ne 38, (0, 0, 0, 0)), [9, 6]),
  (42, [(.aload_n 1, (0, 0, 0, 0)), (.getfield 72, (6, 2, 1, 0)), (.aload_n 2, (0, 0, 0, 0)), (.getfield 243, (2, 8, 1, 0)), (.iconst 3, (0, 0, 0, 0)), (.iload 4, (0, 0, 0, 0)), (.imul, (0, 0, 0, 0)), (.iaload, (0, 0, 0, 0)), (.invokevirtual 490, (128, 1, 7, 0))], (.ifCond .lt 13, (0, 0, 0, 0)), [8, 7]),
  (61, [(.aload_n 2, (0, 0, 0, 0)), (.getfield 243, (2, 8, 1, 0)), (.iconst 3, (0, 0, 0, 0)), (.iload 4, (0, 0, 0, 0)), (.imul, (0, 0, 0, 0)), (.iaload, (0, 0, 0, 0)), (.istore_n 3, (0, 0, 0, 0))], (.nop, (0, 0, 0, 0)), [8]),
  (71, [(.iinc 4 1, (0, 0, 0, 0))], (.goto (-45), (0, 0, 0, 0)), [4]),
  (77, [(.aload_n 1, (0, 0, 0, 0)), (.getfield 91, (6, 1, 1, 0)), (.invokevirtual 129, (103, 0, 4, 0))], (.ifCond .ne 4, (0, 0, 0, 0)), [11, 10]),
  (87, [], (.return_, (0, 0, 0, 0)), []),
  (88, [(.aload_n 1, (0, 0, 0, 0)), (.iload_n 3, (0, 0, 0, 0)), (.putfield 148, (6, 9, 0, 0)), (.aload_n 1, (0, 0, 0, 0)), (.iconst 0, (0, 0, 0, 0)), (.iconst 0, (0, 0, 0, 0)), (.invokevirtual 138, (116, 2, 6, 0)), (.aload_n 1, (0, 0, 0, 0)), (.getfield 151, (6, 10, 0, 0)), (.iload_n 3, (0, 0, 0, 0))], (.if_icmp .ne 8, (0, 0, 0, 0)), [13, 12]),
  (107, [(.aload_n 1, (0, 0, 0, 0)), (.iconst 0, (0, 0, 0, 0)), (.putfield 151, (6, 10, 0, 0))], (.nop, (0, 0, 0, 0)), [13]),
  (112, [(.aload_n 1, (0, 0, 0, 0)), (.iload_n 3, (0, 0, 0, 0)), (.putfield 154, (6, 14, 0, 0)), (.aload_n 1, (0, 0, 0, 0)), (.iconst 0, (0, 0, 0, 0)), (.putfield 157, (6, 15, 0, 0)), (.aload_n 1, (0, 0, 0, 0)), (.iconst 0, (0, 0, 0, 0)), (.putfield 160, (6, 18, 0, 0)), (.aload_n 1, (0, 0, 0, 0)), (.aload_n 0, (0, 0, 0, 0)), (.getfield 22, (9, 1, 0, 0)), (.invokevirtual 379, (122, 1, 6, 0)), (.aload_n 0, (0, 0, 0, 0)), (.aload_n 1, (0, 0, 0, 0)), (.bipush 11, (0, 0, 0, 0)), (.iload_n 3, (0, 0, 0, 0)), (.invokevirtual 427, (193, 3, 9, 0))], (.return_, (0, 0, 0, 0)), [])]
/-- 185: TwinVaults.onLack(LTwinVaults$Store;LTwinVaults$Message;)V -/
def bt_X9_onLack : List bi_K := [(0, [(.aload_n 1, (0, 0, 0, 0)), (.invokevirtual 382, (119, 0, 6, 0))], (.ifCond .eq 17, (0, 0, 0, 0)), [3, 1]),
  (7, [(.aload_n 1, (0, 0, 0, 0)), (.getfield 151, (6, 10, 0, 0))], (.ifCond .eq 10, (0, 0, 0, 0)), [3, 2]),
  (14, [(.aload_n 1, (0, 0, 0, 0)), (.getfield 157, (6, 15, 0, 0))], (.ifCond .ne 4, (0, 0, 0, 0)), [4, 3]),
  (21, [], (.return_, (0, 0, 0, 0)), []),
  (22, [(.aload_n 1, (0, 0, 0, 0)), (.aload_n 2, (0, 0, 0, 0)), (.getfield 224, (2, 4, 0, 0)), (.aload_n 1, (0, 0, 0, 0)), (.getfield 151, (6, 10, 0, 0))], (.if_icmp .ge 24, (0, 0, 0, 0)), [7, 5]),
  (34, [(.aload_n 1, (0, 0, 0, 0)), (.getfield 72, (6, 2, 1, 0)), (.aload_n 2, (0, 0, 0, 0)), (.getfield 224, (2, 4, 0, 0)), (.invokevirtual 490, (128, 1, 7, 0))], (.ifCond .lt 10, (0, 0, 0, 0)), [7, 6]),
  (48, [(.aload_n 2, (0, 0, 0, 0)), (.getfield 224, (2, 4, 0, 0))], (.goto 4, (0, 0, 0, 0)), [8]),
  (55, [(.iconst 0, (0, 0, 0, 0))], (.nop, (0, 0, 0, 0)), [8]),
  (56, [(.putfield 154, (6, 14, 0, 0)), (.aload_n 0, (0, 0, 0, 0)), (.aload_n 1, (0, 0, 0, 0)), (.invokevirtual 391, (198, 1, 9, 0))], (.return_, (0, 0, 0, 0)), [])]
/-- 186: TwinVaults.onOffer(LTwinVaults$Store;LTwinVaults$Message;)V -/
def bt_X9_onOffer : List bi_K := [(0, [(.aload_n 1, (0, 0, 0, 0)), (.getfield 72, (6, 2, 1, 0)), (.invokevirtual 126, (134, 0, 7, 0)), (.istore_n 3, (0, 0, 0, 0)), (.aload_n 1, (0, 0, 0, 0)), (.getfield 132, (6, 6, 0, 0))], (.ifCond .ne 11, (0, 0, 0, 0)), [2, 1]),
  (15, [(.aload_n 2, (0, 0, 0, 0)), (.getfield 224, (2, 4, 0, 0)), (.iload_n 3, (0, 0, 0, 0))], (.if_icmp .ge 4, (0, 0, 0, 0)), [3, 2]),
  (23, [], (.return_, (0, 0, 0, 0)), []),
  (24, [(.aload_n 2, (0, 0, 0, 0)), (.getfield 224, (2, 4, 0, 0)), (.iload_n 3, (0, 0, 0, 0))], (.if_icmp .ne 14, (0, 0, 0, 0)), [5, 4]),
  (32, [(.aload_n 0, (0, 0, 0, 0)), (.aload_n 1, (0, 0, 0, 0)), (.iconst 5, (0, 0, 0, 0)), (.aload_n 2, (0, 0, 0, 0)), (.getfield 224, (2, 4, 0, 0)), (.invokevirtual 427, (193, 3, 9, 0))], (.return_, (0, 0, 0, 0)), []),
  (43, [(.aload_n 2, (0, 0, 0, 0)), (.getfield 221, (2, 3, 0, 0))], (.ifCond .eq 20, (0, 0, 0, 0)), [8, 6]),
  (50, [(.aload_n 2, (0, 0, 0, 0)), (.getfield 221, (2, 3, 0, 0)), (.iload_n 3, (0, 0, 0, 0))], (.if_icmp .eq 12, (0, 0, 0, 0)), [8, 7]),
  (58, [(.aload_n 0, (0, 0, 0, 0)), (.aload_n 1, (0, 0, 0, 0)), (.bipush 6, (0, 0, 0, 0)), (.iload_n 3, (0, 0, 0, 0)), (.invokevirtual 427, (193, 3, 9, 0))], (.return_, (0, 0, 0, 0)), []),
  (67, [(.aload_n 1, (0, 0, 0, 0)), (.getfield 304, (6, 3, 1, 0)), (.aload_n 2, (0, 0, 0, 0)), (.getfield 221, (2, 3, 0, 0)), (.aload_n 2, (0, 0, 0, 0)), (.getfield 224, (2, 4, 0, 0)), (.invokevirtual 462, (112, 2, 5, 0))], (.ifCond .ne 22, (0, 0, 0, 0)), [12, 9]),
  (85, [(.aload_n 1, (0, 0, 0, 0)), (.getfield 91, (6, 1, 1, 0)), (.invokevirtual 129, (103, 0, 4, 0))], (.ifCond .ne 4, (0, 0, 0, 0)), [11, 10]),
  (95, [], (.return_, (0, 0, 0, 0)), []),
  (96, [(.aload_n 1, (0, 0, 0, 0)), (.getfield 304, (6, 3, 1, 0)), (.aload_n 2, (0, 0, 0, 0)), (.invokevirtual 465, (108, 1, 5, 0))], (.nop, (0, 0, 0, 0)), [12]),
  (104, [(.aload_n 1, (0, 0, 0, 0)), (.getfield 304, (6, 3, 1, 0)), (.invokevirtual 468, (110, 0, 5, 0))], (.ifCond .eq 11, (0, 0, 0, 0)), [14, 13]),
  (114, [(.aload_n 0, (0, 0, 0, 0)), (.aload_n 1, (0, 0, 0, 0)), (.invokevirtual 471, (161, 1, 9, 0))], (.goto 9, (0, 0, 0, 0)), [15]),
  (122, [(.aload_n 0, (0, 0, 0, 0)), (.aload_n 1, (0, 0, 0, 0)), (.iconst 2, (0, 0, 0, 0)), (.invokevirtual 474, (200, 2, 9, 0))], (.nop, (0, 0, 0, 0)), [15]),
  (128, [], (.return_, (0, 0, 0, 0)), [])]
/-- 187: TwinVaults.pass(II)I -/
def bt_X9_pass : List bi_K := [(0, [(.aload_n 0, (0, 0, 0, 0)), (.getfield 53, (9, 6, 1, 0)), (.iload_n 1, (0, 0, 0, 0)), (.invokevirtual 201, (5, 1, 0, 0)), (.astore_n 3, (0, 0, 0, 0)), (.aload_n 3, (0, 0, 0, 0))], (.ifnull 12, (0, 0, 0, 0)), [3, 1]),
  (13, [(.iload_n 2, (0, 0, 0, 0))], (.ifCond .lt 8, (0, 0, 0, 0)), [3, 2]),
  (17, [(.iload_n 2, (0, 0, 0, 0)), (.iconst 2, (0, 0, 0, 0))], (.if_icmp .le 5, (0, 0, 0, 0)), [4, 3]),
  (22, [(.iconst (-1), (0, 0, 0, 0))], (.ireturn, (0, 0, 0, 0)), []),
  (24, [(.iload_n 2, (0, 0, 0, 0)), (.iconst 2, (0, 0, 0, 0))], (.if_icmp .eq 11, (0, 0, 0, 0)), [6, 5]),
  (29, [(.aload_n 0, (0, 0, 0, 0)), (.getfield 53, (9, 6, 1, 0)), (.iload_n 1, (0, 0, 0, 0)), (.invokevirtual 205, (6, 1, 0, 0))], (.nop, (0, 0, 0, 0)), [6]),
  (37, [(.iload_n 2, (0, 0, 0, 0))], (.ifCond .eq 8, (0, 0, 0, 0)), [8, 7]),
  (41, [(.aload_n 0, (0, 0, 0, 0)), (.aload_n 3, (0, 0, 0, 0)), (.invokevirtual 208, (191, 1, 9, 0))], (.nop, (0, 0, 0, 0)), [8]),
  (46, [(.iconst 1, (0, 0, 0, 0))], (.ireturn, (0, 0, 0, 0)), [])]
/-- 188: TwinVaults.period(I)Z -/
def bt_X9_period : List bi_K := [(0, [(.iload_n 1, (0, 0, 0, 0))], (.ifCond .lt 10, (0, 0, 0, 0)), [2, 1]),
  (4, [(.iload_n 1, (0, 0, 0, 0)), (.sipush 1000, (0, 0, 0, 0))], (.if_icmp .le 5, (0, 0, 0, 0)), [3, 2]),
  (11, [(.iconst 0, (0, 0, 0, 0))], (.ireturn, (1, 0, 0, 0)), []),
  (13, [(.aload_n 0, (0, 0, 0, 0)), (.iload_n 1, (0, 0, 0, 0)), (.putfield 182, (9, 9, 0, 0)), (.iconst 1, (0, 0, 0, 0))], (.ireturn, (1, 0, 0, 0)), [])]
/-- 189: TwinVaults.power(II)Z -/
def bt_X9_power : List bi_K := [(0, [(.iload_n 1, (0, 0, 0, 0))], (.ifCond .lt 19, (0, 0, 0, 0)), [4, 1]),
  (4, [(.iload_n 1, (0, 0, 0, 0)), (.iconst 1, (0, 0, 0, 0))], (.if_icmp .gt 14, (0, 0, 0, 0)), [4, 2]),
  (9, [(.iload_n 2, (0, 0, 0, 0)), (.iconst (-1), (0, 0, 0, 0))], (.if_icmp .lt 9, (0, 0, 0, 0)), [4, 3]),
  (14, [(.iload_n 2, (0, 0, 0, 0)), (.ldc 191, (100000, 0, 0, 0))], (.if_icmp .le 5, (0, 0, 0, 0)), [5, 4]),
  (20, [(.iconst 0, (0, 0, 0, 0))], (.ireturn, (1, 0, 0, 0)), []),
  (22, [(.aload_n 0, (0, 0, 0, 0)), (.getfield 30, (9, 3, 1, 0)), (.iload_n 1, (0, 0, 0, 0)), (.aaload, (0, 0, 0, 0)), (.iload_n 2, (0, 0, 0, 0)), (.putfield 192, (4, 3, 0, 0)), (.iconst 1, (0, 0, 0, 0))], (.ireturn, (1, 0, 0, 0)), [])]
/-- 190: TwinVaults.read(III)I -/
def bt_X9_read : List bi_K := [(0, [(.aload_n 0, (0, 0, 0, 0)), (.iload_n 1, (0, 0, 0, 0)), (.invokevirtual 68, (206, 1, 9, 0)), (.astore 4, (0, 0, 0, 0)), (.aload 4, (0, 0, 0, 0))], (.ifnull 16, (0, 0, 0, 0)), [2, 1]),
  (12, [(.aload 4, (0, 0, 0, 0)), (.getfield 72, (6, 2, 1, 0)), (.iload_n 2, (0, 0, 0, 0)), (.iload_n 3, (0, 0, 0, 0)), (.invokevirtual 76, (129, 2, 7, 0))], (.ifCond .ne 13, (0, 0, 0, 0)), [3, 2]),
  (25, [], (.athrow, (0, 236, 247, 240)), []),
  (35, [(.aload 4, (0, 0, 0, 0)), (.getfield 91, (6, 1, 1, 0)), (.getfield 95, (4, 1, 2, 0))], (.ifCond .ne 13, (0, 0, 0, 0)), [5, 4]),
  (46, [], (.athrow, (1, 249, 251, 253)), []),
  (56, [(.aload 4, (0, 0, 0, 0)), (.getfield 72, (6, 2, 1, 0)), (.iload_n 2, (0, 0, 0, 0)), (.iload_n 3, (0, 0, 0, 0)), (.invokestatic 80, (203, 2, 0, 0)), (.invokevirtual 254, (142, 1, 7, 0))], (.ireturn, (0, 0, 0, 0)), [])]
/-- 191: TwinVaults.receive(LTwinVaults$Message;)V -/
def bt_X9_receive : List bi_K := [(0, [(.aload_n 0, (0, 0, 0, 0)), (.aload_n 1, (0, 0, 0, 0)), (.getfield 217, (2, 1, 0, 0)), (.iconst 4, (0, 0, 0, 0)), (.iadd, (0, 0, 0, 0)), (.bipush 8, (0, 0, 0, 0)), (.irem, (0, 0, 0, 0)), (.invokevirtual 68, (206, 1, 9, 0)), (.astore_n 2, (0, 0, 0, 0)), (.aload_n 2, (0, 0, 0, 0))], (.ifnull 13, (0, 0, 0, 0)), [2, 1]),
  (18, [(.aload_n 2, (0, 0, 0, 0)), (.getfield 91, (6, 1, 1, 0)), (.getfield 95, (4, 1, 2, 0))], (.ifCond .ne 4, (0, 0, 0, 0)), [3, 2]),
  (28, [], (.return_, (0, 0, 0, 0)), []),
  (29, [(.aload_n 1, (0, 0, 0, 0)), (.getfield 220, (2, 2, 0, 0)), (.aload_n 2, (0, 0, 0, 0)), (.getfield 166, (6, 7, 0, 0))], (.if_icmp .ge 37, (0, 0, 0, 0)), [9, 4]),
  (40, [(.aload_n 1, (0, 0, 0, 0)), (.getfield 212, (2, 0, 0, 0)), (.iconst 1, (0, 0, 0, 0))], (.if_icmp .eq 20, (0, 0, 0, 0)), [7, 5]),
  (48, [(.aload_n 1, (0, 0, 0, 0)), (.getfield 212, (2, 0, 0, 0)), (.iconst 3, (0, 0, 0, 0))], (.if_icmp .eq 12, (0, 0, 0, 0)), [7, 6]),
  (56, [(.aload_n 1, (0, 0, 0, 0)), (.getfield 212, (2, 0, 0, 0)), (.bipush 8, (0, 0, 0, 0))], (.if_icmp .ne 11, (0, 0, 0, 0)), [8, 7]),
  (65, [(.aload_n 0, (0, 0, 0, 0)), (.aload_n 2, (0, 0, 0, 0)), (.bipush 7, (0, 0, 0, 0)), (.iconst 0, (0, 0, 0, 0)), (.invokevirtual 427, (193, 3, 9, 0))], (.nop, (0, 0, 0, 0)), [8]),
  (73, [], (.return_, (0, 0, 0, 0)), []),
  (74, [(.aload_n 1, (0, 0, 0, 0)), (.getfield 220, (2, 2, 0, 0)), (.aload_n 2, (0, 0, 0, 0)), (.getfield 166, (6, 7, 0, 0))], (.if_icmp .le 22, (0, 0, 0, 0)), [13, 10]),
  (85, [(.aload_n 2, (0, 0, 0, 0)), (.getfield 91, (6, 1, 1, 0)), (.invokevirtual 129, (103, 0, 4, 0))], (.ifCond .ne 4, (0, 0, 0, 0)), [12, 11]),
  (95, [], (.return_, (0, 0, 0, 0)), []),
  (96, [(.aload_n 2, (0, 0, 0, 0)), (.aload_n 1, (0, 0, 0, 0)), (.getfield 220, (2, 2, 0, 0)), (.invokevirtual 431, (120, 1, 6, 0))], (.nop, (0, 0, 0, 0)), [13]),
  (104, [(.aload_n 1, (0, 0, 0, 0)), (.getfield 212, (2, 0, 0, 0))], (.tableswitch 141 1 11 #[60, 69, 78, 87, 96, 105, 141, 114, 141, 123, 132], (0, 0, 0, 0)), [23, 14, 15, 16, 17, 18, 19, 23, 20, 23, 21, 22]),
  (168, [(.aload_n 0, (0, 0, 0, 0)), (.aload_n 2, (0, 0, 0, 0)), (.aload_n 1, (0, 0, 0, 0)), (.invokevirtual 434, (186, 2, 9, 0))], (.goto 75, (0, 0, 0, 0)), [23]),
  (177, [(.aload_n 0, (0, 0, 0, 0)), (.aload_n 2, (0, 0, 0, 0)), (.aload_n 1, (0, 0, 0, 0)), (.invokevirtual 438, (178, 2, 9, 0))], (.goto 66, (0, 0, 0, 0)), [23]),
  (186, [(.aload_n 0, (0, 0, 0, 0)), (.aload_n 2, (0, 0, 0, 0)), (.aload_n 1, (0, 0, 0, 0)), (.invokevirtual 441, (181, 2, 9, 0))], (.goto 57, (0, 0, 0, 0)), [23]),
  (195, [(.aload_n 0, (0, 0, 0, 0)), (.aload_n 2, (0, 0, 0, 0)), (.aload_n 1, (0, 0, 0, 0)), (.invokevirtual 444, (179, 2, 9, 0))], (.goto 48, (0, 0, 0, 0)), [23]),
  (204, [(.aload_n 0, (0, 0, 0, 0)), (.aload_n 2, (0, 0, 0, 0)), (.aload_n 1, (0, 0, 0, 0)), (.invokevirtual 447, (183, 2, 9, 0))], (.goto 39, (0, 0, 0, 0)), [23]),
  (213, [(.aload_n 0, (0, 0, 0, 0)), (.aload_n 2, (0, 0, 0, 0)), (.aload_n 1, (0, 0, 0, 0)), (.invokevirtual 450, (185, 2, 9, 0))], (.goto 30, (0, 0, 0, 0)), [23]),
  (222, [(.aload_n 0, (0, 0, 0, 0)), (.aload_n 2, (0, 0, 0, 0)), (.aload_n 1, (0, 0, 0, 0)), (.invokevirtual 453, (182, 2, 9, 0))], (.goto 21, (0, 0, 0, 0)), [23]),
  (231, [(.aload_n 0, (0, 0, 0, 0)), (.aload_n 2, (0, 0, 0, 0)), (.aload_n 1, (0, 0, 0, 0)), (.invokevirtual 456, (184, 2, 9, 0))], (.goto 12, (0, 0, 0, 0)), [23]),
  (240, [(.aload_n 0, (0, 0, 0, 0)), (.aload_n 2, (0, 0, 0, 0)), (.aload_n 1, (0, 0, 0, 0)), (.invokevirtual 459, (180, 2, 9, 0))], (.goto 3, (0, 0, 0, 0)), [23]),
  (249, [], (.return_, (0, 0, 0, 0)), [])]
/-- 192: TwinVaults.refusalOf(LTwinVaults$Store;I)I -/
def bt_X9_refusalOf : List bi_K := [(0, [(.aload_n 0, (0, 0, 0, 0))], (.ifnonnull 6, (0, 0, 0, 0)), [2, 1]),
  (4, [(.bipush (-2), (0, 0, 0, 0))], (.ireturn, (0, 0, 0, 0)), []),
  (7, [(.aload_n 0, (0, 0, 0, 0)), (.getfield 91, (6, 1, 1, 0)), (.getfield 95, (4, 1, 2, 0))], (.ifCond .ne 6, (0, 0, 0, 0)), [4, 3]),
  (17, [(.bipush (-3), (0, 0, 0, 0))], (.ireturn, (0, 0, 0, 0)), []),
  (20, [(.aload_n 0, (0, 0, 0, 0)), (.getfield 132, (6, 6, 0, 0)), (.iload_n 1, (0, 0, 0, 0))], (.if_icmp .ne 7, (0, 0, 0, 0)), [6, 5]),
  (28, [(.iconst 0, (0, 0, 0, 0))], (.goto 5, (0, 0, 0, 0)), [7]),
  (32, [(.bipush (-4), (0, 0, 0, 0))], (.nop, (0, 0, 0, 0)), [7]),
  (34, [], (.ireturn, (0, 0, 0, 0)), [])]
/-- 193: TwinVaults.send(LTwinVaults$Store;II)V -/
def bt_X9_send : List bi_K := [(0, [(.aload_n 0, (0, 0, 0, 0)), (.getfield 53, (9, 6, 1, 0)), (.new 213, (2, 9, 0, 0)), (.dup, (0, 0, 0, 0)), (.aload_n 1, (0, 0, 0, 0)), (.iload_n 2, (0, 0, 0, 0)), (.iconst 0, (0, 0, 0, 0)), (.iload_n 3, (0, 0, 0, 0)), (.invokespecial 400, (96, 4, 2, 0)), (.invokevirtual 403, (4, 1, 0, 0))], (.return_, (0, 0, 0, 0)), [])]
/-- 194: TwinVaults.sendData(LTwinVaults$Store;I)V -/
def bt_X9_sendData : List bi_K := [(0, [(.new 213, (2, 9, 0, 0)), (.dup, (0, 0, 0, 0)), (.aload_n 1, (0, 0, 0, 0)), (.iconst 3, (0, 0, 0, 0)), (.aload_n 1, (0, 0, 0, 0)), (.getfield 154, (6, 14, 0, 0)), (.aload_n 1, (0, 0, 0, 0)), (.getfield 151, (6, 10, 0, 0)), (.invokespecial 400, (96, 4, 2, 0)), (.astore_n 3, (0, 0, 0, 0)), (.aload_n 3, (0, 0, 0, 0)), (.iload_n 2, (0, 0, 0, 0)), (.putfield 227, (2, 5, 0, 0)), (.iconst 4, (0, 0, 0, 0)), (.iload_n 2, (0, 0, 0, 0)), (.imul, (0, 0, 0, 0)), (.istore 4, (0, 0, 0, 0)), (.iconst 0, (0, 0, 0, 0)), (.iconst 4, (0, 0, 0, 0)), (.aload_n 1, (0, 0, 0, 0)), (.getfield 409, (6, 4, 1, 0)), (.getfield 323, (3, 3, 0, 0)), (.iload 4, (0, 0, 0, 0)), (.isub, (0, 0, 0, 0)), (.invokestatic 7, (3, 2, 0, 0)), (.invokestatic 13, (2, 2, 0, 0)), (.istore 5, (0, 0, 0, 0)), (.aload_n 3, (0, 0, 0, 0)), (.iconst 3, (0, 0, 0, 0)), (.iload 5, (0, 0, 0, 0)), (.imul, (0, 0, 0, 0)), (.newarray .int, (0, 0, 0, 0)), (.putfield 243, (2, 8, 1, 0)), (.iconst 0, (0, 0, 0, 0)), (.istore 6, (0, 0, 0, 0))], (.nop, (0, 0, 0, 0)), [1]),
  (61, [(.iload 6, (0, 0, 0, 0)), (.iload 5, (0, 0, 0, 0))], (.if_icmp .ge 62, (0, 0, 0, 0)), [6, 2]),
  (68, [(.aload_n 1, (0, 0, 0, 0)), (.getfield 409, (6, 4, 1, 0)), (.getfield 334, (3, 2, 1, 0)), (.iload 4, (0, 0, 0, 0)), (.iload 6, (0, 0, 0, 0)), (.iadd, (0, 0, 0, 0)), (.iaload, (0, 0, 0, 0)), (.istore 7, (0, 0, 0, 0)), (.iconst 0, (0, 0, 0, 0)), (.istore 8, (0, 0, 0, 0))], (.nop, (0, 0, 0, 0)), [3]),
  (86, [(.iload 8, (0, 0, 0, 0)), (.iconst 3, (0, 0, 0, 0))], (.if_icmp .ge 32, (0, 0, 0, 0)), [5, 4]),
  (92, [(.aload_n 3, (0, 0, 0, 0)), (.getfield 243, (2, 8, 1, 0)), (.iconst 3, (0, 0, 0, 0)), (.iload 6, (0, 0, 0, 0)), (.imul, (0, 0, 0, 0)), (.iload 8, (0, 0, 0, 0)), (.iadd, (0, 0, 0, 0)), (.aload_n 0, (0, 0, 0, 0)), (.getfield 46, (9, 5, 1, 0)), (.iload 7, (0, 0, 0, 0)), (.iload 8, (0, 0, 0, 0)), (.invokevirtual 337, (157, 2, 8, 0)), (.iastore, (0, 0, 0, 0)), (.iinc 8 1, (0, 0, 0, 0))], (.goto (-32), (0, 0, 0, 0)), [3]),
  (121, [(.iinc 6 1, (0, 0, 0, 0))], (.goto (-63), (0, 0, 0, 0)), [1]),
  (127, [(.aload_n 0, (0, 0, 0, 0)), (.getfield 53, (9, 6, 1, 0)), (.aload_n 3, (0, 0, 0, 0)), (.invokevirtual 403, (4, 1, 0, 0))], (.return_, (0, 0, 0, 0)), [])]
/-- 195: TwinVaults.sendForward(LTwinVaults$Store;)V -/
def bt_X9_sendForward : List bi_K := [(0, [(.aload_n 1, (0, 0, 0, 0)), (.getfield 151, (6, 10, 0, 0))], (.ifCond .eq 18, (0, 0, 0, 0)), [3, 1]),
  (7, [(.aload_n 1, (0, 0, 0, 0)), (.invokevirtual 388, (123, 0, 6, 0))], (.ifCond .eq 75, (0, 0, 0, 0)), [8, 2]),
  (14, [(.aload_n 0, (0, 0, 0, 0)), (.aload_n 1, (0, 0, 0, 0)), (.invokevirtual 391, (198, 1, 9, 0))], (.goto 67, (0, 0, 0, 0)), [8]),
  (22, [(.aload_n 1, (0, 0, 0, 0)), (.getfield 72, (6, 2, 1, 0)), (.invokevirtual 126, (134, 0, 7, 0)), (.aload_n 1, (0, 0, 0, 0)), (.getfield 148, (6, 9, 0, 0))], (.if_icmp .eq 40, (0, 0, 0, 0)), [6, 4]),
  (36, [(.aload_n 1, (0, 0, 0, 0)), (.getfield 91, (6, 1, 1, 0)), (.invokevirtual 129, (103, 0, 4, 0))], (.ifCond .eq 43, (0, 0, 0, 0)), [8, 5]),
  (46, [(.aload_n 1, (0, 0, 0, 0)), (.aload_n 1, (0, 0, 0, 0)), (.getfield 72, (6, 2, 1, 0)), (.invokevirtual 126, (134, 0, 7, 0)), (.putfield 151, (6, 10, 0, 0)), (.aload_n 1, (0, 0, 0, 0)), (.aload_n 1, (0, 0, 0, 0)), (.getfield 148, (6, 9, 0, 0)), (.putfield 154, (6, 14, 0, 0)), (.aload_n 0, (0, 0, 0, 0)), (.aload_n 1, (0, 0, 0, 0)), (.invokevirtual 391, (198, 1, 9, 0))], (.goto 16, (0, 0, 0, 0)), [8]),
  (73, [(.aload_n 1, (0, 0, 0, 0)), (.getfield 132, (6, 6, 0, 0)), (.iconst 2, (0, 0, 0, 0))], (.if_icmp .ne 8, (0, 0, 0, 0)), [8, 7]),
  (81, [(.aload_n 0, (0, 0, 0, 0)), (.aload_n 1, (0, 0, 0, 0)), (.invokevirtual 394, (170, 1, 9, 0))], (.nop, (0, 0, 0, 0)), [8]),
  (86, [], (.return_, (0, 0, 0, 0)), [])]
/-- 196: TwinVaults.sendGive(LTwinVaults$Store;)V -/
def bt_X9_sendGive : List bi_K := [(0, [(.aload_n 1, (0, 0, 0, 0)), (.iconst 0, (0, 0, 0, 0)), (.putfield 160, (6, 18, 0, 0)), (.new 213, (2, 9, 0, 0)), (.dup, (0, 0, 0, 0)), (.aload_n 1, (0, 0, 0, 0)), (.bipush 8, (0, 0, 0, 0)), (.iconst 0, (0, 0, 0, 0)), (.aload_n 1, (0, 0, 0, 0)), (.getfield 72, (6, 2, 1, 0)), (.invokevirtual 126, (134, 0, 7, 0)), (.invokespecial 400, (96, 4, 2, 0)), (.astore_n 2, (0, 0, 0, 0)), (.aload_n 2, (0, 0, 0, 0)), (.aload_n 1, (0, 0, 0, 0)), (.getfield 135, (6, 13, 0, 0)), (.putfield 227, (2, 5, 0, 0)), (.aload_n 0, (0, 0, 0, 0)), (.getfield 53, (9, 6, 1, 0)), (.aload_n 2, (0, 0, 0, 0)), (.invokevirtual 403, (4, 1, 0, 0))], (.return_, (0, 0, 0, 0)), [])]
/-- 197: TwinVaults.sendHello(LTwinVaults$Store;)V -/
def bt_X9_sendHello : List bi_K := [(0, [(.aload_n 1, (0, 0, 0, 0)), (.iconst 0, (0, 0, 0, 0)), (.putfield 160, (6, 18, 0, 0)), (.new 213, (2, 9, 0, 0)), (.dup, (0, 0, 0, 0)), (.aload_n 1, (0, 0, 0, 0)), (.bipush 10, (0, 0, 0, 0)), (.iconst 0, (0, 0, 0, 0)), (.iconst 0, (0, 0, 0, 0)), (.invokespecial 400, (96, 4, 2, 0)), (.astore_n 2, (0, 0, 0, 0)), (.aload_n 1, (0, 0, 0, 0)), (.getfield 72, (6, 2, 1, 0)), (.getfield 295, (7, 9, 0, 0)), (.istore_n 3, (0, 0, 0, 0)), (.aload_n 2, (0, 0, 0, 0)), (.iconst 3, (0, 0, 0, 0)), (.iload_n 3, (0, 0, 0, 0)), (.imul, (0, 0, 0, 0)), (.newarray .int, (0, 0, 0, 0)), (.putfield 243, (2, 8, 1, 0)), (.iconst 0, (0, 0, 0, 0)), (.istore 4, (0, 0, 0, 0))], (.nop, (0, 0, 0, 0)), [1]),
  (38, [(.iload 4, (0, 0, 0, 0)), (.iload_n 3, (0, 0, 0, 0))], (.if_icmp .ge 32, (0, 0, 0, 0)), [3, 2]),
  (44, [(.aload_n 2, (0, 0, 0, 0)), (.getfield 243, (2, 8, 1, 0)), (.iconst 3, (0, 0, 0, 0)), (.iload 4, (0, 0, 0, 0)), (.imul, (0, 0, 0, 0)), (.aload_n 1, (0, 0, 0, 0)), (.getfield 72, (6, 2, 1, 0)), (.getfield 329, (7, 7, 1, 0)), (.iload_n 3, (0, 0, 0, 0)), (.iconst 1, (0, 0, 0, 0)), (.isub, (0, 0, 0, 0)), (.iload 4, (0, 0, 0, 0)), (.isub, (0, 0, 0, 0)), (.iaload, (0, 0, 0, 0)), (.iastore, (0, 0, 0, 0)), (.iinc 4 1, (0, 0, 0, 0))], (.goto (-32), (0, 0, 0, 0)), [1]),
  (73, [(.aload_n 0, (0, 0, 0, 0)), (.getfield 53, (9, 6, 1, 0)), (.aload_n 2, (0, 0, 0, 0)), (.invokevirtual 403, (4, 1, 0, 0))], (.return_, (0, 0, 0, 0)), [])]
/-- 198: TwinVaults.sendOffer(LTwinVaults$Store;)V -/
def bt_X9_sendOffer : List bi_K := [(0, [(.aload_n 1, (0, 0, 0, 0)), (.iconst 1, (0, 0, 0, 0)), (.putfield 157, (6, 15, 0, 0)), (.aload_n 1, (0, 0, 0, 0)), (.iconst 0, (0, 0, 0, 0)), (.putfield 160, (6, 18, 0, 0)), (.aload_n 1, (0, 0, 0, 0)), (.getfield 72, (6, 2, 1, 0)), (.aload_n 1, (0, 0, 0, 0)), (.getfield 151, (6, 10, 0, 0)), (.invokevirtual 406, (139, 1, 7, 0)), (.istore_n 2, (0, 0, 0, 0)), (.aload_n 0, (0, 0, 0, 0)), (.getfield 46, (9, 5, 1, 0)), (.aload_n 1, (0, 0, 0, 0)), (.getfield 409, (6, 4, 1, 0)), (.iload_n 2, (0, 0, 0, 0)), (.aload_n 1, (0, 0, 0, 0)), (.getfield 72, (6, 2, 1, 0)), (.aload_n 1, (0, 0, 0, 0)), (.getfield 154, (6, 14, 0, 0)), (.invokevirtual 412, (138, 1, 7, 0)), (.invokevirtual 415, (150, 3, 8, 0)), (.new 213, (2, 9, 0, 0)), (.dup, (0, 0, 0, 0)), (.aload_n 1, (0, 0, 0, 0)), (.iconst 1, (0, 0, 0, 0)), (.aload_n 1, (0, 0, 0, 0)), (.getfield 154, (6, 14, 0, 0)), (.aload_n 1, (0, 0, 0, 0)), (.getfield 151, (6, 10, 0, 0)), (.invokespecial 400, (96, 4, 2, 0)), (.astore_n 3, (0, 0, 0, 0)), (.aload_n 3, (0, 0, 0, 0)), (.aload_n 1, (0, 0, 0, 0)), (.getfield 409, (6, 4, 1, 0)), (.getfield 323, (3, 3, 0, 0)), (.putfield 227, (2, 5, 0, 0)), (.aload_n 3, (0, 0, 0, 0)), (.aload_n 0, (0, 0, 0, 0)), (.getfield 46, (9, 5, 1, 0)), (.getfield 283, (8, 5, 1, 0)), (.iload_n 2, (0, 0, 0, 0)), (.iaload, (0, 0, 0, 0)), (.putfield 230, (2, 6, 0, 0)), (.aload_n 3, (0, 0, 0, 0)), (.iload_n 2, (0, 0, 0, 0)), (.putfield 419, (2, 7, 0, 0)), (.aload_n 0, (0, 0, 0, 0)), (.getfield 53, (9, 6, 1, 0)), (.aload_n 3, (0, 0, 0, 0)), (.invokevirtual 403, (4, 1, 0, 0))], (.return_, (0, 0, 0, 0)), [])]
/-- 199: TwinVaults.sendOn(LTwinVaults$Store;)V -/
def bt_X9_sendOn : List bi_K := [(0, [(.aload_n 0, (0, 0, 0, 0)), (.getfield 46, (9, 5, 1, 0)), (.aload_n 1, (0, 0, 0, 0)), (.getfield 409, (6, 4, 1, 0)), (.aload_n 1, (0, 0, 0, 0)), (.getfield 72, (6, 2, 1, 0)), (.aload_n 1, (0, 0, 0, 0)), (.getfield 151, (6, 10, 0, 0)), (.invokevirtual 406, (139, 1, 7, 0)), (.aload_n 1, (0, 0, 0, 0)), (.getfield 72, (6, 2, 1, 0)), (.aload_n 1, (0, 0, 0, 0)), (.getfield 154, (6, 14, 0, 0)), (.invokevirtual 412, (138, 1, 7, 0)), (.invokevirtual 415, (150, 3, 8, 0)), (.aload_n 1, (0, 0, 0, 0)), (.getfield 298, (6, 16, 0, 0)), (.aload_n 0, (0, 0, 0, 0)), (.getfield 25, (9, 2, 0, 0)), (.iadd, (0, 0, 0, 0)), (.aload_n 1, (0, 0, 0, 0)), (.getfield 409, (6, 4, 1, 0)), (.getfield 323, (3, 3, 0, 0)), (.iconst 4, (0, 0, 0, 0)), (.iadd, (0, 0, 0, 0)), (.iconst 1, (0, 0, 0, 0)), (.isub, (0, 0, 0, 0)), (.iconst 4, (0, 0, 0, 0)), (.idiv, (0, 0, 0, 0)), (.invokestatic 7, (3, 2, 0, 0)), (.istore_n 2, (0, 0, 0, 0)), (.aload_n 1, (0, 0, 0, 0)), (.getfield 301, (6, 17, 0, 0)), (.istore_n 3, (0, 0, 0, 0))], (.nop, (0, 0, 0, 0)), [1]),
  (64, [(.iload_n 3, (0, 0, 0, 0)), (.iload_n 2, (0, 0, 0, 0))], (.if_icmp .ge 25, (0, 0, 0, 0)), [3, 2]),
  (69, [(.aload_n 0, (0, 0, 0, 0)), (.aload_n 1, (0, 0, 0, 0)), (.iload_n 3, (0, 0, 0, 0)), (.invokevirtual 423, (194, 2, 9, 0)), (.aload_n 1, (0, 0, 0, 0)), (.dup, (0, 0, 0, 0)), (.getfield 301, (6, 17, 0, 0)), (.iconst 1, (0, 0, 0, 0)), (.iadd, (0, 0, 0, 0)), (.putfield 301, (6, 17, 0, 0)), (.iinc 3 1, (0, 0, 0, 0))], (.goto (-24), (0, 0, 0, 0)), [1]),
  (91, [], (.return_, (0, 0, 0, 0)), [])]
/-- 200: TwinVaults.sendProgress(LTwinVaults$Store;I)V -/
def bt_X9_sendProgress : List bi_K := [(0, [(.new 213, (2, 9, 0, 0)), (.dup, (0, 0, 0, 0)), (.aload_n 1, (0, 0, 0, 0)), (.iload_n 2, (0, 0, 0, 0)), (.aload_n 1, (0, 0, 0, 0)), (.getfield 304, (6, 3, 1, 0)), (.getfield 422, (5, 0, 0, 0)), (.aload_n 1, (0, 0, 0, 0)), (.getfield 304, (6, 3, 1, 0)), (.getfield 313, (5, 1, 0, 0)), (.invokespecial 400, (96, 4, 2, 0)), (.astore_n 3, (0, 0, 0, 0)), (.aload_n 3, (0, 0, 0, 0)), (.aload_n 1, (0, 0, 0, 0)), (.getfield 304, (6, 3, 1, 0)), (.getfield 308, (5, 4, 0, 0)), (.putfield 227, (2, 5, 0, 0)), (.aload_n 0, (0, 0, 0, 0)), (.getfield 53, (9, 6, 1, 0)), (.aload_n 3, (0, 0, 0, 0)), (.invokevirtual 403, (4, 1, 0, 0))], (.return_, (0, 0, 0, 0)), [])]
/-- 201: TwinVaults.snap(III)I -/
def bt_X9_snap : List bi_K := [(0, [(.aload_n 0, (0, 0, 0, 0)), (.iload_n 1, (0, 0, 0, 0)), (.invokevirtual 68, (206, 1, 9, 0)), (.astore 4, (0, 0, 0, 0)), (.aload 4, (0, 0, 0, 0))], (.ifnull 24, (0, 0, 0, 0)), [4, 1]),
  (12, [(.aload 4, (0, 0, 0, 0)), (.getfield 72, (6, 2, 1, 0)), (.iload_n 2, (0, 0, 0, 0)), (.invokevirtual 258, (130, 1, 7, 0))], (.ifCond .eq 12, (0, 0, 0, 0)), [4, 2]),
  (24, [(.iload_n 3, (0, 0, 0, 0))], (.ifCond .lt 8, (0, 0, 0, 0)), [4, 3]),
  (28, [(.iload_n 3, (0, 0, 0, 0)), (.iconst 1, (0, 0, 0, 0))], (.if_icmp .le 6, (0, 0, 0, 0)), [5, 4]),
  (33, [(.bipush (-2), (0, 0, 0, 0))], (.ireturn, (0, 0, 0, 0)), []),
  (36, [(.iload_n 3, (0, 0, 0, 0))], (.ifCond .ne 16, (0, 0, 0, 0)), [7, 6]),
  (40, [(.aload 4, (0, 0, 0, 0)), (.getfield 72, (6, 2, 1, 0)), (.getfield 329, (7, 7, 1, 0)), (.iload_n 2, (0, 0, 0, 0)), (.iaload, (0, 0, 0, 0))], (.goto 12, (0, 0, 0, 0)), [8]),
  (53, [(.aload 4, (0, 0, 0, 0)), (.getfield 72, (6, 2, 1, 0)), (.iload_n 2, (0, 0, 0, 0)), (.invokevirtual 277, (137, 1, 7, 0))], (.nop, (0, 0, 0, 0)), [8]),
  (62, [], (.ireturn, (0, 0, 0, 0)), [])]
/-- 202: TwinVaults.snapshot(I)I -/
def bt_X9_snapshot : List bi_K := [(0, [(.aload_n 0, (0, 0, 0, 0)), (.iload_n 1, (0, 0, 0, 0)), (.invokevirtual 68, (206, 1, 9, 0)), (.astore_n 2, (0, 0, 0, 0)), (.aload_n 2, (0, 0, 0, 0)), (.iconst 1, (0, 0, 0, 0)), (.invokestatic 112, (192, 2, 0, 0)), (.istore_n 3, (0, 0, 0, 0)), (.iload_n 3, (0, 0, 0, 0))], (.ifCond .eq 5, (0, 0, 0, 0)), [2, 1]),
  (16, [(.iload_n 3, (0, 0, 0, 0))], (.ireturn, (0, 0, 0, 0)), []),
  (18, [(.aload_n 2, (0, 0, 0, 0)), (.getfield 72, (6, 2, 1, 0)), (.invokevirtual 116, (141, 0, 7, 0))], (.ifCond .eq 5, (0, 0, 0, 0)), [4, 3]),
  (28, [(.iconst 0, (0, 0, 0, 0))], (.ireturn, (0, 0, 0, 0)), []),
  (30, [(.aload_n 2, (0, 0, 0, 0)), (.getfield 120, (6, 8, 0, 0)), (.sipush 4095, (0, 0, 0, 0))], (.if_icmp .lt 6, (0, 0, 0, 0)), [6, 5]),
  (40, [(.bipush (-5), (0, 0, 0, 0))], (.ireturn, (0, 0, 0, 0)), []),
  (43, [(.aload_n 0, (0, 0, 0, 0)), (.aload_n 2, (0, 0, 0, 0)), (.invokevirtual 123, (210, 1, 9, 0))], (.ifCond .eq 13, (0, 0, 0, 0)), [8, 7]),
  (51, [(.aload_n 2, (0, 0, 0, 0)), (.getfield 72, (6, 2, 1, 0)), (.invokevirtual 126, (134, 0, 7, 0))], (.goto 5, (0, 0, 0, 0)), [9]),
  (61, [(.bipush (-3), (0, 0, 0, 0))], (.nop, (0, 0, 0, 0)), [9]),
  (63, [], (.ireturn, (0, 0, 0, 0)), [])]
/-- 203: TwinVaults.spotOf(II)I -/
def bt_X9_spotOf : List bi_K := [(0, [(.sipush 4096, (0, 0, 0, 0)), (.iload_n 0, (0, 0, 0, 0)), (.imul, (0, 0, 0, 0)), (.iload_n 1, (0, 0, 0, 0)), (.iadd, (0, 0, 0, 0))], (.ireturn, (0, 0, 0, 0)), [])]
/-- 204: TwinVaults.state(II)I -/
def bt_X9_state : List bi_K := [(0, [(.aload_n 0, (0, 0, 0, 0)), (.iload_n 1, (0, 0, 0, 0)), (.invokevirtual 68, (206, 1, 9, 0)), (.astore_n 3, (0, 0, 0, 0)), (.aload_n 3, (0, 0, 0, 0))], (.ifnonnull 6, (0, 0, 0, 0)), [2, 1]),
  (10, [(.bipush (-2), (0, 0, 0, 0))], (.ireturn, (0, 0, 0, 0)), []),
  (13, [(.iload_n 2, (0, 0, 0, 0))], (.tableswitch 301 0 24 #[114, 119, 124, 140, 156, 172, 180, 188, 193, 198, 203, 208, 213, 218, 223, 228, 233, 238, 251, 259, 267, 275, 283, 291, 296], (0, 0, 0, 0)), [31, 3, 4, 5, 6, 7, 8, 9, 10, 11, 12, 13, 14, 15, 16, 17, 18, 19, 20, 24, 25, 26, 27, 28, 29, 30]),
  (128, [(.aload_n 3, (0, 0, 0, 0)), (.getfield 132, (6, 6, 0, 0))], (.ireturn, (0, 0, 0, 0)), []),
  (133, [(.aload_n 3, (0, 0, 0, 0)), (.getfield 166, (6, 7, 0, 0))], (.ireturn, (0, 0, 0, 0)), []),
  (138, [(.aload_n 0, (0, 0, 0, 0)), (.getfield 46, (9, 5, 1, 0)), (.getfield 283, (8, 5, 1, 0)), (.aload_n 3, (0, 0, 0, 0)), (.getfield 72, (6, 2, 1, 0)), (.getfield 286, (7, 4, 0, 0)), (.iaload, (0, 0, 0, 0))], (.ireturn, (0, 0, 0, 0)), []),
  (154, [(.aload_n 0, (0, 0, 0, 0)), (.getfield 46, (9, 5, 1, 0)), (.getfield 283, (8, 5, 1, 0)), (.aload_n 3, (0, 0, 0, 0)), (.getfield 72, (6, 2, 1, 0)), (.getfield 289, (7, 5, 0, 0)), (.iaload, (0, 0, 0, 0))], (.ireturn, (0, 0, 0, 0)), []),
  (170, [(.aload_n 0, (0, 0, 0, 0)), (.getfield 46, (9, 5, 1, 0)), (.getfield 283, (8, 5, 1, 0)), (.aload_n 3, (0, 0, 0, 0)), (.getfield 72, (6, 2, 1, 0)), (.getfield 292, (7, 6, 0, 0)), (.iaload, (0, 0, 0, 0))], (.ireturn, (0, 0, 0, 0)), []),
  (186, [(.aload_n 3, (0, 0, 0, 0)), (.getfield 72, (6, 2, 1, 0)), (.getfield 295, (7, 9, 0, 0))], (.ireturn, (0, 0, 0, 0)), []),
  (194, [(.aload_n 3, (0, 0, 0, 0)), (.getfield 72, (6, 2, 1, 0)), (.invokevirtual 126, (134, 0, 7, 0))], (.ireturn, (0, 0, 0, 0)), []),
  (202, [(.aload_n 3, (0, 0, 0, 0)), (.getfield 148, (6, 9, 0, 0))], (.ireturn, (0, 0, 0, 0)), []),
  (207, [(.aload_n 3, (0, 0, 0, 0)), (.getfield 151, (6, 10, 0, 0))], (.ireturn, (0, 0, 0, 0)), []),
  (212, [(.aload_n 3, (0, 0, 0, 0)), (.getfield 142, (6, 11, 0, 0))], (.ireturn, (0, 0, 0, 0)), []),
  (217, [(.aload_n 3, (0, 0, 0, 0)), (.getfield 145, (6, 12, 0, 0))], (.ireturn, (0, 0, 0, 0)), []),
  (222, [(.aload_n 3, (0, 0, 0, 0)), (.getfield 135, (6, 13, 0, 0))], (.ireturn, (0, 0, 0, 0)), []),
  (227, [(.aload_n 3, (0, 0, 0, 0)), (.getfield 154, (6, 14, 0, 0))], (.ireturn, (0, 0, 0, 0)), []),
  (232, [(.aload_n 3, (0, 0, 0, 0)), (.getfield 157, (6, 15, 0, 0))], (.ireturn, (0, 0, 0, 0)), []),
  (237, [(.aload_n 3, (0, 0, 0, 0)), (.getfield 298, (6, 16, 0, 0))], (.ireturn, (0, 0, 0, 0)), []),
  (242, [(.aload_n 3, (0, 0, 0, 0)), (.getfield 301, (6, 17, 0, 0))], (.ireturn, (0, 0, 0, 0)), []),
  (247, [(.aload_n 3, (0, 0, 0, 0)), (.getfield 160, (6, 18, 0, 0))], (.ireturn, (0, 0, 0, 0)), []),
  (252, [(.aload_n 3, (0, 0, 0, 0)), (.getfield 163, (6, 19, 2, 0))], (.ifCond .eq 7, (0, 0, 0, 0)), [22, 21]),
  (259, [(.iconst 1, (0, 0, 0, 0))], (.goto 4, (0, 0, 0, 0)), [23]),
  (263, [(.iconst 0, (0, 0, 0, 0))], (.nop, (0, 0, 0, 0)), [23]),
  (264, [], (.ireturn, (0, 0, 0, 0)), []),
  (265, [(.aload_n 3, (0, 0, 0, 0)), (.getfield 304, (6, 3, 1, 0)), (.getfield 308, (5, 4, 0, 0))], (.ireturn, (0, 0, 0, 0)), []),
  (273, [(.aload_n 3, (0, 0, 0, 0)), (.getfield 304, (6, 3, 1, 0)), (.getfield 311, (5, 5, 0, 0))], (.ireturn, (0, 0, 0, 0)), []),
  (281, [(.aload_n 3, (0, 0, 0, 0)), (.getfield 304, (6, 3, 1, 0)), (.getfield 313, (5, 1, 0, 0))], (.ireturn, (0, 0, 0, 0)), []),
  (289, [(.aload_n 3, (0, 0, 0, 0)), (.getfield 304, (6, 3, 1, 0)), (.getfield 316, (5, 6, 0, 0))], (.ireturn, (0, 0, 0, 0)), []),
  (297, [(.aload_n 3, (0, 0, 0, 0)), (.getfield 319, (6, 5, 1, 0)), (.getfield 323, (3, 3, 0, 0))], (.ireturn, (0, 0, 0, 0)), []),
  (305, [(.aload_n 3, (0, 0, 0, 0)), (.invokevirtual 326, (114, 0, 6, 0))], (.ireturn, (0, 0, 0, 0)), []),
  (310, [(.aload_n 3, (0, 0, 0, 0)), (.getfield 120, (6, 8, 0, 0))], (.ireturn, (0, 0, 0, 0)), []),
  (315, [(.bipush (-2), (0, 0, 0, 0))], (.ireturn, (0, 0, 0, 0)), [])]
/-- 205: TwinVaults.stay(I)I -/
def bt_X9_stay : List bi_K := [(0, [(.aload_n 0, (0, 0, 0, 0)), (.iload_n 1, (0, 0, 0, 0)), (.invokevirtual 68, (206, 1, 9, 0)), (.astore_n 2, (0, 0, 0, 0)), (.aload_n 2, (0, 0, 0, 0)), (.iconst 2, (0, 0, 0, 0)), (.invokestatic 112, (192, 2, 0, 0)), (.istore_n 3, (0, 0, 0, 0)), (.iload_n 3, (0, 0, 0, 0))], (.ifCond .eq 5, (0, 0, 0, 0)), [2, 1]),
  (16, [(.iload_n 3, (0, 0, 0, 0))], (.ireturn, (0, 0, 0, 0)), []),
  (18, [(.aload_n 2, (0, 0, 0, 0)), (.getfield 135, (6, 13, 0, 0))], (.ifCond .eq 6, (0, 0, 0, 0)), [4, 3]),
  (25, [(.bipush (-4), (0, 0, 0, 0))], (.ireturn, (0, 0, 0, 0)), []),
  (28, [(.aload_n 2, (0, 0, 0, 0)), (.getfield 91, (6, 1, 1, 0)), (.invokevirtual 129, (103, 0, 4, 0))], (.ifCond .ne 6, (0, 0, 0, 0)), [6, 5]),
  (38, [(.bipush (-3), (0, 0, 0, 0))], (.ireturn, (0, 0, 0, 0)), []),
  (41, [(.aload_n 2, (0, 0, 0, 0)), (.iconst 1, (0, 0, 0, 0)), (.putfield 132, (6, 6, 0, 0)), (.iconst 0, (0, 0, 0, 0))], (.ireturn, (0, 0, 0, 0)), [])]
/-- 206: TwinVaults.storeOf(I)LTwinVaults$Store; -/
def bt_X9_storeOf : List bi_K := [(0, [(.iload_n 1, (0, 0, 0, 0))], (.ifCond .lt 9, (0, 0, 0, 0)), [2, 1]),
  (4, [(.iload_n 1, (0, 0, 0, 0)), (.bipush 8, (0, 0, 0, 0))], (.if_icmp .lt 7, (0, 0, 0, 0)), [3, 2]),
  (10, [(.aconst_null, (0, 0, 0, 0))], (.goto 9, (0, 0, 0, 0)), [4]),
  (14, [(.aload_n 0, (0, 0, 0, 0)), (.getfield 39, (9, 4, 1, 0)), (.iload_n 1, (0, 0, 0, 0)), (.aaload, (0, 0, 0, 0))], (.nop, (0, 0, 0, 0)), [4]),
  (20, [], (.areturn, (0, 0, 0, 0)), [])]
/-- 207: TwinVaults.sum(II)I -/
def bt_X9_sum : List bi_K := [(0, [(.aload_n 0, (0, 0, 0, 0)), (.iload_n 1, (0, 0, 0, 0)), (.invokevirtual 68, (206, 1, 9, 0)), (.astore_n 3, (0, 0, 0, 0)), (.aload_n 3, (0, 0, 0, 0))], (.ifnull 15, (0, 0, 0, 0)), [2, 1]),
  (10, [(.aload_n 3, (0, 0, 0, 0)), (.getfield 72, (6, 2, 1, 0)), (.iload_n 2, (0, 0, 0, 0)), (.iconst 0, (0, 0, 0, 0)), (.invokevirtual 76, (129, 2, 7, 0))], (.ifCond .ne 14, (0, 0, 0, 0)), [3, 2]),
  (22, [], (.athrow, (0, 236, 267, 240)), []),
  (33, [(.aload_n 3, (0, 0, 0, 0)), (.getfield 91, (6, 1, 1, 0)), (.getfield 95, (4, 1, 2, 0))], (.ifCond .ne 13, (0, 0, 0, 0)), [5, 4]),
  (43, [], (.athrow, (1, 249, 251, 253)), []),
  (53, [(.iload_n 2, (0, 0, 0, 0)), (.iconst 0, (0, 0, 0, 0)), (.invokestatic 80, (203, 2, 0, 0)), (.istore 4, (0, 0, 0, 0)), (.iconst 0, (0, 0, 0, 0)), (.istore 5, (0, 0, 0, 0)), (.iconst 0, (0, 0, 0, 0)), (.istore 6, (0, 0, 0, 0))], (.nop, (0, 0, 0, 0)), [6]),
  (66, [(.iload 6, (0, 0, 0, 0)), (.aload_n 3, (0, 0, 0, 0)), (.getfield 72, (6, 2, 1, 0)), (.getfield 269, (7, 2, 0, 0))], (.if_icmp .ge 29, (0, 0, 0, 0)), [8, 7]),
  (78, [(.bipush 31, (0, 0, 0, 0)), (.iload 5, (0, 0, 0, 0)), (.imul, (0, 0, 0, 0)), (.aload_n 3, (0, 0, 0, 0)), (.getfield 72, (6, 2, 1, 0)), (.iload 4, (0, 0, 0, 0)), (.iload 6, (0, 0, 0, 0)), (.iadd, (0, 0, 0, 0)), (.invokevirtual 254, (142, 1, 7, 0)), (.iadd, (0, 0, 0, 0)), (.istore 5, (0, 0, 0, 0)), (.iinc 6 1, (0, 0, 0, 0))], (.goto (-35), (0, 0, 0, 0)), [6]),
  (104, [(.iload 5, (0, 0, 0, 0))], (.ireturn, (0, 0, 0, 0)), [])]
/-- 208: TwinVaults.tick()I -/
def bt_X9_tick : List bi_K := [(0, [(.aload_n 0, (0, 0, 0, 0)), (.dup, (0, 0, 0, 0)), (.getfield 185, (9, 8, 0, 0)), (.iconst 1, (0, 0, 0, 0)), (.iadd, (0, 0, 0, 0)), (.putfield 185, (9, 8, 0, 0)), (.iconst 0, (0, 0, 0, 0)), (.istore_n 1, (0, 0, 0, 0))], (.nop, (0, 0, 0, 0)), [1]),
  (12, [(.iload_n 1, (0, 0, 0, 0)), (.bipush 8, (0, 0, 0, 0))], (.if_icmp .ge 34, (0, 0, 0, 0)), [6, 2]),
  (18, [(.aload_n 0, (0, 0, 0, 0)), (.iload_n 1, (0, 0, 0, 0)), (.invokevirtual 68, (206, 1, 9, 0)), (.astore_n 2, (0, 0, 0, 0)), (.aload_n 2, (0, 0, 0, 0))], (.ifnull 18, (0, 0, 0, 0)), [5, 3]),
  (28, [(.aload_n 2, (0, 0, 0, 0)), (.getfield 91, (6, 1, 1, 0)), (.getfield 95, (4, 1, 2, 0))], (.ifCond .eq 8, (0, 0, 0, 0)), [5, 4]),
  (38, [(.aload_n 0, (0, 0, 0, 0)), (.aload_n 2, (0, 0, 0, 0)), (.invokevirtual 188, (209, 1, 9, 0))], (.nop, (0, 0, 0, 0)), [5]),
  (43, [(.iinc 1 1, (0, 0, 0, 0))], (.goto (-34), (0, 0, 0, 0)), [1]),
  (49, [(.aload_n 0, (0, 0, 0, 0)), (.getfield 185, (9, 8, 0, 0))], (.ireturn, (0, 0, 0, 0)), [])]
/-- 209: TwinVaults.tickOf(LTwinVaults$Store;)V -/
def bt_X9_tickOf : List bi_K := [(0, [(.aload_n 1, (0, 0, 0, 0)), (.getfield 132, (6, 6, 0, 0)), (.iconst 1, (0, 0, 0, 0))], (.if_icmp .ne 51, (0, 0, 0, 0)), [7, 1]),
  (8, [(.aload_n 0, (0, 0, 0, 0)), (.getfield 182, (9, 9, 0, 0))], (.ifCond .le 44, (0, 0, 0, 0)), [7, 2]),
  (15, [(.aload_n 0, (0, 0, 0, 0)), (.getfield 185, (9, 8, 0, 0)), (.aload_n 0, (0, 0, 0, 0)), (.getfield 182, (9, 9, 0, 0)), (.irem, (0, 0, 0, 0))], (.ifCond .ne 32, (0, 0, 0, 0)), [7, 3]),
  (27, [(.aload_n 1, (0, 0, 0, 0)), (.getfield 72, (6, 2, 1, 0)), (.invokevirtual 116, (141, 0, 7, 0))], (.ifCond .ne 22, (0, 0, 0, 0)), [7, 4]),
  (37, [(.aload_n 1, (0, 0, 0, 0)), (.getfield 120, (6, 8, 0, 0)), (.sipush 4095, (0, 0, 0, 0))], (.if_icmp .ge 12, (0, 0, 0, 0)), [7, 5]),
  (47, [(.aload_n 0, (0, 0, 0, 0)), (.aload_n 1, (0, 0, 0, 0)), (.invokevirtual 123, (210, 1, 9, 0))], (.ifCond .ne 4, (0, 0, 0, 0)), [7, 6]),
  (55, [], (.return_, (0, 0, 0, 0)), []),
  (56, [(.aload_n 1, (0, 0, 0, 0)), (.invokevirtual 382, (119, 0, 6, 0))], (.ifCond .eq 11, (0, 0, 0, 0)), [9, 8]),
  (63, [(.aload_n 0, (0, 0, 0, 0)), (.aload_n 1, (0, 0, 0, 0)), (.invokevirtual 385, (195, 1, 9, 0))], (.goto 30, (0, 0, 0, 0)), [13]),
  (71, [(.aload_n 1, (0, 0, 0, 0)), (.getfield 132, (6, 6, 0, 0)), (.iconst 3, (0, 0, 0, 0))], (.if_icmp .ne 22, (0, 0, 0, 0)), [13, 10]),
  (79, [(.aload_n 1, (0, 0, 0, 0)), (.getfield 163, (6, 19, 2, 0))], (.ifCond .eq 15, (0, 0, 0, 0)), [13, 11]),
  (86, [(.aload_n 1, (0, 0, 0, 0)), (.invokevirtual 388, (123, 0, 6, 0))], (.ifCond .eq 8, (0, 0, 0, 0)), [13, 12]),
  (93, [(.aload_n 0, (0, 0, 0, 0)), (.aload_n 1, (0, 0, 0, 0)), (.invokevirtual 178, (197, 1, 9, 0))], (.nop, (0, 0, 0, 0)), [13]),
  (98, [], (.return_, (0, 0, 0, 0)), [])]
/-- 210: TwinVaults.tookSnapshot(LTwinVaults$Store;)Z -/
def bt_X9_tookSnapshot : List bi_K := [(0, [(.aload_n 0, (0, 0, 0, 0)), (.aload_n 1, (0, 0, 0, 0)), (.invokevirtual 109, (160, 1, 9, 0))], (.ifCond .eq 13, (0, 0, 0, 0)), [2, 1]),
  (8, [(.aload_n 1, (0, 0, 0, 0)), (.getfield 91, (6, 1, 1, 0)), (.invokevirtual 129, (103, 0, 4, 0))], (.ifCond .ne 5, (0, 0, 0, 0)), [3, 2]),
  (18, [(.iconst 0, (0, 0, 0, 0))], (.ireturn, (1, 0, 0, 0)), []),
  (20, [(.aload_n 1, (0, 0, 0, 0)), (.dup, (0, 0, 0, 0)), (.getfield 120, (6, 8, 0, 0)), (.iconst 1, (0, 0, 0, 0)), (.iadd, (0, 0, 0, 0)), (.putfield 120, (6, 8, 0, 0)), (.aload_n 1, (0, 0, 0, 0)), (.getfield 72, (6, 2, 1, 0)), (.sipush 4096, (0, 0, 0, 0)), (.aload_n 1, (0, 0, 0, 0)), (.getfield 166, (6, 7, 0, 0)), (.imul, (0, 0, 0, 0)), (.aload_n 1, (0, 0, 0, 0)), (.getfield 120, (6, 8, 0, 0)), (.iadd, (0, 0, 0, 0)), (.invokevirtual 376, (149, 1, 7, 0)), (.aload_n 1, (0, 0, 0, 0)), (.aload_n 0, (0, 0, 0, 0)), (.getfield 22, (9, 1, 0, 0)), (.invokevirtual 379, (122, 1, 6, 0)), (.iconst 1, (0, 0, 0, 0))], (.ireturn, (1, 0, 0, 0)), [])]
/-- 211: TwinVaults.total(I)I -/
def bt_X9_total : List bi_K := [(0, [(.iload_n 1, (0, 0, 0, 0))], (.tableswitch 183 0 23 #[111, 116, 121, 129, 137, 145, 183, 183, 183, 183, 153, 153, 153, 153, 183, 183, 183, 183, 183, 183, 168, 168, 168, 168], (0, 0, 0, 0)), [9, 1, 2, 3, 4, 5, 6, 9, 9, 9, 9, 7, 7, 7, 7, 9, 9, 9, 9, 9, 9, 8, 8, 8, 8]),
  (112, [(.aload_n 0, (0, 0, 0, 0)), (.getfield 185, (9, 8, 0, 0))], (.ireturn, (0, 0, 0, 0)), []),
  (117, [(.aload_n 0, (0, 0, 0, 0)), (.getfield 57, (9, 7, 0, 0))], (.ireturn, (0, 0, 0, 0)), []),
  (122, [(.aload_n 0, (0, 0, 0, 0)), (.getfield 46, (9, 5, 1, 0)), (.getfield 340, (8, 0, 0, 0))], (.ireturn, (0, 0, 0, 0)), []),
  (130, [(.aload_n 0, (0, 0, 0, 0)), (.getfield 53, (9, 6, 1, 0)), (.getfield 343, (0, 1, 0, 0))], (.ireturn, (0, 0, 0, 0)), []),
  (138, [(.aload_n 0, (0, 0, 0, 0)), (.getfield 53, (9, 6, 1, 0)), (.getfield 344, (0, 2, 0, 0))], (.ireturn, (0, 0, 0, 0)), []),
  (146, [(.aload_n 0, (0, 0, 0, 0)), (.getfield 53, (9, 6, 1, 0)), (.getfield 347, (0, 3, 0, 0))], (.ireturn, (0, 0, 0, 0)), []),
  (154, [(.aload_n 0, (0, 0, 0, 0)), (.aload_n 0, (0, 0, 0, 0)), (.getfield 30, (9, 3, 1, 0)), (.iconst 0, (0, 0, 0, 0)), (.aaload, (0, 0, 0, 0)), (.iload_n 1, (0, 0, 0, 0)), (.bipush 10, (0, 0, 0, 0)), (.isub, (0, 0, 0, 0)), (.invokevirtual 350, (212, 2, 9, 0))], (.ireturn, (0, 0, 0, 0)), []),
  (169, [(.aload_n 0, (0, 0, 0, 0)), (.aload_n 0, (0, 0, 0, 0)), (.getfield 30, (9, 3, 1, 0)), (.iconst 1, (0, 0, 0, 0)), (.aaload, (0, 0, 0, 0)), (.iload_n 1, (0, 0, 0, 0)), (.bipush 20, (0, 0, 0, 0)), (.isub, (0, 0, 0, 0)), (.invokevirtual 350, (212, 2, 9, 0))], (.ireturn, (0, 0, 0, 0)), []),
  (184, [(.iconst (-1), (0, 0, 0, 0))], (.ireturn, (0, 0, 0, 0)), [])]
/-- 212: TwinVaults.totalOf(LTwinVaults$Site;I)I -/
def bt_X9_totalOf : List bi_K := [(0, [(.iload_n 2, (0, 0, 0, 0))], (.tableswitch 51 0 2 #[27, 40, 45], (0, 0, 0, 0)), [7, 1, 5, 6]),
  (28, [(.aload_n 1, (0, 0, 0, 0)), (.getfield 95, (4, 1, 2, 0))], (.ifCond .eq 7, (0, 0, 0, 0)), [3, 2]),
  (35, [(.iconst 1, (0, 0, 0, 0))], (.goto 4, (0, 0, 0, 0)), [4]),
  (39, [(.iconst 0, (0, 0, 0, 0))], (.nop, (0, 0, 0, 0)), [4]),
  (40, [], (.ireturn, (0, 0, 0, 0)), []),
  (41, [(.aload_n 1, (0, 0, 0, 0)), (.getfield 106, (4, 2, 0, 0))], (.ireturn, (0, 0, 0, 0)), []),
  (46, [(.aload_n 0, (0, 0, 0, 0)), (.aload_n 1, (0, 0, 0, 0)), (.invokevirtual 354, (168, 1, 9, 0))], (.ireturn, (0, 0, 0, 0)), []),
  (52, [(.aload_n 1, (0, 0, 0, 0)), (.getfield 192, (4, 3, 0, 0))], (.ireturn, (0, 0, 0, 0)), [])]
/-- 213: TwinVaults.up(I)I -/
def bt_X9_up : List bi_K := [(0, [(.iload_n 1, (0, 0, 0, 0))], (.ifCond .lt 8, (0, 0, 0, 0)), [2, 1]),
  (4, [(.iload_n 1, (0, 0, 0, 0)), (.iconst 1, (0, 0, 0, 0))], (.if_icmp .le 6, (0, 0, 0, 0)), [3, 2]),
  (9, [(.bipush (-2), (0, 0, 0, 0))], (.ireturn, (0, 0, 0, 0)), []),
  (12, [(.aload_n 0, (0, 0, 0, 0)), (.getfield 30, (9, 3, 1, 0)), (.iload_n 1, (0, 0, 0, 0)), (.aaload, (0, 0, 0, 0)), (.getfield 95, (4, 1, 2, 0))], (.ifCond .eq 5, (0, 0, 0, 0)), [5, 4]),
  (24, [(.iconst (-1), (0, 0, 0, 0))], (.ireturn, (0, 0, 0, 0)), []),
  (26, [(.aload_n 0, (0, 0, 0, 0)), (.getfield 30, (9, 3, 1, 0)), (.iload_n 1, (0, 0, 0, 0)), (.aaload, (0, 0, 0, 0)), (.iconst 1, (0, 0, 0, 0)), (.putfield 95, (4, 1, 2, 0)), (.iconst 0, (0, 0, 0, 0)), (.istore_n 2, (0, 0, 0, 0)), (.iconst 0, (0, 0, 0, 0)), (.istore_n 3, (0, 0, 0, 0))], (.nop, (0, 0, 0, 0)), [6]),
  (40, [(.iload_n 3, (0, 0, 0, 0)), (.iconst 4, (0, 0, 0, 0))], (.if_icmp .ge 33, (0, 0, 0, 0)), [10, 7]),
  (45, [(.aload_n 0, (0, 0, 0, 0)), (.iconst 4, (0, 0, 0, 0)), (.iload_n 1, (0, 0, 0, 0)), (.imul, (0, 0, 0, 0)), (.iload_n 3, (0, 0, 0, 0)), (.iadd, (0, 0, 0, 0)), (.invokevirtual 68, (206, 1, 9, 0)), (.astore 4, (0, 0, 0, 0)), (.aload 4, (0, 0, 0, 0))], (.ifnull 11, (0, 0, 0, 0)), [9, 8]),
  (61, [(.iload_n 2, (0, 0, 0, 0)), (.aload 4, (0, 0, 0, 0)), (.invokevirtual 198, (124, 0, 6, 0)), (.iadd, (0, 0, 0, 0)), (.istore_n 2, (0, 0, 0, 0))], (.nop, (0, 0, 0, 0)), [9]),
  (69, [(.iinc 3 1, (0, 0, 0, 0))], (.goto (-32), (0, 0, 0, 0)), [6]),
  (75, [(.iload_n 2, (0, 0, 0, 0))], (.ireturn, (0, 0, 0, 0)), [])]
/-- 214: TwinVaults.write(IIII)I -/
def bt_X9_write : List bi_K := [(0, [(.aload_n 0, (0, 0, 0, 0)), (.iload_n 1, (0, 0, 0, 0)), (.invokevirtual 68, (206, 1, 9, 0)), (.astore 5, (0, 0, 0, 0)), (.aload 5, (0, 0, 0, 0))], (.ifnull 16, (0, 0, 0, 0)), [2, 1]),
  (12, [(.aload 5, (0, 0, 0, 0)), (.getfield 72, (6, 2, 1, 0)), (.iload_n 2, (0, 0, 0, 0)), (.iload_n 3, (0, 0, 0, 0)), (.invokevirtual 76, (129, 2, 7, 0))], (.ifCond .ne 6, (0, 0, 0, 0)), [3, 2]),
  (25, [(.bipush (-2), (0, 0, 0, 0))], (.ireturn, (0, 0, 0, 0)), []),
  (28, [(.aload_n 0, (0, 0, 0, 0)), (.aload 5, (0, 0, 0, 0)), (.iload_n 2, (0, 0, 0, 0)), (.iload_n 3, (0, 0, 0, 0)), (.invokestatic 80, (203, 2, 0, 0)), (.iload 4, (0, 0, 0, 0)), (.invokevirtual 83, (215, 3, 9, 0)), (.istore 6, (0, 0, 0, 0)), (.iload 6, (0, 0, 0, 0))], (.ifCond .ne 14, (0, 0, 0, 0)), [5, 4]),
  (48, [(.aload 5, (0, 0, 0, 0)), (.getfield 72, (6, 2, 1, 0)), (.invokevirtual 87, (144, 0, 7, 0))], (.goto 5, (0, 0, 0, 0)), [6]),
  (59, [(.iload 6, (0, 0, 0, 0))], (.nop, (0, 0, 0, 0)), [6]),
  (61, [], (.ireturn, (0, 0, 0, 0)), [])]
/-- 215: TwinVaults.writeOne(LTwinVaults$Store;II)I -/
def bt_X9_writeOne : List bi_K := [(0, [(.aload_n 1, (0, 0, 0, 0)), (.iconst 1, (0, 0, 0, 0)), (.invokestatic 112, (192, 2, 0, 0)), (.istore 4, (0, 0, 0, 0)), (.iload 4, (0, 0, 0, 0))], (.ifCond .eq 6, (0, 0, 0, 0)), [2, 1]),
  (12, [(.iload 4, (0, 0, 0, 0))], (.ireturn, (0, 0, 0, 0)), []),
  (15, [(.aload_n 0, (0, 0, 0, 0)), (.getfield 46, (9, 5, 1, 0)), (.getfield 340, (8, 0, 0, 0)), (.ldc_w 361, (60000, 0, 0, 0))], (.if_icmp .lt 6, (0, 0, 0, 0)), [4, 3]),
  (28, [(.bipush (-5), (0, 0, 0, 0))], (.ireturn, (0, 0, 0, 0)), []),
  (31, [(.aload_n 1, (0, 0, 0, 0)), (.getfield 72, (6, 2, 1, 0)), (.invokevirtual 87, (144, 0, 7, 0)), (.bipush 64, (0, 0, 0, 0))], (.if_icmp .lt 14, (0, 0, 0, 0)), [7, 5]),
  (43, [(.aload_n 0, (0, 0, 0, 0)), (.aload_n 1, (0, 0, 0, 0)), (.invokevirtual 99, (166, 1, 9, 0))], (.ifCond .ne 6, (0, 0, 0, 0)), [7, 6]),
  (51, [(.bipush (-3), (0, 0, 0, 0))], (.ireturn, (0, 0, 0, 0)), []),
  (54, [(.aload_n 0, (0, 0, 0, 0)), (.aload_n 1, (0, 0, 0, 0)), (.getfield 91, (6, 1, 1, 0)), (.invokevirtual 354, (168, 1, 9, 0)), (.iconst 1, (0, 0, 0, 0))], (.if_icmp .ge 6, (0, 0, 0, 0)), [9, 8]),
  (66, [(.bipush (-6), (0, 0, 0, 0))], (.ireturn, (0, 0, 0, 0)), []),
  (69, [(.aload_n 1, (0, 0, 0, 0)), (.getfield 72, (6, 2, 1, 0)), (.iload_n 2, (0, 0, 0, 0)), (.iload_n 3, (0, 0, 0, 0)), (.invokevirtual 362, (145, 2, 7, 0)), (.iconst 0, (0, 0, 0, 0))], (.ireturn, (0, 0, 0, 0)), [])]
/-- 216: TwinVaultsLaw.cell([II)I -/
def bt_L_cell : List bi_K := [(0, [(.iload_n 1, (0, 0, 0, 0)), (.aload_n 0, (0, 0, 0, 0)), (.arraylength, (0, 0, 0, 0))], (.if_icmp .ge 9, (0, 0, 0, 0)), [2, 1]),
  (6, [(.aload_n 0, (0, 0, 0, 0)), (.iload_n 1, (0, 0, 0, 0)), (.iaload, (0, 0, 0, 0))], (.goto 4, (0, 0, 0, 0)), [3]),
  (12, [(.iconst 0, (0, 0, 0, 0))], (.nop, (0, 0, 0, 0)), [3]),
  (13, [], (.ireturn, (0, 0, 0, 0)), [])]
/-- 217: TwinVaultsLaw.differ(LTwinVaults;III[J)I -/
def bt_L_differ : List bi_K := [(0, [(.aload 4, (0, 0, 0, 0)), (.iconst 0, (0, 0, 0, 0)), (.aload_n 0, (0, 0, 0, 0)), (.iload_n 1, (0, 0, 0, 0)), (.iload_n 2, (0, 0, 0, 0)), (.iload_n 3, (0, 0, 0, 0))], (.invokevirtual 28, (163, 3, 9, 5)), [1, 2, 3]),
  (10, [(.i2l, (0, 0, 0, 0)), (.lastore, (0, 0, 0, 0))], (.goto 11, (0, 0, 0, 0)), [4]),
  (17, [(.iconst 1, (0, 0, 0, 0))], (.ireturn, (0, 0, 0, 0)), []),
  (21, [(.iconst 2, (0, 0, 0, 0))], (.ireturn, (0, 0, 0, 0)), []),
  (23, [(.iconst 0, (0, 0, 0, 0))], (.ireturn, (0, 0, 0, 0)), [])]
/-- 218: TwinVaultsLaw.item(LTwinVaults;III[J)I -/
def bt_L_item : List bi_K := [(0, [(.aload 4, (0, 0, 0, 0)), (.iconst 0, (0, 0, 0, 0)), (.aload_n 0, (0, 0, 0, 0)), (.iload_n 1, (0, 0, 0, 0)), (.iload_n 2, (0, 0, 0, 0)), (.iload_n 3, (0, 0, 0, 0))], (.invokevirtual 7, (172, 3, 9, 5)), [1, 2]),
  (10, [(.i2l, (0, 0, 0, 0)), (.lastore, (0, 0, 0, 0))], (.goto 7, (0, 0, 0, 0)), [3]),
  (17, [(.iconst 1, (0, 0, 0, 0))], (.ireturn, (0, 0, 0, 0)), []),
  (19, [(.iconst 0, (0, 0, 0, 0))], (.ireturn, (0, 0, 0, 0)), [])]
/-- 219: TwinVaultsLaw.lost(LTwinVaults;III[J)I -/
def bt_L_lost : List bi_K := [(0, [(.aload 4, (0, 0, 0, 0)), (.iconst 0, (0, 0, 0, 0)), (.aload_n 0, (0, 0, 0, 0)), (.iload_n 1, (0, 0, 0, 0)), (.iload_n 2, (0, 0, 0, 0)), (.iload_n 3, (0, 0, 0, 0))], (.invokevirtual 31, (174, 3, 9, 5)), [1, 2]),
  (10, [(.i2l, (0, 0, 0, 0)), (.lastore, (0, 0, 0, 0))], (.goto 7, (0, 0, 0, 0)), [3]),
  (17, [(.iconst 1, (0, 0, 0, 0))], (.ireturn, (0, 0, 0, 0)), []),
  (19, [(.iconst 0, (0, 0, 0, 0))], (.ireturn, (0, 0, 0, 0)), [])]
/-- 220: TwinVaultsLaw.old(LTwinVaults;IIII[J)I -/
def bt_L_old : List bi_K := [(0, [(.aload 5, (0, 0, 0, 0)), (.iconst 0, (0, 0, 0, 0)), (.aload_n 0, (0, 0, 0, 0)), (.iload_n 1, (0, 0, 0, 0)), (.iload_n 2, (0, 0, 0, 0)), (.iload_n 3, (0, 0, 0, 0)), (.iload 4, (0, 0, 0, 0))], (.invokevirtual 20, (177, 4, 9, 6)), [1, 2, 3]),
  (12, [(.i2l, (0, 0, 0, 0)), (.lastore, (0, 0, 0, 0))], (.goto 11, (0, 0, 0, 0)), [4]),
  (19, [(.iconst 1, (0, 0, 0, 0))], (.ireturn, (0, 0, 0, 0)), []),
  (23, [(.iconst 2, (0, 0, 0, 0))], (.ireturn, (0, 0, 0, 0)), []),
  (25, [(.iconst 0, (0, 0, 0, 0))], (.ireturn, (0, 0, 0, 0)), [])]
/-- 221: TwinVaultsLaw.read(LTwinVaults;III[J)I -/
def bt_L_read : List bi_K := [(0, [(.aload 4, (0, 0, 0, 0)), (.iconst 0, (0, 0, 0, 0)), (.aload_n 0, (0, 0, 0, 0)), (.iload_n 1, (0, 0, 0, 0)), (.iload_n 2, (0, 0, 0, 0)), (.iload_n 3, (0, 0, 0, 0))], (.invokevirtual 15, (190, 3, 9, 5)), [1, 2, 3]),
  (10, [(.i2l, (0, 0, 0, 0)), (.lastore, (0, 0, 0, 0))], (.goto 11, (0, 0, 0, 0)), [4]),
  (17, [(.iconst 1, (0, 0, 0, 0))], (.ireturn, (0, 0, 0, 0)), []),
  (21, [(.iconst 2, (0, 0, 0, 0))], (.ireturn, (0, 0, 0, 0)), []),
  (23, [(.iconst 0, (0, 0, 0, 0))], (.ireturn, (0, 0, 0, 0)), [])]
/-- 222: TwinVaultsLaw.sum(LTwinVaults;II[J)I -/
def bt_L_sum : List bi_K := [(0, [(.aload_n 3, (0, 0, 0, 0)), (.iconst 0, (0, 0, 0, 0)), (.aload_n 0, (0, 0, 0, 0)), (.iload_n 1, (0, 0, 0, 0)), (.iload_n 2, (0, 0, 0, 0))], (.invokevirtual 24, (207, 2, 9, 4)), [1, 2, 3]),
  (8, [(.i2l, (0, 0, 0, 0)), (.lastore, (0, 0, 0, 0))], (.goto 11, (0, 0, 0, 0)), [4]),
  (15, [(.iconst 1, (0, 0, 0, 0))], (.ireturn, (0, 0, 0, 0)), []),
  (19, [(.iconst 2, (0, 0, 0, 0))], (.ireturn, (0, 0, 0, 0)), []),
  (21, [(.iconst 0, (0, 0, 0, 0))], (.ireturn, (0, 0, 0, 0)), [])]
/-- 223: TwinVaultsLaw.law([I)Z -/
def bt_L_law : List bi_K := [(0, [(.new 8, (9, 10, 0, 0)), (.dup, (0, 0, 0, 0)), (.aload_n 0, (0, 0, 0, 0)), (.iconst 0, (0, 0, 0, 0)), (.invokestatic 34, (216, 2, 0, 0)), (.aload_n 0, (0, 0, 0, 0)), (.iconst 1, (0, 0, 0, 0)), (.invokestatic 34, (216, 2, 0, 0)), (.aload_n 0, (0, 0, 0, 0)), (.iconst 2, (0, 0, 0, 0)), (.invokestatic 34, (216, 2, 0, 0)), (.invokespecial 40, (171, 3, 9, 0)), (.astore_n 1, (0, 0, 0, 0)), (.new 43, (12, 39, 0, 0)), (.dup, (0, 0, 0, 0)), (.aload_n 0, (0, 0, 0, 0)), (.iconst 0, (0, 0, 0, 0)), (.invokestatic 34, (216, 2, 0, 0)), (.aload_n 0, (0, 0, 0, 0)), (.iconst 1, (0, 0, 0, 0)), (.invokestatic 34, (216, 2, 0, 0)), (.aload_n 0, (0, 0, 0, 0)), (.iconst 2, (0, 0, 0, 0)), (.invokestatic 34, (216, 2, 0, 0)), (.invokespecial 45, (49, 3, 12, 0)), (.astore_n 2, (0, 0, 0, 0)), (.iconst 1, (0, 0, 0, 0)), (.newarray .long, (0, 0, 0, 0)), (.astore_n 3, (0, 0, 0, 0)), (.iconst 3, (0, 0, 0, 0)), (.istore 4, (0, 0, 0, 0))], (.nop, (0, 0, 0, 0)), [1]),
  (53, [(.iload 4, (0, 0, 0, 0)), (.aload_n 0, (0, 0, 0, 0)), (.arraylength, (0, 0, 0, 0)), (.bipush 6, (0, 0, 0, 0)), (.isub, (0, 0, 0, 0))], (.if_icmp .gt 1270, (0, 0, 0, 0)), [80, 2]),
  (63, [(.aload_n 0, (0, 0, 0, 0)), (.iload 4, (0, 0, 0, 0)), (.iaload, (0, 0, 0, 0)), (.bipush 31, (0, 0, 0, 0)), (.iand, (0, 0, 0, 0))], (.tableswitch 1254 0 25 #[118, 155, 216, 289, 314, 339, 364, 389, 414, 439, 464, 489, 502, 539, 564, 589, 626, 663, 743, 823, 915, 983, 1063, 1100, 1149, 1229], (0, 0, 0, 0)), [79, 3, 5, 7, 9, 11, 13, 15, 17, 19, 21, 23, 25, 27, 29, 31, 33, 35, 37, 43, 49, 55, 61, 67, 69, 71, 77]),
  (188, [(.aload_n 1, (0, 0, 0, 0)), (.aload_n 0, (0, 0, 0, 0)), (.iload 4, (0, 0, 0, 0)), (.iconst 1, (0, 0, 0, 0)), (.iadd, (0, 0, 0, 0)), (.iaload, (0, 0, 0, 0)), (.aload_n 0, (0, 0, 0, 0)), (.iload 4, (0, 0, 0, 0)), (.iconst 2, (0, 0, 0, 0)), (.iadd, (0, 0, 0, 0)), (.iaload, (0, 0, 0, 0)), (.invokevirtual 46, (169, 2, 9, 0)), (.aload_n 2, (0, 0, 0, 0)), (.aload_n 0, (0, 0, 0, 0)), (.iload 4, (0, 0, 0, 0)), (.iconst 1, (0, 0, 0, 0)), (.iadd, (0, 0, 0, 0)), (.iaload, (0, 0, 0, 0)), (.aload_n 0, (0, 0, 0, 0)), (.iload 4, (0, 0, 0, 0)), (.iconst 2, (0, 0, 0, 0)), (.iadd, (0, 0, 0, 0)), (.iaload, (0, 0, 0, 0)), (.invokevirtual 49, (47, 2, 12, 0))], (.if_icmp .eq 1104, (0, 0, 0, 0)), [79, 4]),
  (223, [(.iconst 0, (0, 0, 0, 0))], (.ireturn, (1, 0, 0, 0)), []),
  (225, [(.aload_n 1, (0, 0, 0, 0)), (.aload_n 0, (0, 0, 0, 0)), (.iload 4, (0, 0, 0, 0)), (.iconst 1, (0, 0, 0, 0)), (.iadd, (0, 0, 0, 0)), (.iaload, (0, 0, 0, 0)), (.aload_n 0, (0, 0, 0, 0)), (.iload 4, (0, 0, 0, 0)), (.iconst 2, (0, 0, 0, 0)), (.iadd, (0, 0, 0, 0)), (.iaload, (0, 0, 0, 0)), (.aload_n 0, (0, 0, 0, 0)), (.iload 4, (0, 0, 0, 0)), (.iconst 3, (0, 0, 0, 0)), (.iadd, (0, 0, 0, 0)), (.iaload, (0, 0, 0, 0)), (.aload_n 0, (0, 0, 0, 0)), (.iload 4, (0, 0, 0, 0)), (.iconst 4, (0, 0, 0, 0)), (.iadd, (0, 0, 0, 0)), (.iaload, (0, 0, 0, 0)), (.invokevirtual 50, (214, 4, 9, 0)), (.aload_n 2, (0, 0, 0, 0)), (.aload_n 0, (0, 0, 0, 0)), (.iload 4, (0, 0, 0, 0)), (.iconst 1, (0, 0, 0, 0)), (.iadd, (0, 0, 0, 0)), (.iaload, (0, 0, 0, 0)), (.aload_n 0, (0, 0, 0, 0)), (.iload 4, (0, 0, 0, 0)), (.iconst 2, (0, 0, 0, 0)), (.iadd, (0, 0, 0, 0)), (.iaload, (0, 0, 0, 0)), (.aload_n 0, (0, 0, 0, 0)), (.iload 4, (0, 0, 0, 0)), (.iconst 3, (0, 0, 0, 0)), (.iadd, (0, 0, 0, 0)), (.iaload, (0, 0, 0, 0)), (.aload_n 0, (0, 0, 0, 0)), (.iload 4, (0, 0, 0, 0)), (.iconst 4, (0, 0, 0, 0)), (.iadd, (0, 0, 0, 0)), (.iaload, (0, 0, 0, 0)), (.invokevirtual 53, (91, 4, 12, 0))], (.if_icmp .eq 1043, (0, 0, 0, 0)), [79, 6]),
  (284, [(.iconst 0, (0, 0, 0, 0))], (.ireturn, (1, 0, 0, 0)), []),
  (286, [(.aload_n 1, (0, 0, 0, 0)), (.aload_n 0, (0, 0, 0, 0)), (.iload 4, (0, 0, 0, 0)), (.iconst 1, (0, 0, 0, 0)), (.iadd, (0, 0, 0, 0)), (.iaload, (0, 0, 0, 0)), (.aload_n 0, (0, 0, 0, 0)), (.iload 4, (0, 0, 0, 0)), (.iconst 2, (0, 0, 0, 0)), (.iadd, (0, 0, 0, 0)), (.iaload, (0, 0, 0, 0)), (.aload_n 0, (0, 0, 0, 0)), (.iload 4, (0, 0, 0, 0)), (.iconst 3, (0, 0, 0, 0)), (.iadd, (0, 0, 0, 0)), (.iaload, (0, 0, 0, 0)), (.aload_n 0, (0, 0, 0, 0)), (.iload 4, (0, 0, 0, 0)), (.iconst 4, (0, 0, 0, 0)), (.iadd, (0, 0, 0, 0)), (.iaload, (0, 0, 0, 0)), (.aload_n 0, (0, 0, 0, 0)), (.iload 4, (0, 0, 0, 0)), (.iconst 5, (0, 0, 0, 0)), (.iadd, (0, 0, 0, 0)), (.iaload, (0, 0, 0, 0)), (.invokevirtual 54, (164, 5, 9, 0)), (.aload_n 2, (0, 0, 0, 0)), (.aload_n 0, (0, 0, 0, 0)), (.iload 4, (0, 0, 0, 0)), (.iconst 1, (0, 0, 0, 0)), (.iadd, (0, 0, 0, 0)), (.iaload, (0, 0, 0, 0)), (.aload_n 0, (0, 0, 0, 0)), (.iload 4, (0, 0, 0, 0)), (.iconst 2, (0, 0, 0, 0)), (.iadd, (0, 0, 0, 0)), (.iaload, (0, 0, 0, 0)), (.aload_n 0, (0, 0, 0, 0)), (.iload 4, (0, 0, 0, 0)), (.iconst 3, (0, 0, 0, 0)), (.iadd, (0, 0, 0, 0)), (.iaload, (0, 0, 0, 0)), (.aload_n 0, (0, 0, 0, 0)), (.iload 4, (0, 0, 0, 0)), (.iconst 4, (0, 0, 0, 0)), (.iadd, (0, 0, 0, 0)), (.iaload, (0, 0, 0, 0)), (.aload_n 0, (0, 0, 0, 0)), (.iload 4, (0, 0, 0, 0)), (.iconst 5, (0, 0, 0, 0)), (.iadd, (0, 0, 0, 0)), (.iaload, (0, 0, 0, 0)), (.invokevirtual 58, (36, 5, 12, 0))], (.if_icmp .eq 970, (0, 0, 0, 0)), [79, 8]),
  (357, [(.iconst 0, (0, 0, 0, 0))], (.ireturn, (1, 0, 0, 0)), []),
  (359, [(.aload_n 1, (0, 0, 0, 0)), (.aload_n 0, (0, 0, 0, 0)), (.iload 4, (0, 0, 0, 0)), (.iconst 1, (0, 0, 0, 0)), (.iadd, (0, 0, 0, 0)), (.iaload, (0, 0, 0, 0)), (.invokevirtual 59, (165, 1, 9, 0)), (.aload_n 2, (0, 0, 0, 0)), (.aload_n 0, (0, 0, 0, 0)), (.iload 4, (0, 0, 0, 0)), (.iconst 1, (0, 0, 0, 0)), (.iadd, (0, 0, 0, 0)), (.iaload, (0, 0, 0, 0)), (.invokevirtual 63, (38, 1, 12, 0))], (.if_icmp .eq 945, (0, 0, 0, 0)), [79, 10]),
  (382, [(.iconst 0, (0, 0, 0, 0))], (.ireturn, (1, 0, 0, 0)), []),
  (384, [(.aload_n 1, (0, 0, 0, 0)), (.aload_n 0, (0, 0, 0, 0)), (.iload 4, (0, 0, 0, 0)), (.iconst 1, (0, 0, 0, 0)), (.iadd, (0, 0, 0, 0)), (.iaload, (0, 0, 0, 0)), (.invokevirtual 64, (159, 1, 9, 0)), (.aload_n 2, (0, 0, 0, 0)), (.aload_n 0, (0, 0, 0, 0)), (.iload 4, (0, 0, 0, 0)), (.iconst 1, (0, 0, 0, 0)), (.iadd, (0, 0, 0, 0)), (.iaload, (0, 0, 0, 0)), (.invokevirtual 67, (27, 1, 12, 0))], (.if_icmp .eq 920, (0, 0, 0, 0)), [79, 12]),
  (407, [(.iconst 0, (0, 0, 0, 0))], (.ireturn, (1, 0, 0, 0)), []),
  (409, [(.aload_n 1, (0, 0, 0, 0)), (.aload_n 0, (0, 0, 0, 0)), (.iload 4, (0, 0, 0, 0)), (.iconst 1, (0, 0, 0, 0)), (.iadd, (0, 0, 0, 0)), (.iaload, (0, 0, 0, 0)), (.invokevirtual 68, (202, 1, 9, 0)), (.aload_n 2, (0, 0, 0, 0)), (.aload_n 0, (0, 0, 0, 0)), (.iload 4, (0, 0, 0, 0)), (.iconst 1, (0, 0, 0, 0)), (.iadd, (0, 0, 0, 0)), (.iaload, (0, 0, 0, 0)), (.invokevirtual 71, (77, 1, 12, 0))], (.if_icmp .eq 895, (0, 0, 0, 0)), [79, 14]),
  (432, [(.iconst 0, (0, 0, 0, 0))], (.ireturn, (1, 0, 0, 0)), []),
  (434, [(.aload_n 1, (0, 0, 0, 0)), (.aload_n 0, (0, 0, 0, 0)), (.iload 4, (0, 0, 0, 0)), (.iconst 1, (0, 0, 0, 0)), (.iadd, (0, 0, 0, 0)), (.iaload, (0, 0, 0, 0)), (.invokevirtual 72, (173, 1, 9, 0)), (.aload_n 2, (0, 0, 0, 0)), (.aload_n 0, (0, 0, 0, 0)), (.iload 4, (0, 0, 0, 0)), (.iconst 1, (0, 0, 0, 0)), (.iadd, (0, 0, 0, 0)), (.iaload, (0, 0, 0, 0)), (.invokevirtual 75, (56, 1, 12, 0))], (.if_icmp .eq 870, (0, 0, 0, 0)), [79, 16]),
  (457, [(.iconst 0, (0, 0, 0, 0))], (.ireturn, (1, 0, 0, 0)), []),
  (459, [(.aload_n 1, (0, 0, 0, 0)), (.aload_n 0, (0, 0, 0, 0)), (.iload 4, (0, 0, 0, 0)), (.iconst 1, (0, 0, 0, 0)), (.iadd, (0, 0, 0, 0)), (.iaload, (0, 0, 0, 0)), (.invokevirtual 76, (205, 1, 9, 0)), (.aload_n 2, (0, 0, 0, 0)), (.aload_n 0, (0, 0, 0, 0)), (.iload 4, (0, 0, 0, 0)), (.iconst 1, (0, 0, 0, 0)), (.iadd, (0, 0, 0, 0)), (.iaload, (0, 0, 0, 0)), (.invokevirtual 79, (83, 1, 12, 0))], (.if_icmp .eq 845, (0, 0, 0, 0)), [79, 18]),
  (482, [(.iconst 0, (0, 0, 0, 0))], (.ireturn, (1, 0, 0, 0)), []),
  (484, [(.aload_n 1, (0, 0, 0, 0)), (.aload_n 0, (0, 0, 0, 0)), (.iload 4, (0, 0, 0, 0)), (.iconst 1, (0, 0, 0, 0)), (.iadd, (0, 0, 0, 0)), (.iaload, (0, 0, 0, 0)), (.invokevirtual 80, (167, 1, 9, 0)), (.aload_n 2, (0, 0, 0, 0)), (.aload_n 0, (0, 0, 0, 0)), (.iload 4, (0, 0, 0, 0)), (.iconst 1, (0, 0, 0, 0)), (.iadd, (0, 0, 0, 0)), (.iaload, (0, 0, 0, 0)), (.invokevirtual 83, (41, 1, 12, 0))], (.if_icmp .eq 820, (0, 0, 0, 0)), [79, 20]),
  (507, [(.iconst 0, (0, 0, 0, 0))], (.ireturn, (1, 0, 0, 0)), []),
  (509, [(.aload_n 1, (0, 0, 0, 0)), (.aload_n 0, (0, 0, 0, 0)), (.iload 4, (0, 0, 0, 0)), (.iconst 1, (0, 0, 0, 0)), (.iadd, (0, 0, 0, 0)), (.iaload, (0, 0, 0, 0)), (.invokevirtual 84, (158, 1, 9, 0)), (.aload_n 2, (0, 0, 0, 0)), (.aload_n 0, (0, 0, 0, 0)), (.iload 4, (0, 0, 0, 0)), (.iconst 1, (0, 0, 0, 0)), (.iadd, (0, 0, 0, 0)), (.iaload, (0, 0, 0, 0)), (.invokevirtual 87, (25, 1, 12, 0))], (.if_icmp .eq 795, (0, 0, 0, 0)), [79, 22]),
  (532, [(.iconst 0, (0, 0, 0, 0))], (.ireturn, (1, 0, 0, 0)), []),
  (534, [(.aload_n 1, (0, 0, 0, 0)), (.aload_n 0, (0, 0, 0, 0)), (.iload 4, (0, 0, 0, 0)), (.iconst 1, (0, 0, 0, 0)), (.iadd, (0, 0, 0, 0)), (.iaload, (0, 0, 0, 0)), (.invokevirtual 88, (188, 1, 9, 0)), (.aload_n 2, (0, 0, 0, 0)), (.aload_n 0, (0, 0, 0, 0)), (.iload 4, (0, 0, 0, 0)), (.iconst 1, (0, 0, 0, 0)), (.iadd, (0, 0, 0, 0)), (.iaload, (0, 0, 0, 0)), (.invokevirtual 92, (69, 1, 12, 0))], (.if_icmp .eq 770, (0, 0, 0, 0)), [79, 24]),
  (557, [(.iconst 0, (0, 0, 0, 0))], (.ireturn, (1, 0, 0, 0)), []),
  (559, [(.aload_n 1, (0, 0, 0, 0)), (.invokevirtual 93, (208, 0, 9, 0)), (.aload_n 2, (0, 0, 0, 0)), (.invokevirtual 97, (87, 0, 12, 0))], (.if_icmp .eq 757, (0, 0, 0, 0)), [79, 26]),
  (570, [(.iconst 0, (0, 0, 0, 0))], (.ireturn, (1, 0, 0, 0)), []),
  (572, [(.aload_n 1, (0, 0, 0, 0)), (.aload_n 0, (0, 0, 0, 0)), (.iload 4, (0, 0, 0, 0)), (.iconst 1, (0, 0, 0, 0)), (.iadd, (0, 0, 0, 0)), (.iaload, (0, 0, 0, 0)), (.aload_n 0, (0, 0, 0, 0)), (.iload 4, (0, 0, 0, 0)), (.iconst 2, (0, 0, 0, 0)), (.iadd, (0, 0, 0, 0)), (.iaload, (0, 0, 0, 0)), (.invokevirtual 98, (189, 2, 9, 0)), (.aload_n 2, (0, 0, 0, 0)), (.aload_n 0, (0, 0, 0, 0)), (.iload 4, (0, 0, 0, 0)), (.iconst 1, (0, 0, 0, 0)), (.iadd, (0, 0, 0, 0)), (.iaload, (0, 0, 0, 0)), (.aload_n 0, (0, 0, 0, 0)), (.iload 4, (0, 0, 0, 0)), (.iconst 2, (0, 0, 0, 0)), (.iadd, (0, 0, 0, 0)), (.iaload, (0, 0, 0, 0)), (.invokevirtual 102, (71, 2, 12, 0))], (.if_icmp .eq 720, (0, 0, 0, 0)), [79, 28]),
  (607, [(.iconst 0, (0, 0, 0, 0))], (.ireturn, (1, 0, 0, 0)), []),
  (609, [(.aload_n 1, (0, 0, 0, 0)), (.aload_n 0, (0, 0, 0, 0)), (.iload 4, (0, 0, 0, 0)), (.iconst 1, (0, 0, 0, 0)), (.iadd, (0, 0, 0, 0)), (.iaload, (0, 0, 0, 0)), (.invokevirtual 103, (162, 1, 9, 0)), (.aload_n 2, (0, 0, 0, 0)), (.aload_n 0, (0, 0, 0, 0)), (.iload 4, (0, 0, 0, 0)), (.iconst 1, (0, 0, 0, 0)), (.iadd, (0, 0, 0, 0)), (.iaload, (0, 0, 0, 0)), (.invokevirtual 106, (30, 1, 12, 0))], (.if_icmp .eq 695, (0, 0, 0, 0)), [79, 30]),
  (632, [(.iconst 0, (0, 0, 0, 0))], (.ireturn, (1, 0, 0, 0)), []),
  (634, [(.aload_n 1, (0, 0, 0, 0)), (.aload_n 0, (0, 0, 0, 0)), (.iload 4, (0, 0, 0, 0)), (.iconst 1, (0, 0, 0, 0)), (.iadd, (0, 0, 0, 0)), (.iaload, (0, 0, 0, 0)), (.invokevirtual 107, (213, 1, 9, 0)), (.aload_n 2, (0, 0, 0, 0)), (.aload_n 0, (0, 0, 0, 0)), (.iload 4, (0, 0, 0, 0)), (.iconst 1, (0, 0, 0, 0)), (.iadd, (0, 0, 0, 0)), (.iaload, (0, 0, 0, 0)), (.invokevirtual 110, (90, 1, 12, 0))], (.if_icmp .eq 670, (0, 0, 0, 0)), [79, 32]),
  (657, [(.iconst 0, (0, 0, 0, 0))], (.ireturn, (1, 0, 0, 0)), []),
  (659, [(.aload_n 1, (0, 0, 0, 0)), (.aload_n 0, (0, 0, 0, 0)), (.iload 4, (0, 0, 0, 0)), (.iconst 1, (0, 0, 0, 0)), (.iadd, (0, 0, 0, 0)), (.iaload, (0, 0, 0, 0)), (.aload_n 0, (0, 0, 0, 0)), (.iload 4, (0, 0, 0, 0)), (.iconst 2, (0, 0, 0, 0)), (.iadd, (0, 0, 0, 0)), (.iaload, (0, 0, 0, 0)), (.invokevirtual 111, (187, 2, 9, 0)), (.aload_n 2, (0, 0, 0, 0)), (.aload_n 0, (0, 0, 0, 0)), (.iload 4, (0, 0, 0, 0)), (.iconst 1, (0, 0, 0, 0)), (.iadd, (0, 0, 0, 0)), (.iaload, (0, 0, 0, 0)), (.aload_n 0, (0, 0, 0, 0)), (.iload 4, (0, 0, 0, 0)), (.iconst 2, (0, 0, 0, 0)), (.iadd, (0, 0, 0, 0)), (.iaload, (0, 0, 0, 0)), (.invokevirtual 114, (67, 2, 12, 0))], (.if_icmp .eq 633, (0, 0, 0, 0)), [79, 34]),
  (694, [(.iconst 0, (0, 0, 0, 0))], (.ireturn, (1, 0, 0, 0)), []),
  (696, [(.aload_n 1, (0, 0, 0, 0)), (.aload_n 0, (0, 0, 0, 0)), (.iload 4, (0, 0, 0, 0)), (.iconst 1, (0, 0, 0, 0)), (.iadd, (0, 0, 0, 0)), (.iaload, (0, 0, 0, 0)), (.aload_n 0, (0, 0, 0, 0)), (.iload 4, (0, 0, 0, 0)), (.iconst 2, (0, 0, 0, 0)), (.iadd, (0, 0, 0, 0)), (.iaload, (0, 0, 0, 0)), (.invokevirtual 115, (175, 2, 9, 0)), (.aload_n 2, (0, 0, 0, 0)), (.aload_n 0, (0, 0, 0, 0)), (.iload 4, (0, 0, 0, 0)), (.iconst 1, (0, 0, 0, 0)), (.iadd, (0, 0, 0, 0)), (.iaload, (0, 0, 0, 0)), (.aload_n 0, (0, 0, 0, 0)), (.iload 4, (0, 0, 0, 0)), (.iconst 2, (0, 0, 0, 0)), (.iadd, (0, 0, 0, 0)), (.iaload, (0, 0, 0, 0)), (.invokevirtual 118, (59, 2, 12, 0))], (.if_icmp .eq 596, (0, 0, 0, 0)), [79, 36]),
  (731, [(.iconst 0, (0, 0, 0, 0))], (.ireturn, (1, 0, 0, 0)), []),
  (733, [(.aload_n 1, (0, 0, 0, 0)), (.aload_n 0, (0, 0, 0, 0)), (.iload 4, (0, 0, 0, 0)), (.iconst 1, (0, 0, 0, 0)), (.iadd, (0, 0, 0, 0)), (.iaload, (0, 0, 0, 0)), (.aload_n 0, (0, 0, 0, 0)), (.iload 4, (0, 0, 0, 0)), (.iconst 2, (0, 0, 0, 0)), (.iadd, (0, 0, 0, 0)), (.iaload, (0, 0, 0, 0)), (.aload_n 0, (0, 0, 0, 0)), (.iload 4, (0, 0, 0, 0)), (.iconst 3, (0, 0, 0, 0)), (.iadd, (0, 0, 0, 0)), (.iaload, (0, 0, 0, 0)), (.aload_n 3, (0, 0, 0, 0)), (.invokestatic 119, (218, 5, 0, 0)), (.istore 5, (0, 0, 0, 0)), (.aload_n 2, (0, 0, 0, 0)), (.aload_n 0, (0, 0, 0, 0)), (.iload 4, (0, 0, 0, 0)), (.iconst 1, (0, 0, 0, 0)), (.iadd, (0, 0, 0, 0)), (.iaload, (0, 0, 0, 0)), (.aload_n 0, (0, 0, 0, 0)), (.iload 4, (0, 0, 0, 0)), (.iconst 2, (0, 0, 0, 0)), (.iadd, (0, 0, 0, 0)), (.iaload, (0, 0, 0, 0)), (.aload_n 0, (0, 0, 0, 0)), (.iload 4, (0, 0, 0, 0)), (.iconst 3, (0, 0, 0, 0)), (.iadd, (0, 0, 0, 0)), (.iaload, (0, 0, 0, 0)), (.invokevirtual 122, (53, 3, 12, 0)), (.istore 6, (0, 0, 0, 0)), (.aload_n 2, (0, 0, 0, 0)), (.invokevirtual 123, (86, 0, 12, 0)), (.iload 5, (0, 0, 0, 0))], (.if_icmp .eq 5, (0, 0, 0, 0)), [39, 38]),
  (791, [(.iconst 0, (0, 0, 0, 0))], (.ireturn, (1, 0, 0, 0)), []),
  (793, [(.iload 5, (0, 0, 0, 0))], (.ifCond .ne 15, (0, 0, 0, 0)), [42, 40]),
  (798, [(.aload_n 3, (0, 0, 0, 0)), (.iconst 0, (0, 0, 0, 0)), (.laload, (0, 0, 0, 0)), (.iload 6, (0, 0, 0, 0)), (.i2l, (0, 0, 0, 0)), (.lcmp, (0, 0, 0, 0))], (.ifCond .eq 5, (0, 0, 0, 0)), [42, 41]),
  (808, [(.iconst 0, (0, 0, 0, 0))], (.ireturn, (1, 0, 0, 0)), []),
  (810, [], (.goto 514, (0, 0, 0, 0)), [79]),
  (813, [(.aload_n 1, (0, 0, 0, 0)), (.aload_n 0, (0, 0, 0, 0)), (.iload 4, (0, 0, 0, 0)), (.iconst 1, (0, 0, 0, 0)), (.iadd, (0, 0, 0, 0)), (.iaload, (0, 0, 0, 0)), (.aload_n 0, (0, 0, 0, 0)), (.iload 4, (0, 0, 0, 0)), (.iconst 2, (0, 0, 0, 0)), (.iadd, (0, 0, 0, 0)), (.iaload, (0, 0, 0, 0)), (.aload_n 0, (0, 0, 0, 0)), (.iload 4, (0, 0, 0, 0)), (.iconst 3, (0, 0, 0, 0)), (.iadd, (0, 0, 0, 0)), (.iaload, (0, 0, 0, 0)), (.aload_n 3, (0, 0, 0, 0)), (.invokestatic 126, (221, 5, 0, 0)), (.istore 5, (0, 0, 0, 0)), (.aload_n 2, (0, 0, 0, 0)), (.aload_n 0, (0, 0, 0, 0)), (.iload 4, (0, 0, 0, 0)), (.iconst 1, (0, 0, 0, 0)), (.iadd, (0, 0, 0, 0)), (.iaload, (0, 0, 0, 0)), (.aload_n 0, (0, 0, 0, 0)), (.iload 4, (0, 0, 0, 0)), (.iconst 2, (0, 0, 0, 0)), (.iadd, (0, 0, 0, 0)), (.iaload, (0, 0, 0, 0)), (.aload_n 0, (0, 0, 0, 0)), (.iload 4, (0, 0, 0, 0)), (.iconst 3, (0, 0, 0, 0)), (.iadd, (0, 0, 0, 0)), (.iaload, (0, 0, 0, 0)), (.invokevirtual 128, (72, 3, 12, 0)), (.istore 6, (0, 0, 0, 0)), (.aload_n 2, (0, 0, 0, 0)), (.invokevirtual 123, (86, 0, 12, 0)), (.iload 5, (0, 0, 0, 0))], (.if_icmp .eq 5, (0, 0, 0, 0)), [45, 44]),
  (871, [(.iconst 0, (0, 0, 0, 0))], (.ireturn, (1, 0, 0, 0)), []),
  (873, [(.iload 5, (0, 0, 0, 0))], (.ifCond .ne 15, (0, 0, 0, 0)), [48, 46]),
  (878, [(.aload_n 3, (0, 0, 0, 0)), (.iconst 0, (0, 0, 0, 0)), (.laload, (0, 0, 0, 0)), (.iload 6, (0, 0, 0, 0)), (.i2l, (0, 0, 0, 0)), (.lcmp, (0, 0, 0, 0))], (.ifCond .eq 5, (0, 0, 0, 0)), [48, 47]),
  (888, [(.iconst 0, (0, 0, 0, 0))], (.ireturn, (1, 0, 0, 0)), []),
  (890, [], (.goto 434, (0, 0, 0, 0)), [79]),
  (893, [(.aload_n 1, (0, 0, 0, 0)), (.aload_n 0, (0, 0, 0, 0)), (.iload 4, (0, 0, 0, 0)), (.iconst 1, (0, 0, 0, 0)), (.iadd, (0, 0, 0, 0)), (.iaload, (0, 0, 0, 0)), (.aload_n 0, (0, 0, 0, 0)), (.iload 4, (0, 0, 0, 0)), (.iconst 2, (0, 0, 0, 0)), (.iadd, (0, 0, 0, 0)), (.iaload, (0, 0, 0, 0)), (.aload_n 0, (0, 0, 0, 0)), (.iload 4, (0, 0, 0, 0)), (.iconst 3, (0, 0, 0, 0)), (.iadd, (0, 0, 0, 0)), (.iaload, (0, 0, 0, 0)), (.aload_n 0, (0, 0, 0, 0)), (.iload 4, (0, 0, 0, 0)), (.iconst 4, (0, 0, 0, 0)), (.iadd, (0, 0, 0, 0)), (.iaload, (0, 0, 0, 0)), (.aload_n 3, (0, 0, 0, 0)), (.invokestatic 129, (220, 6, 0, 0)), (.istore 5, (0, 0, 0, 0)), (.aload_n 2, (0, 0, 0, 0)), (.aload_n 0, (0, 0, 0, 0)), (.iload 4, (0, 0, 0, 0)), (.iconst 1, (0, 0, 0, 0)), (.iadd, (0, 0, 0, 0)), (.iaload, (0, 0, 0, 0)), (.aload_n 0, (0, 0, 0, 0)), (.iload 4, (0, 0, 0, 0)), (.iconst 2, (0, 0, 0, 0)), (.iadd, (0, 0, 0, 0)), (.iaload, (0, 0, 0, 0)), (.aload_n 0, (0, 0, 0, 0)), (.iload 4, (0, 0, 0, 0)), (.iconst 3, (0, 0, 0, 0)), (.iadd, (0, 0, 0, 0)), (.iaload, (0, 0, 0, 0)), (.aload_n 0, (0, 0, 0, 0)), (.iload 4, (0, 0, 0, 0)), (.iconst 4, (0, 0, 0, 0)), (.iadd, (0, 0, 0, 0)), (.iaload, (0, 0, 0, 0)), (.invokevirtual 132, (65, 4, 12, 0)), (.istore 6, (0, 0, 0, 0)), (.aload_n 2, (0, 0, 0, 0)), (.invokevirtual 123, (86, 0, 12, 0)), (.iload 5, (0, 0, 0, 0))], (.if_icmp .eq 5, (0, 0, 0, 0)), [51, 50]),
  (963, [(.iconst 0, (0, 0, 0, 0))], (.ireturn, (1, 0, 0, 0)), []),
  (965, [(.iload 5, (0, 0, 0, 0))], (.ifCond .ne 15, (0, 0, 0, 0)), [54, 52]),
  (970, [(.aload_n 3, (0, 0, 0, 0)), (.iconst 0, (0, 0, 0, 0)), (.laload, (0, 0, 0, 0)), (.iload 6, (0, 0, 0, 0)), (.i2l, (0, 0, 0, 0)), (.lcmp, (0, 0, 0, 0))], (.ifCond .eq 5, (0, 0, 0, 0)), [54, 53]),
  (980, [(.iconst 0, (0, 0, 0, 0))], (.ireturn, (1, 0, 0, 0)), []),
  (982, [], (.goto 342, (0, 0, 0, 0)), [79]),
  (985, [(.aload_n 1, (0, 0, 0, 0)), (.aload_n 0, (0, 0, 0, 0)), (.iload 4, (0, 0, 0, 0)), (.iconst 1, (0, 0, 0, 0)), (.iadd, (0, 0, 0, 0)), (.iaload, (0, 0, 0, 0)), (.aload_n 0, (0, 0, 0, 0)), (.iload 4, (0, 0, 0, 0)), (.iconst 2, (0, 0, 0, 0)), (.iadd, (0, 0, 0, 0)), (.iaload, (0, 0, 0, 0)), (.aload_n 3, (0, 0, 0, 0)), (.invokestatic 133, (222, 4, 0, 0)), (.istore 5, (0, 0, 0, 0)), (.aload_n 2, (0, 0, 0, 0)), (.aload_n 0, (0, 0, 0, 0)), (.iload 4, (0, 0, 0, 0)), (.iconst 1, (0, 0, 0, 0)), (.iadd, (0, 0, 0, 0)), (.iaload, (0, 0, 0, 0)), (.aload_n 0, (0, 0, 0, 0)), (.iload 4, (0, 0, 0, 0)), (.iconst 2, (0, 0, 0, 0)), (.iadd, (0, 0, 0, 0)), (.iaload, (0, 0, 0, 0)), (.invokevirtual 136, (84, 2, 12, 0)), (.istore 6, (0, 0, 0, 0)), (.aload_n 2, (0, 0, 0, 0)), (.invokevirtual 123, (86, 0, 12, 0)), (.iload 5, (0, 0, 0, 0))], (.if_icmp .eq 5, (0, 0, 0, 0)), [57, 56]),
  (1031, [(.iconst 0, (0, 0, 0, 0))], (.ireturn, (1, 0, 0, 0)), []),
  (1033, [(.iload 5, (0, 0, 0, 0))], (.ifCond .ne 15, (0, 0, 0, 0)), [60, 58]),
  (1038, [(.aload_n 3, (0, 0, 0, 0)), (.iconst 0, (0, 0, 0, 0)), (.laload, (0, 0, 0, 0)), (.iload 6, (0, 0, 0, 0)), (.i2l, (0, 0, 0, 0)), (.lcmp, (0, 0, 0, 0))], (.ifCond .eq 5, (0, 0, 0, 0)), [60, 59]),
  (1048, [(.iconst 0, (0, 0, 0, 0))], (.ireturn, (1, 0, 0, 0)), []),
  (1050, [], (.goto 274, (0, 0, 0, 0)), [79]),
  (1053, [(.aload_n 1, (0, 0, 0, 0)), (.aload_n 0, (0, 0, 0, 0)), (.iload 4, (0, 0, 0, 0)), (.iconst 1, (0, 0, 0, 0)), (.iadd, (0, 0, 0, 0)), (.iaload, (0, 0, 0, 0)), (.aload_n 0, (0, 0, 0, 0)), (.iload 4, (0, 0, 0, 0)), (.iconst 2, (0, 0, 0, 0)), (.iadd, (0, 0, 0, 0)), (.iaload, (0, 0, 0, 0)), (.aload_n 0, (0, 0, 0, 0)), (.iload 4, (0, 0, 0, 0)), (.iconst 3, (0, 0, 0, 0)), (.iadd, (0, 0, 0, 0)), (.iaload, (0, 0, 0, 0)), (.aload_n 3, (0, 0, 0, 0)), (.invokestatic 137, (217, 5, 0, 0)), (.istore 5, (0, 0, 0, 0)), (.aload_n 2, (0, 0, 0, 0)), (.aload_n 0, (0, 0, 0, 0)), (.iload 4, (0, 0, 0, 0)), (.iconst 1, (0, 0, 0, 0)), (.iadd, (0, 0, 0, 0)), (.iaload, (0, 0, 0, 0)), (.aload_n 0, (0, 0, 0, 0)), (.iload 4, (0, 0, 0, 0)), (.iconst 2, (0, 0, 0, 0)), (.iadd, (0, 0, 0, 0)), (.iaload, (0, 0, 0, 0)), (.aload_n 0, (0, 0, 0, 0)), (.iload 4, (0, 0, 0, 0)), (.iconst 3, (0, 0, 0, 0)), (.iadd, (0, 0, 0, 0)), (.iaload, (0, 0, 0, 0)), (.invokevirtual 139, (33, 3, 12, 0)), (.istore 6, (0, 0, 0, 0)), (.aload_n 2, (0, 0, 0, 0)), (.invokevirtual 123, (86, 0, 12, 0)), (.iload 5, (0, 0, 0, 0))], (.if_icmp .eq 5, (0, 0, 0, 0)), [63, 62]),
  (1111, [(.iconst 0, (0, 0, 0, 0))], (.ireturn, (1, 0, 0, 0)), []),
  (1113, [(.iload 5, (0, 0, 0, 0))], (.ifCond .ne 15, (0, 0, 0, 0)), [66, 64]),
  (1118, [(.aload_n 3, (0, 0, 0, 0)), (.iconst 0, (0, 0, 0, 0)), (.laload, (0, 0, 0, 0)), (.iload 6, (0, 0, 0, 0)), (.i2l, (0, 0, 0, 0)), (.lcmp, (0, 0, 0, 0))], (.ifCond .eq 5, (0, 0, 0, 0)), [66, 65]),
  (1128, [(.iconst 0, (0, 0, 0, 0))], (.ireturn, (1, 0, 0, 0)), []),
  (1130, [], (.goto 194, (0, 0, 0, 0)), [79]),
  (1133, [(.aload_n 1, (0, 0, 0, 0)), (.aload_n 0, (0, 0, 0, 0)), (.iload 4, (0, 0, 0, 0)), (.iconst 1, (0, 0, 0, 0)), (.iadd, (0, 0, 0, 0)), (.iaload, (0, 0, 0, 0)), (.aload_n 0, (0, 0, 0, 0)), (.iload 4, (0, 0, 0, 0)), (.iconst 2, (0, 0, 0, 0)), (.iadd, (0, 0, 0, 0)), (.iaload, (0, 0, 0, 0)), (.invokevirtual 140, (204, 2, 9, 0)), (.aload_n 2, (0, 0, 0, 0)), (.aload_n 0, (0, 0, 0, 0)), (.iload 4, (0, 0, 0, 0)), (.iconst 1, (0, 0, 0, 0)), (.iadd, (0, 0, 0, 0)), (.iaload, (0, 0, 0, 0)), (.aload_n 0, (0, 0, 0, 0)), (.iload 4, (0, 0, 0, 0)), (.iconst 2, (0, 0, 0, 0)), (.iadd, (0, 0, 0, 0)), (.iaload, (0, 0, 0, 0)), (.invokevirtual 143, (82, 2, 12, 0))], (.if_icmp .eq 159, (0, 0, 0, 0)), [79, 68]),
  (1168, [(.iconst 0, (0, 0, 0, 0))], (.ireturn, (1, 0, 0, 0)), []),
  (1170, [(.aload_n 1, (0, 0, 0, 0)), (.aload_n 0, (0, 0, 0, 0)), (.iload 4, (0, 0, 0, 0)), (.iconst 1, (0, 0, 0, 0)), (.iadd, (0, 0, 0, 0)), (.iaload, (0, 0, 0, 0)), (.aload_n 0, (0, 0, 0, 0)), (.iload 4, (0, 0, 0, 0)), (.iconst 2, (0, 0, 0, 0)), (.iadd, (0, 0, 0, 0)), (.iaload, (0, 0, 0, 0)), (.aload_n 0, (0, 0, 0, 0)), (.iload 4, (0, 0, 0, 0)), (.iconst 3, (0, 0, 0, 0)), (.iadd, (0, 0, 0, 0)), (.iaload, (0, 0, 0, 0)), (.invokevirtual 144, (201, 3, 9, 0)), (.aload_n 2, (0, 0, 0, 0)), (.aload_n 0, (0, 0, 0, 0)), (.iload 4, (0, 0, 0, 0)), (.iconst 1, (0, 0, 0, 0)), (.iadd, (0, 0, 0, 0)), (.iaload, (0, 0, 0, 0)), (.aload_n 0, (0, 0, 0, 0)), (.iload 4, (0, 0, 0, 0)), (.iconst 2, (0, 0, 0, 0)), (.iadd, (0, 0, 0, 0)), (.iaload, (0, 0, 0, 0)), (.aload_n 0, (0, 0, 0, 0)), (.iload 4, (0, 0, 0, 0)), (.iconst 3, (0, 0, 0, 0)), (.iadd, (0, 0, 0, 0)), (.iaload, (0, 0, 0, 0)), (.invokevirtual 147, (76, 3, 12, 0))], (.if_icmp .eq 110, (0, 0, 0, 0)), [79, 70]),
  (1217, [(.iconst 0, (0, 0, 0, 0))], (.ireturn, (1, 0, 0, 0)), []),
  (1219, [(.aload_n 1, (0, 0, 0, 0)), (.aload_n 0, (0, 0, 0, 0)), (.iload 4, (0, 0, 0, 0)), (.iconst 1, (0, 0, 0, 0)), (.iadd, (0, 0, 0, 0)), (.iaload, (0, 0, 0, 0)), (.aload_n 0, (0, 0, 0, 0)), (.iload 4, (0, 0, 0, 0)), (.iconst 2, (0, 0, 0, 0)), (.iadd, (0, 0, 0, 0)), (.iaload, (0, 0, 0, 0)), (.aload_n 0, (0, 0, 0, 0)), (.iload 4, (0, 0, 0, 0)), (.iconst 3, (0, 0, 0, 0)), (.iadd, (0, 0, 0, 0)), (.iaload, (0, 0, 0, 0)), (.aload_n 3, (0, 0, 0, 0)), (.invokestatic 148, (219, 5, 0, 0)), (.istore 5, (0, 0, 0, 0)), (.aload_n 2, (0, 0, 0, 0)), (.aload_n 0, (0, 0, 0, 0)), (.iload 4, (0, 0, 0, 0)), (.iconst 1, (0, 0, 0, 0)), (.iadd, (0, 0, 0, 0)), (.iaload, (0, 0, 0, 0)), (.aload_n 0, (0, 0, 0, 0)), (.iload 4, (0, 0, 0, 0)), (.iconst 2, (0, 0, 0, 0)), (.iadd, (0, 0, 0, 0)), (.iaload, (0, 0, 0, 0)), (.aload_n 0, (0, 0, 0, 0)), (.iload 4, (0, 0, 0, 0)), (.iconst 3, (0, 0, 0, 0)), (.iadd, (0, 0, 0, 0)), (.iaload, (0, 0, 0, 0)), (.invokevirtual 150, (58, 3, 12, 0)), (.istore 6, (0, 0, 0, 0)), (.aload_n 2, (0, 0, 0, 0)), (.invokevirtual 123, (86, 0, 12, 0)), (.iload 5, (0, 0, 0, 0))], (.if_icmp .eq 5, (0, 0, 0, 0)), [73, 72]),
  (1277, [(.iconst 0, (0, 0, 0, 0))], (.ireturn, (1, 0, 0, 0)), []),
  (1279, [(.iload 5, (0, 0, 0, 0))], (.ifCond .ne 15, (0, 0, 0, 0)), [76, 74]),
  (1284, [(.aload_n 3, (0, 0, 0, 0)), (.iconst 0, (0, 0, 0, 0)), (.laload, (0, 0, 0, 0)), (.iload 6, (0, 0, 0, 0)), (.i2l, (0, 0, 0, 0)), (.lcmp, (0, 0, 0, 0))], (.ifCond .eq 5, (0, 0, 0, 0)), [76, 75]),
  (1294, [(.iconst 0, (0, 0, 0, 0))], (.ireturn, (1, 0, 0, 0)), []),
  (1296, [], (.goto 28, (0, 0, 0, 0)), [79]),
  (1299, [(.aload_n 1, (0, 0, 0, 0)), (.aload_n 0, (0, 0, 0, 0)), (.iload 4, (0, 0, 0, 0)), (.iconst 1, (0, 0, 0, 0)), (.iadd, (0, 0, 0, 0)), (.iaload, (0, 0, 0, 0)), (.invokevirtual 151, (211, 1, 9, 0)), (.aload_n 2, (0, 0, 0, 0)), (.aload_n 0, (0, 0, 0, 0)), (.iload 4, (0, 0, 0, 0)), (.iconst 1, (0, 0, 0, 0)), (.iadd, (0, 0, 0, 0)), (.iaload, (0, 0, 0, 0)), (.invokevirtual 154, (89, 1, 12, 0))], (.if_icmp .eq 5, (0, 0, 0, 0)), [79, 78]),
  (1322, [(.iconst 0, (0, 0, 0, 0))], (.ireturn, (1, 0, 0, 0)), []),
  (1324, [(.iinc 4 6, (0, 0, 0, 0))], (.goto (-1274), (0, 0, 0, 0)), [1]),
  (1330, [(.iconst 1, (0, 0, 0, 0))], (.ireturn, (1, 0, 0, 0)), [])]
def bt_all : List (List bi_K) := [bt_J7_copyOf_59c91, bt_J9_floorMod_7cf53, bt_J9_max_7cf53, bt_J9_min_7cf53, bt_X0_add, bt_X0_at, bt_X0_drop, bt_X0_init, bt_X10_init, bt_X11_drop, bt_X11_find, bt_X11_hasAll, bt_X11_init, bt_X11_isPinned, bt_X11_latest, bt_X11_latestLine, bt_X11_snaps, bt_X11_stagesNothing, bt_X11_thins, bt_X12_accepted, bt_X12_acknowledged, bt_X12_act, bt_X12_acts, bt_X12_after, bt_X12_against, bt_X12_back, bt_X12_begins, bt_X12_checkpoint, bt_X12_checks, bt_X12_copies, bt_X12_crash, bt_X12_cut, bt_X12_data, bt_X12_differ, bt_X12_different, bt_X12_fails, bt_X12_fill, bt_X12_flies, bt_X12_flush, bt_X12_flushes, bt_X12_follows, bt_X12_force, bt_X12_free, bt_X12_given, bt_X12_goesBack, bt_X12_goesDown, bt_X12_greeted, bt_X12_group, bt_X12_had, bt_X12_init, bt_X12_isPlace, bt_X12_isSite, bt_X12_isTaken, bt_X12_item, bt_X12_know, bt_X12_lacked, bt_X12_leave, bt_X12_lineOf, bt_X12_lost, bt_X12_message, bt_X12_needs, bt_X12_nodes, bt_X12_of, bt_X12_offered, bt_X12_offers, bt_X12_old, bt_X12_other, bt_X12_pass, bt_X12_path, bt_X12_period, bt_X12_piece, bt_X12_power, bt_X12_read, bt_X12_receive, bt_X12_send, bt_X12_sendsOn, bt_X12_snap, bt_X12_snapshot, bt_X12_span, bt_X12_spanOf, bt_X12_staged, bt_X12_stagesJust, bt_X12_state, bt_X12_stay, bt_X12_sum, bt_X12_takes, bt_X12_thrown, bt_X12_tick, bt_X12_ticks, bt_X12_total, bt_X12_up, bt_X12_write, bt_X12_writes, bt_X1_begin, bt_X1_init, bt_X1_mark, bt_X2_init, bt_X2_itemCount, bt_X3_add, bt_X3_begin, bt_X3_init, bt_X3_sink, bt_X3_sort, bt_X4_act, bt_X4_act_, bt_X4_fail, bt_X4_init, bt_X5_add, bt_X5_begin, bt_X5_clear, bt_X5_hasAll, bt_X5_init, bt_X5_isOf, bt_X6_beginEpoch, bt_X6_blocks, bt_X6_forgetOther, bt_X6_hold, bt_X6_init, bt_X6_isPinned, bt_X6_isSource, bt_X6_learnEpoch, bt_X6_sends, bt_X6_thin, bt_X6_waitedEnough, bt_X6_wake, bt_X7_adopt, bt_X7_advance, bt_X7_drop, bt_X7_find, bt_X7_hasPlace, bt_X7_hasSnapshot, bt_X7_init, bt_X7_journal, bt_X7_keepNow, bt_X7_latest, bt_X7_latestLength, bt_X7_latestLine, bt_X7_lengthOf, bt_X7_lengthOfId, bt_X7_lineOf, bt_X7_losePending, bt_X7_nowIsLatest, bt_X7_numberAt, bt_X7_oldNumberAt, bt_X7_pending, bt_X7_put, bt_X7_returnTo, bt_X7_rewind, bt_X7_save, bt_X7_shelve, bt_X8_collect, bt_X8_extend, bt_X8_grow, bt_X8_init, bt_X8_nodesBehind, bt_X8_placesBehind, bt_X8_placesInBoth, bt_X8_told, bt_X9_back, bt_X9_checkpoint, bt_X9_checkpointed, bt_X9_commit, bt_X9_crash, bt_X9_differ, bt_X9_fill, bt_X9_flush, bt_X9_flushed, bt_X9_force, bt_X9_freeBlocks, bt_X9_group, bt_X9_handOver, bt_X9_init, bt_X9_item, bt_X9_leave, bt_X9_lost, bt_X9_message, bt_X9_nextEpoch, bt_X9_old, bt_X9_onAccept, bt_X9_onAck, bt_X9_onCommon, bt_X9_onData, bt_X9_onGive, bt_X9_onHave, bt_X9_onHello, bt_X9_onLack, bt_X9_onOffer, bt_X9_pass, bt_X9_period, bt_X9_power, bt_X9_read, bt_X9_receive, bt_X9_refusalOf, bt_X9_send, bt_X9_sendData, bt_X9_sendForward, bt_X9_sendGive, bt_X9_sendHello, bt_X9_sendOffer, bt_X9_sendOn, bt_X9_sendProgress, bt_X9_snap, bt_X9_snapshot, bt_X9_spotOf, bt_X9_state, bt_X9_stay, bt_X9_storeOf, bt_X9_sum, bt_X9_tick, bt_X9_tickOf, bt_X9_tookSnapshot, bt_X9_total, bt_X9_totalOf, bt_X9_up, bt_X9_write, bt_X9_writeOne, bt_L_cell, bt_L_differ, bt_L_item, bt_L_lost, bt_L_old, bt_L_read, bt_L_sum, bt_L_law]
def bt_P : bi_P := fun mi b => (bt_all[mi]?).bind (fun t => t[b]?)
def bt_Ms : List bi_M := [(yJ7_copyOf_59c91, cJ7_copyOf_59c91, 3, (some (.array .int)), RJ7, 2, 41, []),
  (yJ9_floorMod_7cf53, cJ9_floorMod_7cf53, 3, (some .int), RJ9, 1, 20, []),
  (yJ9_max_7cf53, cJ9_max_7cf53, 2, (some .int), RJ9, 1, 20, []),
  (yJ9_min_7cf53, cJ9_min_7cf53, 2, (some .int), RJ9, 1, 20, []),
  (yX0_add, cX0_add, 2, none, RX0, 1, 20, []),
  (yX0_at, cX0_at, 2, (some (.object "TwinVaults$Message")), RX0, 1, 20, []),
  (yX0_drop, cX0_drop, 3, none, RX0, 1, 20, []),
  (yX0_init, cX0_init, 1, none, RX0, 1, 20, []),
  (yX10_init, cX10_init, 1, none, RX10, 1, 20, []),
  (yX11_drop, cX11_drop, 3, none, RX11, 1, 20, []),
  (yX11_find, cX11_find, 3, (some .int), RX11, 1, 20, []),
  (yX11_hasAll, cX11_hasAll, 1, (some .boolean), RX11, 1, 20, []),
  (yX11_init, cX11_init, 1, none, RX11, 1, 20, []),
  (yX11_isPinned, cX11_isPinned, 2, (some .boolean), RX11, 2, 40, []),
  (yX11_latest, cX11_latest, 1, (some .int), RX11, 1, 20, []),
  (yX11_latestLine, cX11_latestLine, 1, (some .int), RX11, 1, 20, []),
  (yX11_snaps, cX11_snaps, 3, none, RX11, 1, 20, []),
  (yX11_stagesNothing, cX11_stagesNothing, 1, none, RX11, 1, 20, []),
  (yX11_thins, cX11_thins, 3, none, RX11, 3, 61, []),
  (yX12_accepted, cX12_accepted, 3, none, RX12, 4, 91, []),
  (yX12_acknowledged, cX12_acknowledged, 3, none, RX12, 4, 91, []),
  (yX12_act, cX12_act, 2, (some .boolean), RX12, 2, 41, []),
  (yX12_acts, cX12_acts, 5, (some .boolean), RX12, 3, 62, []),
  (yX12_after, cX12_after, 3, (some .int), RX12, 1, 20, []),
  (yX12_against, cX12_against, 4, (some .int), RX12, 1, 20, []),
  (yX12_back, cX12_back, 4, (some .int), RX12, 3, 70, []),
  (yX12_begins, cX12_begins, 3, none, RX12, 2, 43, []),
  (yX12_checkpoint, cX12_checkpoint, 4, (some .int), RX12, 5, 108, []),
  (yX12_checks, cX12_checks, 3, (some .int), RX12, 4, 86, []),
  (yX12_copies, cX12_copies, 2, none, RX12, 4, 91, []),
  (yX12_crash, cX12_crash, 2, (some .boolean), RX12, 2, 41, []),
  (yX12_cut, cX12_cut, 4, (some .int), RX12, 1, 20, []),
  (yX12_data, cX12_data, 3, none, RX12, 5, 111, []),
  (yX12_differ, cX12_differ, 5, (some .int), RX12, 2, 45, []),
  (yX12_different, cX12_different, 6, (some .int), RX12, 1, 20, []),
  (yX12_fails, cX12_fails, 2, (some .int), RX12, 1, 20, []),
  (yX12_fill, cX12_fill, 9, (some .int), RX12, 7, 154, []),
  (yX12_flies, cX12_flies, 2, (some (.object "TwinVaultsModel$Message")), RX12, 1, 20, []),
  (yX12_flush, cX12_flush, 3, (some .int), RX12, 6, 129, []),
  (yX12_flushes, cX12_flushes, 2, (some .boolean), RX12, 5, 108, []),
  (yX12_follows, cX12_follows, 3, (some .boolean), RX12, 3, 62, []),
  (yX12_force, cX12_force, 4, (some .int), RX12, 5, 108, []),
  (yX12_free, cX12_free, 4, (some .int), RX12, 2, 48, []),
  (yX12_given, cX12_given, 3, none, RX12, 4, 83, []),
  (yX12_goesBack, cX12_goesBack, 5, none, RX12, 4, 83, []),
  (yX12_goesDown, cX12_goesDown, 2, none, RX12, 1, 20, []),
  (yX12_greeted, cX12_greeted, 5, none, RX12, 4, 83, []),
  (yX12_group, cX12_group, 5, (some .int), RX12, 2, 40, []),
  (yX12_had, cX12_had, 2, none, RX12, 4, 83, []),
  (yX12_init, cX12_init, 4, none, RX12, 2, 41, []),
  (yX12_isPlace, cX12_isPlace, 4, (some .boolean), RX12, 1, 20, []),
  (yX12_isSite, cX12_isSite, 1, (some .boolean), RX12, 1, 20, []),
  (yX12_isTaken, cX12_isTaken, 4, none, RX12, 1, 20, []),
  (yX12_item, cX12_item, 5, (some .int), RX12, 2, 41, []),
  (yX12_know, cX12_know, 3, none, RX12, 1, 20, []),
  (yX12_lacked, cX12_lacked, 3, none, RX12, 4, 91, []),
  (yX12_leave, cX12_leave, 4, (some .int), RX12, 6, 129, []),
  (yX12_lineOf, cX12_lineOf, 4, (some .int), RX12, 1, 20, []),
  (yX12_lost, cX12_lost, 5, (some .int), RX12, 2, 41, []),
  (yX12_message, cX12_message, 4, (some .int), RX12, 2, 41, []),
  (yX12_needs, cX12_needs, 9, (some .int), RX12, 1, 20, []),
  (yX12_nodes, cX12_nodes, 6, (some .int), RX12, 2, 43, []),
  (yX12_of, cX12_of, 2, (some (.object "TwinVaultsModel$Store")), RX12, 1, 20, []),
  (yX12_offered, cX12_offered, 3, none, RX12, 5, 111, []),
  (yX12_offers, cX12_offers, 2, none, RX12, 3, 70, []),
  (yX12_old, cX12_old, 7, (some .int), RX12, 2, 43, []),
  (yX12_other, cX12_other, 2, (some (.object "TwinVaultsModel$Store")), RX12, 1, 20, []),
  (yX12_pass, cX12_pass, 5, (some .int), RX12, 7, 156, []),
  (yX12_path, cX12_path, 4, (some .int), RX12, 1, 20, []),
  (yX12_period, cX12_period, 2, (some .boolean), RX12, 1, 20, []),
  (yX12_piece, cX12_piece, 3, none, RX12, 1, 20, []),
  (yX12_power, cX12_power, 3, (some .boolean), RX12, 2, 40, []),
  (yX12_read, cX12_read, 5, (some .int), RX12, 2, 43, []),
  (yX12_receive, cX12_receive, 4, none, RX12, 6, 133, []),
  (yX12_send, cX12_send, 9, none, RX12, 2, 42, []),
  (yX12_sendsOn, cX12_sendsOn, 2, none, RX12, 3, 70, []),
  (yX12_snap, cX12_snap, 5, (some .int), RX12, 2, 41, []),
  (yX12_snapshot, cX12_snapshot, 4, (some .int), RX12, 6, 129, []),
  (yX12_span, cX12_span, 5, none, RX12, 1, 20, []),
  (yX12_spanOf, cX12_spanOf, 2, none, RX12, 2, 44, []),
  (yX12_staged, cX12_staged, 6, none, RX12, 4, 86, []),
  (yX12_stagesJust, cX12_stagesJust, 2, (some .boolean), RX12, 1, 20, []),
  (yX12_state, cX12_state, 4, (some .int), RX12, 2, 48, []),
  (yX12_stay, cX12_stay, 4, (some .int), RX12, 3, 62, []),
  (yX12_sum, cX12_sum, 6, (some .int), RX12, 2, 43, []),
  (yX12_takes, cX12_takes, 2, (some .boolean), RX12, 5, 108, []),
  (yX12_thrown, cX12_thrown, 1, (some .int), RX12, 1, 20, []),
  (yX12_tick, cX12_tick, 5, (some .int), RX12, 7, 150, []),
  (yX12_ticks, cX12_ticks, 2, none, RX12, 6, 129, []),
  (yX12_total, cX12_total, 3, (some .int), RX12, 3, 71, []),
  (yX12_up, cX12_up, 5, (some .int), RX12, 2, 40, []),
  (yX12_write, cX12_write, 6, (some .int), RX12, 7, 154, []),
  (yX12_writes, cX12_writes, 6, (some .int), RX12, 6, 129, []),
  (yX1_begin, cX1_begin, 1, none, RX1, 1, 20, []),
  (yX1_init, cX1_init, 2, none, RX1, 1, 20, []),
  (yX1_mark, cX1_mark, 2, (some .int), RX1, 1, 20, []),
  (yX2_init, cX2_init, 5, none, RX2, 1, 20, []),
  (yX2_itemCount, cX2_itemCount, 1, (some .int), RX2, 1, 20, []),
  (yX3_add, cX3_add, 2, none, RX3, 1, 20, []),
  (yX3_begin, cX3_begin, 4, none, RX3, 2, 41, []),
  (yX3_init, cX3_init, 1, none, RX3, 1, 20, []),
  (yX3_sink, cX3_sink, 7, none, RX3, 1, 20, []),
  (yX3_sort, cX3_sort, 4, none, RX3, 2, 46, []),
  (yX4_act, cX4_act, 1, (some .boolean), RX4, 2, 40, []),
  (yX4_act_, cX4_act_, 3, (some .boolean), RX4, 3, 60, []),
  (yX4_fail, cX4_fail, 1, none, RX4, 1, 20, []),
  (yX4_init, cX4_init, 2, none, RX4, 1, 20, []),
  (yX5_add, cX5_add, 2, none, RX5, 1, 20, []),
  (yX5_begin, cX5_begin, 2, none, RX5, 2, 40, []),
  (yX5_clear, cX5_clear, 1, none, RX5, 1, 20, []),
  (yX5_hasAll, cX5_hasAll, 1, (some .boolean), RX5, 1, 20, []),
  (yX5_init, cX5_init, 1, none, RX5, 1, 20, []),
  (yX5_isOf, cX5_isOf, 3, (some .boolean), RX5, 1, 20, []),
  (yX6_beginEpoch, cX6_beginEpoch, 3, none, RX6, 4, 93, []),
  (yX6_blocks, cX6_blocks, 1, (some .int), RX6, 1, 20, []),
  (yX6_forgetOther, cX6_forgetOther, 1, none, RX6, 2, 42, []),
  (yX6_hold, cX6_hold, 3, none, RX6, 1, 20, []),
  (yX6_init, cX6_init, 5, none, RX6, 2, 40, []),
  (yX6_isPinned, cX6_isPinned, 2, (some .boolean), RX6, 2, 40, []),
  (yX6_isSource, cX6_isSource, 1, (some .boolean), RX6, 1, 20, []),
  (yX6_learnEpoch, cX6_learnEpoch, 2, none, RX6, 3, 62, []),
  (yX6_sends, cX6_sends, 3, (some .boolean), RX6, 2, 40, []),
  (yX6_thin, cX6_thin, 4, none, RX6, 3, 70, []),
  (yX6_waitedEnough, cX6_waitedEnough, 1, (some .boolean), RX6, 1, 20, []),
  (yX6_wake, cX6_wake, 1, (some .int), RX6, 3, 67, []),
  (yX7_adopt, cX7_adopt, 4, none, RX7, 2, 45, []),
  (yX7_advance, cX7_advance, 6, none, RX7, 1, 20, []),
  (yX7_drop, cX7_drop, 4, none, RX7, 2, 47, []),
  (yX7_find, cX7_find, 3, (some .int), RX7, 1, 20, []),
  (yX7_hasPlace, cX7_hasPlace, 3, (some .boolean), RX7, 1, 20, []),
  (yX7_hasSnapshot, cX7_hasSnapshot, 2, (some .boolean), RX7, 1, 20, []),
  (yX7_init, cX7_init, 4, none, RX7, 1, 20, []),
  (yX7_journal, cX7_journal, 1, (some .int), RX7, 1, 20, []),
  (yX7_keepNow, cX7_keepNow, 1, none, RX7, 3, 60, []),
  (yX7_latest, cX7_latest, 1, (some .int), RX7, 1, 20, []),
  (yX7_latestLength, cX7_latestLength, 1, (some .int), RX7, 2, 40, []),
  (yX7_latestLine, cX7_latestLine, 1, (some .int), RX7, 1, 20, []),
  (yX7_lengthOf, cX7_lengthOf, 2, (some .int), RX7, 1, 20, []),
  (yX7_lengthOfId, cX7_lengthOfId, 2, (some .int), RX7, 3, 64, []),
  (yX7_lineOf, cX7_lineOf, 3, (some .int), RX7, 2, 42, []),
  (yX7_losePending, cX7_losePending, 3, (some .int), RX7, 2, 45, []),
  (yX7_nowIsLatest, cX7_nowIsLatest, 1, (some .boolean), RX7, 2, 40, []),
  (yX7_numberAt, cX7_numberAt, 2, (some .int), RX7, 1, 20, []),
  (yX7_oldNumberAt, cX7_oldNumberAt, 6, (some .int), RX7, 2, 41, []),
  (yX7_pending, cX7_pending, 1, (some .int), RX7, 1, 20, []),
  (yX7_put, cX7_put, 4, none, RX7, 5, 109, []),
  (yX7_returnTo, cX7_returnTo, 4, none, RX7, 2, 45, []),
  (yX7_rewind, cX7_rewind, 3, none, RX7, 1, 20, []),
  (yX7_save, cX7_save, 4, none, RX7, 2, 40, []),
  (yX7_shelve, cX7_shelve, 2, none, RX7, 1, 20, []),
  (yX8_collect, cX8_collect, 6, none, RX8, 3, 69, []),
  (yX8_extend, cX8_extend, 5, (some .int), RX8, 4, 85, []),
  (yX8_grow, cX8_grow, 3, none, RX8, 3, 63, []),
  (yX8_init, cX8_init, 2, none, RX8, 2, 41, []),
  (yX8_nodesBehind, cX8_nodesBehind, 9, (some .int), RX8, 2, 41, []),
  (yX8_placesBehind, cX8_placesBehind, 6, (some .int), RX8, 1, 20, []),
  (yX8_placesInBoth, cX8_placesInBoth, 8, (some .int), RX8, 1, 20, []),
  (yX8_told, cX8_told, 3, (some .int), RX8, 1, 20, []),
  (yX9_back, cX9_back, 4, (some .int), RX9, 3, 68, []),
  (yX9_checkpoint, cX9_checkpoint, 4, (some .int), RX9, 5, 104, []),
  (yX9_checkpointed, cX9_checkpointed, 3, (some .boolean), RX9, 4, 82, []),
  (yX9_commit, cX9_commit, 5, none, RX9, 4, 93, []),
  (yX9_crash, cX9_crash, 2, (some .boolean), RX9, 2, 40, []),
  (yX9_differ, cX9_differ, 5, (some .int), RX9, 6, 90, []),
  (yX9_fill, cX9_fill, 10, (some .int), RX9, 7, 156, []),
  (yX9_flush, cX9_flush, 3, (some .int), RX9, 6, 127, []),
  (yX9_flushed, cX9_flushed, 4, (some .boolean), RX9, 5, 104, []),
  (yX9_force, cX9_force, 3, (some .int), RX9, 5, 115, []),
  (yX9_freeBlocks, cX9_freeBlocks, 5, (some .int), RX9, 2, 41, []),
  (yX9_group, cX9_group, 4, (some .int), RX9, 3, 64, []),
  (yX9_handOver, cX9_handOver, 2, none, RX9, 3, 66, []),
  (yX9_init, cX9_init, 4, none, RX9, 3, 62, []),
  (yX9_item, cX9_item, 5, (some .int), RX9, 6, 90, []),
  (yX9_leave, cX9_leave, 4, (some .int), RX9, 6, 125, []),
  (yX9_lost, cX9_lost, 5, (some .int), RX9, 6, 90, []),
  (yX9_message, cX9_message, 4, (some .int), RX9, 2, 41, []),
  (yX9_nextEpoch, cX9_nextEpoch, 2, (some .int), RX9, 2, 42, []),
  (yX9_old, cX9_old, 6, (some .int), RX9, 6, 90, []),
  (yX9_onAccept, cX9_onAccept, 3, none, RX9, 5, 117, []),
  (yX9_onAck, cX9_onAck, 3, none, RX9, 5, 117, []),
  (yX9_onCommon, cX9_onCommon, 4, none, RX9, 4, 94, []),
  (yX9_onData, cX9_onData, 4, none, RX9, 5, 117, []),
  (yX9_onGive, cX9_onGive, 3, none, RX9, 5, 115, []),
  (yX9_onHave, cX9_onHave, 3, none, RX9, 4, 93, []),
  (yX9_onHello, cX9_onHello, 5, none, RX9, 4, 93, []),
  (yX9_onLack, cX9_onLack, 3, none, RX9, 5, 117, []),
  (yX9_onOffer, cX9_onOffer, 4, none, RX9, 5, 117, []),
  (yX9_pass, cX9_pass, 4, (some .int), RX9, 7, 162, []),
  (yX9_period, cX9_period, 2, (some .boolean), RX9, 1, 20, []),
  (yX9_power, cX9_power, 3, (some .boolean), RX9, 1, 20, []),
  (yX9_read, cX9_read, 5, (some .int), RX9, 6, 90, []),
  (yX9_receive, cX9_receive, 3, none, RX9, 6, 140, []),
  (yX9_refusalOf, cX9_refusalOf, 2, (some .int), RX9, 1, 20, []),
  (yX9_send, cX9_send, 4, none, RX9, 2, 44, []),
  (yX9_sendData, cX9_sendData, 9, none, RX9, 2, 44, []),
  (yX9_sendForward, cX9_sendForward, 2, none, RX9, 5, 117, []),
  (yX9_sendGive, cX9_sendGive, 3, none, RX9, 2, 44, []),
  (yX9_sendHello, cX9_sendHello, 5, none, RX9, 2, 44, []),
  (yX9_sendOffer, cX9_sendOffer, 4, none, RX9, 4, 94, []),
  (yX9_sendOn, cX9_sendOn, 4, none, RX9, 4, 94, []),
  (yX9_sendProgress, cX9_sendProgress, 4, none, RX9, 2, 44, []),
  (yX9_snap, cX9_snap, 5, (some .int), RX9, 2, 41, []),
  (yX9_snapshot, cX9_snapshot, 4, (some .int), RX9, 6, 125, []),
  (yX9_spotOf, cX9_spotOf, 2, (some .int), RX9, 1, 20, []),
  (yX9_state, cX9_state, 4, (some .int), RX9, 2, 41, []),
  (yX9_stay, cX9_stay, 4, (some .int), RX9, 3, 60, []),
  (yX9_storeOf, cX9_storeOf, 2, (some (.object "TwinVaults$Store")), RX9, 1, 20, []),
  (yX9_sum, cX9_sum, 7, (some .int), RX9, 6, 90, []),
  (yX9_tick, cX9_tick, 3, (some .int), RX9, 7, 159, []),
  (yX9_tickOf, cX9_tickOf, 2, none, RX9, 6, 138, []),
  (yX9_tookSnapshot, cX9_tookSnapshot, 2, (some .boolean), RX9, 5, 104, []),
  (yX9_total, cX9_total, 2, (some .int), RX9, 4, 87, []),
  (yX9_totalOf, cX9_totalOf, 3, (some .int), RX9, 3, 65, []),
  (yX9_up, cX9_up, 5, (some .int), RX9, 4, 87, []),
  (yX9_write, cX9_write, 7, (some .int), RX9, 7, 156, []),
  (yX9_writeOne, cX9_writeOne, 5, (some .int), RX9, 6, 132, []),
  (yL_cell, cL_cell, 2, (some .int), RL, 1, 20, []),
  (yL_differ, cL_differ, 6, (some .int), RL, 7, 114, [(0, 12, 15, 13), (0, 12, 19, 18)]),
  (yL_item, cL_item, 6, (some .int), RL, 7, 114, [(0, 12, 15, 13)]),
  (yL_lost, cL_lost, 6, (some .int), RL, 7, 114, [(0, 12, 15, 13)]),
  (yL_old, cL_old, 7, (some .int), RL, 7, 115, [(0, 14, 17, 13), (0, 14, 21, 18)]),
  (yL_read, cL_read, 6, (some .int), RL, 7, 114, [(0, 12, 15, 13), (0, 12, 19, 18)]),
  (yL_sum, cL_sum, 5, (some .int), RL, 7, 116, [(0, 10, 13, 13), (0, 10, 17, 18)]),
  (yL_law, cL_law, 7, (some .boolean), RL, 8, 185, [])]
def bt_M : Nat → Option bi_M := fun mi => bt_Ms[mi]?
def bi_kd : bi_K := (0, [], (.nop, (0, 0, 0, 0)), [])
theorem bi_allk {C : bi_K → Prop} {ks : List bi_K} {b : Nat} {k : bi_K} (h : ks[b]? = some k) (f : ∀ b, b < ks.length → C (ks.getD b bi_kd)) : C k := by
  have hl := (List.getElem?_eq_some_iff.mp h).1
  have := f b hl
  rw [List.getD_eq_getElem?_getD, h] at this
  exact this
end
section
/-! the tables are as the code has them -/
theorem bo_J7_copyOf_59c91 : bi_oksB bt_M bt_P 0 ((yJ7_copyOf_59c91, cJ7_copyOf_59c91, 3, (some (.array .int)), RJ7, 2, 41, [])) bt_J7_copyOf_59c91 [([[], [], []], []), ([[]], []), ([], []), ([], []), ([[], [1082], [], [], [], [], [], [], [], [], [1032, 1002, 3002, 1031]], []), ([[]], [])] = true := by decide +kernel
theorem bm_J7_copyOf_59c91 : ∀ b k, bt_P 0 b = some k → bi_okk bt_M bt_P 0 ((yJ7_copyOf_59c91, cJ7_copyOf_59c91, 3, (some (.array .int)), RJ7, 2, 41, [])) k := fun b k h => bi_oksB_ok _ _ bo_J7_copyOf_59c91 k (List.mem_of_getElem? (show bt_J7_copyOf_59c91[b]? = some k from h))
theorem bo_J9_floorMod_7cf53 : bi_oksB bt_M bt_P 1 ((yJ9_floorMod_7cf53, cJ9_floorMod_7cf53, 3, (some .int), RJ9, 1, 20, [])) bt_J9_floorMod_7cf53 [([[], [], [], [], [], [], []], []), ([[]], []), ([[], [], []], []), ([[]], [])] = true := by decide +kernel
theorem bm_J9_floorMod_7cf53 : ∀ b k, bt_P 1 b = some k → bi_okk bt_M bt_P 1 ((yJ9_floorMod_7cf53, cJ9_floorMod_7cf53, 3, (some .int), RJ9, 1, 20, [])) k := fun b k h => bi_oksB_ok _ _ bo_J9_floorMod_7cf53 k (List.mem_of_getElem? (show bt_J9_floorMod_7cf53[b]? = some k from h))
theorem bo_J9_max_7cf53 : bi_oksB bt_M bt_P 2 ((yJ9_max_7cf53, cJ9_max_7cf53, 2, (some .int), RJ9, 1, 20, [])) bt_J9_max_7cf53 [([[], []], []), ([[]], []), ([[]], []), ([], [])] = true := by decide +kernel
theorem bm_J9_max_7cf53 : ∀ b k, bt_P 2 b = some k → bi_okk bt_M bt_P 2 ((yJ9_max_7cf53, cJ9_max_7cf53, 2, (some .int), RJ9, 1, 20, [])) k := fun b k h => bi_oksB_ok _ _ bo_J9_max_7cf53 k (List.mem_of_getElem? (show bt_J9_max_7cf53[b]? = some k from h))
theorem bo_J9_min_7cf53 : bi_oksB bt_M bt_P 3 ((yJ9_min_7cf53, cJ9_min_7cf53, 2, (some .int), RJ9, 1, 20, [])) bt_J9_min_7cf53 [([[], []], []), ([[]], []), ([[]], []), ([], [])] = true := by decide +kernel
theorem bm_J9_min_7cf53 : ∀ b k, bt_P 3 b = some k → bi_okk bt_M bt_P 3 ((yJ9_min_7cf53, cJ9_min_7cf53, 2, (some .int), RJ9, 1, 20, [])) k := fun b k h => bi_oksB_ok _ _ bo_J9_min_7cf53 k (List.mem_of_getElem? (show bt_J9_min_7cf53[b]? = some k from h))
theorem bo_X0_add : bi_oksB bt_M bt_P 4 ((yX0_add, cX0_add, 2, none, RX0, 1, 20, [])) bt_X0_add [([[], [], [1123], [], [], [1123], [], [1121], []], []), ([[], [], [1125], [], [], [1125]], []), ([[], [1120], [], [1121], [], [], [], [], [1121], [], [], [1121]], [])] = true := by decide +kernel
theorem bm_X0_add : ∀ b k, bt_P 4 b = some k → bi_okk bt_M bt_P 4 ((yX0_add, cX0_add, 2, none, RX0, 1, 20, [])) k := fun b k h => bi_oksB_ok _ _ bo_X0_add k (List.mem_of_getElem? (show bt_X0_add[b]? = some k from h))
theorem bo_X0_at : bi_oksB bt_M bt_P 5 ((yX0_at, cX0_at, 2, (some (.object "TwinVaults$Message")), RX0, 1, 20, [])) bt_X0_at [([[]], []), ([[], [], [1121]], []), ([[]], []), ([[], [1120], [], []], []), ([], [])] = true := by decide +kernel
theorem bm_X0_at : ∀ b k, bt_P 5 b = some k → bi_okk bt_M bt_P 5 ((yX0_at, cX0_at, 2, (some (.object "TwinVaults$Message")), RX0, 1, 20, [])) k := fun b k h => bi_oksB_ok _ _ bo_X0_at k (List.mem_of_getElem? (show bt_X0_at[b]? = some k from h))
theorem bo_X0_drop : bi_oksB bt_M bt_P 6 ((yX0_drop, cX0_drop, 3, none, RX0, 1, 20, [])) bt_X0_drop [([[]], []), ([[], [], [1121]], []), ([], []), ([[], [], [], []], []), ([[], [], [1121]], []), ([[], [1120], [], [], [], [], [1120], [], [], [], []], []), ([[], [], [1121], [], [], [1121], [], [1120], [], [1121], [], []], [])] = true := by decide +kernel
theorem bm_X0_drop : ∀ b k, bt_P 6 b = some k → bi_okk bt_M bt_P 6 ((yX0_drop, cX0_drop, 3, none, RX0, 1, 20, [])) k := fun b k h => bi_oksB_ok _ _ bo_X0_drop k (List.mem_of_getElem? (show bt_X0_drop[b]? = some k from h))
theorem bo_X0_init : bi_oksB bt_M bt_P 7 ((yX0_init, cX0_init, 1, none, RX0, 1, 20, [])) bt_X0_init [([[], [1117, 1028, 1029], [], [], [1118, 1119], [1120]], [])] = true := by decide +kernel
theorem bm_X0_init : ∀ b k, bt_P 7 b = some k → bi_okk bt_M bt_P 7 ((yX0_init, cX0_init, 1, none, RX0, 1, 20, [])) k := fun b k h => bi_oksB_ok _ _ bo_X0_init k (List.mem_of_getElem? (show bt_X0_init[b]? = some k from h))
theorem bo_X10_init : bi_oksB bt_M bt_P 8 ((yX10_init, cX10_init, 1, none, RX10, 1, 20, [])) bt_X10_init [([[], [5088, 1028, 1029], [], [], [1082], [5097], [], [], [1082], [5099], [], [], [1082], [5101]], [])] = true := by decide +kernel
theorem bm_X10_init : ∀ b k, bt_P 8 b = some k → bi_okk bt_M bt_P 8 ((yX10_init, cX10_init, 1, none, RX10, 1, 20, [])) k := fun b k h => bi_oksB_ok _ _ bo_X10_init k (List.mem_of_getElem? (show bt_X10_init[b]? = some k from h))
theorem bo_X11_drop : bi_oksB bt_M bt_P 9 ((yX11_drop, cX11_drop, 3, none, RX11, 1, 20, [])) bt_X11_drop [([[], []], []), ([[], [], [], [], [6022]], []), ([[], [6034], [], [], [6034], [], [], [], [], [], [], [6036], [], [], [6036], [], [], [], [], [], []], []), ([[], [], [6022], [], [], [6022], [], [], [6064]], [])] = true := by decide +kernel
theorem bm_X11_drop : ∀ b k, bt_P 9 b = some k → bi_okk bt_M bt_P 9 ((yX11_drop, cX11_drop, 3, none, RX11, 1, 20, [])) k := fun b k h => bi_oksB_ok _ _ bo_X11_drop k (List.mem_of_getElem? (show bt_X11_drop[b]? = some k from h))
theorem bo_X11_find : bi_oksB bt_M bt_P 10 ((yX11_find, cX11_find, 3, (some .int), RX11, 1, 20, [])) bt_X11_find [([[], []], []), ([[], [], [6022]], []), ([[], [6034], [], [], []], []), ([[]], []), ([[], [], [6022]], []), ([[]], []), ([[]], []), ([], [])] = true := by decide +kernel
theorem bm_X11_find : ∀ b k, bt_P 10 b = some k → bi_okk bt_M bt_P 10 ((yX11_find, cX11_find, 3, (some .int), RX11, 1, 20, [])) k := fun b k h => bi_oksB_ok _ _ bo_X11_find k (List.mem_of_getElem? (show bt_X11_find[b]? = some k from h))
theorem bo_X11_hasAll : bi_oksB bt_M bt_P 11 ((yX11_hasAll, cX11_hasAll, 1, (some .boolean), RX11, 1, 20, [])) bt_X11_hasAll [([[], [], [6053], [], [], [6051]], []), ([[]], []), ([[]], []), ([], [])] = true := by decide +kernel
theorem bm_X11_hasAll : ∀ b k, bt_P 11 b = some k → bi_okk bt_M bt_P 11 ((yX11_hasAll, cX11_hasAll, 1, (some .boolean), RX11, 1, 20, [])) k := fun b k h => bi_oksB_ok _ _ bo_X11_hasAll k (List.mem_of_getElem? (show bt_X11_hasAll[b]? = some k from h))
theorem bo_X11_init : bi_oksB bt_M bt_P 12 ((yX11_init, cX11_init, 1, none, RX11, 1, 20, [])) bt_X11_init [([[], [6013, 1028, 1029], [], [], [6017], [], [], [1082], [6034], [], [], [1082], [6036], [], [], [1082], [6058], [], [], [1082], [6060]], [])] = true := by decide +kernel
theorem bm_X11_init : ∀ b k, bt_P 12 b = some k → bi_okk bt_M bt_P 12 ((yX11_init, cX11_init, 1, none, RX11, 1, 20, [])) k := fun b k h => bi_oksB_ok _ _ bo_X11_init k (List.mem_of_getElem? (show bt_X11_init[b]? = some k from h))
theorem bo_X11_isPinned : bi_oksB bt_M bt_P 13 ((yX11_isPinned, cX11_isPinned, 2, (some .boolean), RX11, 2, 40, [])) bt_X11_isPinned [([[], [], [6235, 1013, 7008, 6233, 6234]], []), ([[], [], [6024]], []), ([[], [], [6026]], []), ([[], [], [6038]], []), ([[], [], [6028]], []), ([[], [], [6030]], []), ([[]], []), ([[]], []), ([], [])] = true := by decide +kernel
theorem bm_X11_isPinned : ∀ b k, bt_P 13 b = some k → bi_okk bt_M bt_P 13 ((yX11_isPinned, cX11_isPinned, 2, (some .boolean), RX11, 2, 40, [])) k := fun b k h => bi_oksB_ok _ _ bo_X11_isPinned k (List.mem_of_getElem? (show bt_X11_isPinned[b]? = some k from h))
theorem bo_X11_latest : bi_oksB bt_M bt_P 14 ((yX11_latest, cX11_latest, 1, (some .int), RX11, 1, 20, [])) bt_X11_latest [([[], [6022]], []), ([[]], []), ([[], [6034], [], [6022], [], [], []], []), ([], [])] = true := by decide +kernel
theorem bm_X11_latest : ∀ b k, bt_P 14 b = some k → bi_okk bt_M bt_P 14 ((yX11_latest, cX11_latest, 1, (some .int), RX11, 1, 20, [])) k := fun b k h => bi_oksB_ok _ _ bo_X11_latest k (List.mem_of_getElem? (show bt_X11_latest[b]? = some k from h))
theorem bo_X11_latestLine : bi_oksB bt_M bt_P 15 ((yX11_latestLine, cX11_latestLine, 1, (some .int), RX11, 1, 20, [])) bt_X11_latestLine [([[], [6022]], []), ([[]], []), ([[], [6036], [], [6022], [], [], []], []), ([], [])] = true := by decide +kernel
theorem bm_X11_latestLine : ∀ b k, bt_P 15 b = some k → bi_okk bt_M bt_P 15 ((yX11_latestLine, cX11_latestLine, 1, (some .int), RX11, 1, 20, [])) k := fun b k h => bi_oksB_ok _ _ bo_X11_latestLine k (List.mem_of_getElem? (show bt_X11_latestLine[b]? = some k from h))
theorem bo_X11_snaps : bi_oksB bt_M bt_P 16 ((yX11_snaps, cX11_snaps, 3, none, RX11, 1, 20, [])) bt_X11_snaps [([[], [6034], [], [6022], [], [], [], [6036], [], [6022], [], [], [], [], [6022], [], [], [6022], [], [], [6064]], [])] = true := by decide +kernel
theorem bm_X11_snaps : ∀ b k, bt_P 16 b = some k → bi_okk bt_M bt_P 16 ((yX11_snaps, cX11_snaps, 3, none, RX11, 1, 20, [])) k := fun b k h => bi_oksB_ok _ _ bo_X11_snaps k (List.mem_of_getElem? (show bt_X11_snaps[b]? = some k from h))
theorem bo_X11_stagesNothing : bi_oksB bt_M bt_P 17 ((yX11_stagesNothing, cX11_stagesNothing, 1, none, RX11, 1, 20, [])) bt_X11_stagesNothing [([[], [], [6045], [], [], [6049], [], [], [6047], [], [], [6051], [], [], [6053], [], [], [6055]], [])] = true := by decide +kernel
theorem bm_X11_stagesNothing : ∀ b k, bt_P 17 b = some k → bi_okk bt_M bt_P 17 ((yX11_stagesNothing, cX11_stagesNothing, 1, none, RX11, 1, 20, [])) k := fun b k h => bi_oksB_ok _ _ bo_X11_stagesNothing k (List.mem_of_getElem? (show bt_X11_stagesNothing[b]? = some k from h))
theorem bo_X11_thins : bi_oksB bt_M bt_P 18 ((yX11_thins, cX11_thins, 3, none, RX11, 3, 61, [])) bt_X11_thins [([[], []], []), ([[], [6022], []], []), ([[], [], [6022]], []), ([[], [], [6034], [], [], [7007, 1013, 7004, 7005, 7006]], []), ([[]], []), ([[], [], [7012, 1013, 7009, 7010, 7011]], []), ([], [])] = true := by decide +kernel
theorem bm_X11_thins : ∀ b k, bt_P 18 b = some k → bi_okk bt_M bt_P 18 ((yX11_thins, cX11_thins, 3, none, RX11, 3, 61, [])) k := fun b k h => bi_oksB_ok _ _ bo_X11_thins k (List.mem_of_getElem? (show bt_X11_thins[b]? = some k from h))
theorem bo_X12_accepted : bi_oksB bt_M bt_P 19 ((yX12_accepted, cX12_accepted, 3, none, RX12, 4, 91, [])) bt_X12_accepted [([[], [], [6040], [], [], [6041], [], [], [6042], [], [], [6043], [], [], [7142, 1007, 7139, 7141, 69]], [])] = true := by decide +kernel
theorem bm_X12_accepted : ∀ b k, bt_P 19 b = some k → bi_okk bt_M bt_P 19 ((yX12_accepted, cX12_accepted, 3, none, RX12, 4, 91, [])) k := fun b k h => bi_oksB_ok _ _ bo_X12_accepted k (List.mem_of_getElem? (show bt_X12_accepted[b]? = some k from h))
theorem bo_X12_acknowledged : bi_oksB bt_M bt_P 20 ((yX12_acknowledged, cX12_acknowledged, 3, none, RX12, 4, 91, [])) bt_X12_acknowledged [([[], [], [6041]], []), ([[], [], [6041], [], [], [6042], [], [1035, 1002, 5083, 1034], [6042], [], [], [6043]], []), ([[], [], [7142, 1007, 7139, 7141, 69]], [])] = true := by decide +kernel
theorem bm_X12_acknowledged : ∀ b k, bt_P 20 b = some k → bi_okk bt_M bt_P 20 ((yX12_acknowledged, cX12_acknowledged, 3, none, RX12, 4, 91, [])) k := fun b k h => bi_oksB_ok _ _ bo_X12_acknowledged k (List.mem_of_getElem? (show bt_X12_acknowledged[b]? = some k from h))
theorem bo_X12_act : bi_oksB bt_M bt_P 21 ((yX12_act, cX12_act, 2, (some .boolean), RX12, 2, 41, [])) bt_X12_act [([[], [5138], [], []], []), ([[], [], [6182, 1007, 6179, 6181, 44], []], []), ([[], [5138], [], []], []), ([[], [5138], [], [], [], [], [], []], []), ([[], [5137], [], [], [], [], [], [], []], [])] = true := by decide +kernel
theorem bm_X12_act : ∀ b k, bt_P 21 b = some k → bi_okk bt_M bt_P 21 ((yX12_act, cX12_act, 2, (some .boolean), RX12, 2, 41, [])) k := fun b k h => bi_oksB_ok _ _ bo_X12_act k (List.mem_of_getElem? (show bt_X12_act[b]? = some k from h))
theorem bo_X12_acts : bi_oksB bt_M bt_P 22 ((yX12_acts, cX12_acts, 5, (some .boolean), RX12, 3, 62, [])) bt_X12_acts [([[], [], [], []], []), ([[], []], []), ([[]], []), ([[], [], [6178, 1007, 6175, 6177, 43], [], []], []), ([[]], [])] = true := by decide +kernel
theorem bm_X12_acts : ∀ b k, bt_P 22 b = some k → bi_okk bt_M bt_P 22 ((yX12_acts, cX12_acts, 5, (some .boolean), RX12, 3, 62, [])) k := fun b k h => bi_oksB_ok _ _ bo_X12_acts k (List.mem_of_getElem? (show bt_X12_acts[b]? = some k from h))
theorem bo_X12_after : bi_oksB bt_M bt_P 23 ((yX12_after, cX12_after, 3, (some .int), RX12, 1, 20, [])) bt_X12_after [([[], [], [], []], []), ([[], [], [], []], []), ([[]], []), ([[]], [])] = true := by decide +kernel
theorem bm_X12_after : ∀ b k, bt_P 23 b = some k → bi_okk bt_M bt_P 23 ((yX12_after, cX12_after, 3, (some .int), RX12, 1, 20, [])) k := fun b k h => bi_oksB_ok _ _ bo_X12_after k (List.mem_of_getElem? (show bt_X12_after[b]? = some k from h))
theorem bo_X12_against : bi_oksB bt_M bt_P 24 ((yX12_against, cX12_against, 4, (some .int), RX12, 1, 20, [])) bt_X12_against [([[]], []), ([[]], []), ([[], [5136], [], [6015], []], []), ([[]], []), ([[], [6016], []], []), ([[], [6016], []], []), ([[]], []), ([[]], []), ([], [])] = true := by decide +kernel
theorem bm_X12_against : ∀ b k, bt_P 24 b = some k → bi_okk bt_M bt_P 24 ((yX12_against, cX12_against, 4, (some .int), RX12, 1, 20, [])) k := fun b k h => bi_oksB_ok _ _ bo_X12_against k (List.mem_of_getElem? (show bt_X12_against[b]? = some k from h))
theorem bo_X12_back : bi_oksB bt_M bt_P 25 ((yX12_back, cX12_back, 4, (some .int), RX12, 3, 70, [])) bt_X12_back [([[], [], [5127], [], [], [6145, 1007, 6142, 6144, 35], [], [], [], [], [], [6219, 1007, 6216, 6218, 49], [], []], []), ([[]], []), ([[], [], [6044], [], [], [6043], [], [], [], [], [], [], [], [7043, 1007, 7040, 7042, 53], []], [])] = true := by decide +kernel
theorem bm_X12_back : ∀ b k, bt_P 25 b = some k → bi_okk bt_M bt_P 25 ((yX12_back, cX12_back, 4, (some .int), RX12, 3, 70, [])) k := fun b k h => bi_oksB_ok _ _ bo_X12_back k (List.mem_of_getElem? (show bt_X12_back[b]? = some k from h))
theorem bo_X12_begins : bi_oksB bt_M bt_P 26 ((yX12_begins, cX12_begins, 3, none, RX12, 2, 43, [])) bt_X12_begins [([[], [], [6018], [], [], [6033], [], [], [], [], [], [], [], [6019], [6231, 1013, 6228, 6229, 6230], [], [], [6014], [], [6235, 1013, 6232, 6233, 6234], [], [6019], [6239, 1007, 6236, 6238, 51]], [])] = true := by decide +kernel
theorem bm_X12_begins : ∀ b k, bt_P 26 b = some k → bi_okk bt_M bt_P 26 ((yX12_begins, cX12_begins, 3, none, RX12, 2, 43, [])) k := fun b k h => bi_oksB_ok _ _ bo_X12_begins k (List.mem_of_getElem? (show bt_X12_begins[b]? = some k from h))
theorem bo_X12_checkpoint : bi_oksB bt_M bt_P 27 ((yX12_checkpoint, cX12_checkpoint, 4, (some .int), RX12, 5, 108, [])) bt_X12_checkpoint [([[], [], [5127], [], [], [6145, 1007, 6142, 6144, 35], [], []], []), ([[]], []), ([[], [5136], [], [6015], []], []), ([[], [], [6162, 1007, 6159, 6161, 39]], []), ([[]], []), ([[], []], []), ([[]], []), ([[]], []), ([], [])] = true := by decide +kernel
theorem bm_X12_checkpoint : ∀ b k, bt_P 27 b = some k → bi_okk bt_M bt_P 27 ((yX12_checkpoint, cX12_checkpoint, 4, (some .int), RX12, 5, 108, [])) k := fun b k h => bi_oksB_ok _ _ bo_X12_checkpoint k (List.mem_of_getElem? (show bt_X12_checkpoint[b]? = some k from h))
theorem bo_X12_checks : bi_oksB bt_M bt_P 28 ((yX12_checks, cX12_checks, 3, (some .int), RX12, 4, 86, [])) bt_X12_checks [([[], [6019], [], [6021]], []), ([[]], []), ([[], [], [6014], [], [6021], [], [6019], [6166, 1007, 6163, 6165, 40], [], [], [], [], [], [6015], [], [6174, 1007, 6171, 6173, 42]], []), ([[]], []), ([[], [], [6019], [6020], [], [], [6019], [6021], [], [], [6065], []], [])] = true := by decide +kernel
theorem bm_X12_checks : ∀ b k, bt_P 28 b = some k → bi_okk bt_M bt_P 28 ((yX12_checks, cX12_checks, 3, (some .int), RX12, 4, 86, [])) k := fun b k h => bi_oksB_ok _ _ bo_X12_checks k (List.mem_of_getElem? (show bt_X12_checks[b]? = some k from h))
theorem bo_X12_copies_0 : bi_okkB bt_M bt_P 29 ((yX12_copies, cX12_copies, 2, none, RX12, 4, 91, [])) (bt_X12_copies.getD 0 bi_kd) [[], [6027]] [] = true := by decide +kernel
theorem bo_X12_copies_1 : bi_okkB bt_M bt_P 29 ((yX12_copies, cX12_copies, 2, none, RX12, 4, 91, [])) (bt_X12_copies.getD 1 bi_kd) [[], [6235, 1013, 6232, 6233, 6234], [], [6025]] [] = true := by decide +kernel
theorem bo_X12_copies_2 : bi_okkB bt_M bt_P 29 ((yX12_copies, cX12_copies, 2, none, RX12, 4, 91, [])) (bt_X12_copies.getD 2 bi_kd) [[], [], [6015], [6178, 1007, 6175, 6177, 43]] [] = true := by decide +kernel
theorem bo_X12_copies_3 : bi_okkB bt_M bt_P 29 ((yX12_copies, cX12_copies, 2, none, RX12, 4, 91, [])) (bt_X12_copies.getD 3 bi_kd) [] [] = true := by decide +kernel
theorem bo_X12_copies_4 : bi_okkB bt_M bt_P 29 ((yX12_copies, cX12_copies, 2, none, RX12, 4, 91, [])) (bt_X12_copies.getD 4 bi_kd) [[], [], [6235, 1013, 6232, 6233, 6234], [6027], [], [], [6025], [6039], [], [], [7067, 1007, 7064, 7066, 57]] [] = true := by decide +kernel
theorem bo_X12_copies_5 : bi_okkB bt_M bt_P 29 ((yX12_copies, cX12_copies, 2, none, RX12, 4, 91, [])) (bt_X12_copies.getD 5 bi_kd) [[], [6027]] [] = true := by decide +kernel
theorem bo_X12_copies_6 : bi_okkB bt_M bt_P 29 ((yX12_copies, cX12_copies, 2, none, RX12, 4, 91, [])) (bt_X12_copies.getD 6 bi_kd) [[], [], [6043], [], [], [6043], [], [6043], []] [] = true := by decide +kernel
theorem bo_X12_copies_7 : bi_okkB bt_M bt_P 29 ((yX12_copies, cX12_copies, 2, none, RX12, 4, 91, [])) (bt_X12_copies.getD 7 bi_kd) [[], [], [7067, 1007, 7064, 7066, 57]] [] = true := by decide +kernel
theorem bo_X12_copies_8 : bi_okkB bt_M bt_P 29 ((yX12_copies, cX12_copies, 2, none, RX12, 4, 91, [])) (bt_X12_copies.getD 8 bi_kd) [[], [6016], []] [] = true := by decide +kernel
theorem bo_X12_copies_9 : bi_okkB bt_M bt_P 29 ((yX12_copies, cX12_copies, 2, none, RX12, 4, 91, [])) (bt_X12_copies.getD 9 bi_kd) [[], [6032]] [] = true := by decide +kernel
theorem bo_X12_copies_10 : bi_okkB bt_M bt_P 29 ((yX12_copies, cX12_copies, 2, none, RX12, 4, 91, [])) (bt_X12_copies.getD 10 bi_kd) [[], [], [6015], [6178, 1007, 6175, 6177, 43]] [] = true := by decide +kernel
theorem bo_X12_copies_11 : bi_okkB bt_M bt_P 29 ((yX12_copies, cX12_copies, 2, none, RX12, 4, 91, [])) (bt_X12_copies.getD 11 bi_kd) [] [] = true := by decide +kernel
theorem bo_X12_copies_12 : bi_okkB bt_M bt_P 29 ((yX12_copies, cX12_copies, 2, none, RX12, 4, 91, [])) (bt_X12_copies.getD 12 bi_kd) [[], [], [6018], [], [6015]] [] = true := by decide +kernel
end
section
/-! the tables are as the code has them -/
theorem bo_X12_copies_13 : bi_okkB bt_M bt_P 29 ((yX12_copies, cX12_copies, 2, none, RX12, 4, 91, [])) (bt_X12_copies.getD 13 bi_kd) [[]] [] = true := by decide +kernel
theorem bo_X12_copies_14 : bi_okkB bt_M bt_P 29 ((yX12_copies, cX12_copies, 2, none, RX12, 4, 91, [])) (bt_X12_copies.getD 14 bi_kd) [[]] [] = true := by decide +kernel
theorem bo_X12_copies_15 : bi_okkB bt_M bt_P 29 ((yX12_copies, cX12_copies, 2, none, RX12, 4, 91, [])) (bt_X12_copies.getD 15 bi_kd) [[7031, 1007, 7029, 7030], [6032], [], [], [6043], [], [], [], [], [], [6235, 1013, 6232, 6233, 6234], [], [6032], [], [7043, 1007, 7040, 7042, 53]] [] = true := by decide +kernel
theorem bo_X12_copies_16 : bi_okkB bt_M bt_P 29 ((yX12_copies, cX12_copies, 2, none, RX12, 4, 91, [])) (bt_X12_copies.getD 16 bi_kd) [[], [], [6043], [], [], [6043], [], [6043], []] [] = true := by decide +kernel
theorem bo_X12_copies_17 : bi_okkB bt_M bt_P 29 ((yX12_copies, cX12_copies, 2, none, RX12, 4, 91, [])) (bt_X12_copies.getD 17 bi_kd) [] [] = true := by decide +kernel
theorem bo_X12_copies_18 : bi_okkB bt_M bt_P 29 ((yX12_copies, cX12_copies, 2, none, RX12, 4, 91, [])) (bt_X12_copies.getD 18 bi_kd) [[], [], [6043], [], [], [], [], [], [6235, 1013, 6232, 6233, 6234], [], [6032], [], [7043, 1007, 7040, 7042, 53]] [] = true := by decide +kernel
theorem bo_X12_copies_19 : bi_okkB bt_M bt_P 29 ((yX12_copies, cX12_copies, 2, none, RX12, 4, 91, [])) (bt_X12_copies.getD 19 bi_kd) [] [] = true := by decide +kernel
theorem bm_X12_copies : ∀ b k, bt_P 29 b = some k → bi_okk bt_M bt_P 29 ((yX12_copies, cX12_copies, 2, none, RX12, 4, 91, [])) k := fun b k h => bi_allk (show bt_X12_copies[b]? = some k from h) (fun b hb => match b, hb with
  | 0, _ => bi_okkB_ok bo_X12_copies_0
  | 1, _ => bi_okkB_ok bo_X12_copies_1
  | 2, _ => bi_okkB_ok bo_X12_copies_2
  | 3, _ => bi_okkB_ok bo_X12_copies_3
  | 4, _ => bi_okkB_ok bo_X12_copies_4
  | 5, _ => bi_okkB_ok bo_X12_copies_5
  | 6, _ => bi_okkB_ok bo_X12_copies_6
  | 7, _ => bi_okkB_ok bo_X12_copies_7
  | 8, _ => bi_okkB_ok bo_X12_copies_8
  | 9, _ => bi_okkB_ok bo_X12_copies_9
  | 10, _ => bi_okkB_ok bo_X12_copies_10
  | 11, _ => bi_okkB_ok bo_X12_copies_11
  | 12, _ => bi_okkB_ok bo_X12_copies_12
  | 13, _ => bi_okkB_ok bo_X12_copies_13
  | 14, _ => bi_okkB_ok bo_X12_copies_14
  | 15, _ => bi_okkB_ok bo_X12_copies_15
  | 16, _ => bi_okkB_ok bo_X12_copies_16
  | 17, _ => bi_okkB_ok bo_X12_copies_17
  | 18, _ => bi_okkB_ok bo_X12_copies_18
  | 19, _ => bi_okkB_ok bo_X12_copies_19
  | b + 20, hb => absurd hb (by show ¬ b + 20 < 20; omega))
theorem bo_X12_crash : bi_oksB bt_M bt_P 30 ((yX12_crash, cX12_crash, 2, (some .boolean), RX12, 2, 41, [])) bt_X12_crash [([[], [], [5127], [], [7086, 1007, 7084, 7085]], []), ([[], [5136], [], []], []), ([[]], []), ([[], [], [6182, 1007, 6179, 6181, 44], []], [])] = true := by decide +kernel
theorem bm_X12_crash : ∀ b k, bt_P 30 b = some k → bi_okk bt_M bt_P 30 ((yX12_crash, cX12_crash, 2, (some .boolean), RX12, 2, 41, [])) k := fun b k h => bi_oksB_ok _ _ bo_X12_crash k (List.mem_of_getElem? (show bt_X12_crash[b]? = some k from h))
theorem bo_X12_cut : bi_oksB bt_M bt_P 31 ((yX12_cut, cX12_cut, 4, (some .int), RX12, 1, 20, [])) bt_X12_cut [([[], []], []), ([[], [5145], [], [], []], []), ([[], [5142], [], [], []], []), ([[]], [])] = true := by decide +kernel
theorem bm_X12_cut : ∀ b k, bt_P 31 b = some k → bi_okk bt_M bt_P 31 ((yX12_cut, cX12_cut, 4, (some .int), RX12, 1, 20, [])) k := fun b k h => bi_oksB_ok _ _ bo_X12_cut k (List.mem_of_getElem? (show bt_X12_cut[b]? = some k from h))
theorem bo_X12_data_0 : bi_okkB bt_M bt_P 32 ((yX12_data, cX12_data, 3, none, RX12, 5, 111, [])) (bt_X12_data.getD 0 bi_kd) [[], [5094], [], [6054]] [] = true := by decide +kernel
theorem bo_X12_data_1 : bi_okkB bt_M bt_P 32 ((yX12_data, cX12_data, 3, none, RX12, 5, 111, [])) (bt_X12_data.getD 1 bi_kd) [[], [7130, 1013, 7127, 7128, 7129]] [] = true := by decide +kernel
theorem bo_X12_data_2 : bi_okkB bt_M bt_P 32 ((yX12_data, cX12_data, 3, none, RX12, 5, 111, [])) (bt_X12_data.getD 2 bi_kd) [[], [], [], [], [6048], [], [6050], [], [6054], [], [7043, 1007, 7040, 7042, 53]] [] = true := by decide +kernel
theorem bo_X12_data_3 : bi_okkB bt_M bt_P 32 ((yX12_data, cX12_data, 3, none, RX12, 5, 111, [])) (bt_X12_data.getD 3 bi_kd) [[], [5094], [], [6054]] [] = true := by decide +kernel
theorem bo_X12_data_4 : bi_okkB bt_M bt_P 32 ((yX12_data, cX12_data, 3, none, RX12, 5, 111, [])) (bt_X12_data.getD 4 bi_kd) [[], [], [6015], [6190, 1007, 6187, 6189, 46], [], [5096]] [] = true := by decide +kernel
theorem bo_X12_data_5 : bi_okkB bt_M bt_P 32 ((yX12_data, cX12_data, 3, none, RX12, 5, 111, [])) (bt_X12_data.getD 5 bi_kd) [[], [], [6057], [], [], [6057]] [] = true := by decide +kernel
theorem bo_X12_data_6 : bi_okkB bt_M bt_P 32 ((yX12_data, cX12_data, 3, none, RX12, 5, 111, [])) (bt_X12_data.getD 6 bi_kd) [[], [], [6015], [6178, 1007, 6175, 6177, 43]] [] = true := by decide +kernel
theorem bo_X12_data_7 : bi_okkB bt_M bt_P 32 ((yX12_data, cX12_data, 3, none, RX12, 5, 111, [])) (bt_X12_data.getD 7 bi_kd) [] [] = true := by decide +kernel
theorem bo_X12_data_8 : bi_okkB bt_M bt_P 32 ((yX12_data, cX12_data, 3, none, RX12, 5, 111, [])) (bt_X12_data.getD 8 bi_kd) [[], [], [6054], [], [], [6054], [], [], [6056], [], [5096], [], [6056], [], [], [], [7126, 1007, 7123, 7125, 66]] [] = true := by decide +kernel
theorem bo_X12_data_9 : bi_okkB bt_M bt_P 32 ((yX12_data, cX12_data, 3, none, RX12, 5, 111, [])) (bt_X12_data.getD 9 bi_kd) [] [] = true := by decide +kernel
theorem bm_X12_data : ∀ b k, bt_P 32 b = some k → bi_okk bt_M bt_P 32 ((yX12_data, cX12_data, 3, none, RX12, 5, 111, [])) k := fun b k h => bi_allk (show bt_X12_data[b]? = some k from h) (fun b hb => match b, hb with
  | 0, _ => bi_okkB_ok bo_X12_data_0
  | 1, _ => bi_okkB_ok bo_X12_data_1
  | 2, _ => bi_okkB_ok bo_X12_data_2
  | 3, _ => bi_okkB_ok bo_X12_data_3
  | 4, _ => bi_okkB_ok bo_X12_data_4
  | 5, _ => bi_okkB_ok bo_X12_data_5
  | 6, _ => bi_okkB_ok bo_X12_data_6
  | 7, _ => bi_okkB_ok bo_X12_data_7
  | 8, _ => bi_okkB_ok bo_X12_data_8
  | 9, _ => bi_okkB_ok bo_X12_data_9
  | b + 10, hb => absurd hb (by show ¬ b + 10 < 10; omega))
theorem bo_X12_differ : bi_oksB bt_M bt_P 33 ((yX12_differ, cX12_differ, 5, (some .int), RX12, 2, 45, [])) bt_X12_differ [([[], [], [5127], [], [], [6145, 1007, 6142, 6144, 35], [], []], []), ([[]], []), ([[], []], []), ([[], [], [6023]], []), ([[], [], [7182, 1007, 7179, 7181, 76]], []), ([[], [5136], [], [6015], []], []), ([[], [], [7182, 1007, 7179, 7181, 76]], []), ([[], [], [6014], [], [6037], [], [], [], [6037], [], [], [7202, 1007, 7199, 7201, 77]], [])] = true := by decide +kernel
theorem bm_X12_differ : ∀ b k, bt_P 33 b = some k → bi_okk bt_M bt_P 33 ((yX12_differ, cX12_differ, 5, (some .int), RX12, 2, 45, [])) k := fun b k h => bi_oksB_ok _ _ bo_X12_differ k (List.mem_of_getElem? (show bt_X12_differ[b]? = some k from h))
theorem bo_X12_different : bi_oksB bt_M bt_P 34 ((yX12_different, cX12_different, 6, (some .int), RX12, 1, 20, [])) bt_X12_different [([[], [], [5151], [], [], [5151], [], [], [], []], []), ([[], []], []), ([[], [5146], [], [5143], [], [], [], [], [5151]], []), ([[]], []), ([[], [5146], [], [5143], [], [], [], [5151], [], [], [5142], [], [], []], []), ([[]], [])] = true := by decide +kernel
theorem bm_X12_different : ∀ b k, bt_P 34 b = some k → bi_okk bt_M bt_P 34 ((yX12_different, cX12_different, 6, (some .int), RX12, 1, 20, [])) k := fun b k h => bi_oksB_ok _ _ bo_X12_different k (List.mem_of_getElem? (show bt_X12_different[b]? = some k from h))
theorem bo_X12_fails : bi_oksB bt_M bt_P 35 ((yX12_fails, cX12_fails, 2, (some .int), RX12, 1, 20, [])) bt_X12_fails [([[], [], [5127], []], [])] = true := by decide +kernel
theorem bm_X12_fails : ∀ b k, bt_P 35 b = some k → bi_okk bt_M bt_P 35 ((yX12_fails, cX12_fails, 2, (some .int), RX12, 1, 20, [])) k := fun b k h => bi_oksB_ok _ _ bo_X12_fails k (List.mem_of_getElem? (show bt_X12_fails[b]? = some k from h))
theorem bo_X12_fill : bi_oksB bt_M bt_P 36 ((yX12_fill, cX12_fill, 9, (some .int), RX12, 7, 154, [])) bt_X12_fill [([[], [], [5127], [], [], [6145, 1007, 6142, 6144, 35], [], [], [], [], [], [6149, 1007, 6146, 6148, 36]], []), ([[], []], []), ([[], []], []), ([[], [], [], [], [5140], [], [6014], []], []), ([[]], []), ([[], []], []), ([[], []], []), ([[], [], [], [], [], [], [], [], [], [6153, 1007, 6150, 6152, 37], [], []], []), ([[]], []), ([[]], []), ([[]], []), ([], []), ([[]], []), ([[]], [])] = true := by decide +kernel
theorem bm_X12_fill : ∀ b k, bt_P 36 b = some k → bi_okk bt_M bt_P 36 ((yX12_fill, cX12_fill, 9, (some .int), RX12, 7, 154, [])) k := fun b k h => bi_oksB_ok _ _ bo_X12_fill k (List.mem_of_getElem? (show bt_X12_fill[b]? = some k from h))
theorem bo_X12_flies : bi_oksB bt_M bt_P 37 ((yX12_flies, cX12_flies, 2, (some (.object "TwinVaultsModel$Message")), RX12, 1, 20, [])) bt_X12_flies [([[]], []), ([[], [], [5164]], []), ([[]], []), ([[], [5162], [], []], []), ([], [])] = true := by decide +kernel
theorem bm_X12_flies : ∀ b k, bt_P 37 b = some k → bi_okk bt_M bt_P 37 ((yX12_flies, cX12_flies, 2, (some (.object "TwinVaultsModel$Message")), RX12, 1, 20, [])) k := fun b k h => bi_oksB_ok _ _ bo_X12_flies k (List.mem_of_getElem? (show bt_X12_flies[b]? = some k from h))
theorem bo_X12_flush : bi_oksB bt_M bt_P 38 ((yX12_flush, cX12_flush, 3, (some .int), RX12, 6, 129, [])) bt_X12_flush [([[], [], [5127], [], [], [6145, 1007, 6142, 6144, 35], [], []], []), ([[]], []), ([[], [5136], [], [6015], []], []), ([[], [], [6158, 1007, 6155, 6157, 38]], []), ([[], [5145], [], [6020], [], [], [5145], [], [6021], [], []], []), ([[]], []), ([], [])] = true := by decide +kernel
theorem bm_X12_flush : ∀ b k, bt_P 38 b = some k → bi_okk bt_M bt_P 38 ((yX12_flush, cX12_flush, 3, (some .int), RX12, 6, 129, [])) k := fun b k h => bi_oksB_ok _ _ bo_X12_flush k (List.mem_of_getElem? (show bt_X12_flush[b]? = some k from h))
theorem bo_X12_flushes : bi_oksB bt_M bt_P 39 ((yX12_flushes, cX12_flushes, 2, (some .boolean), RX12, 5, 108, [])) bt_X12_flushes [([[], [5145], [], [6019], [], [], [5145], [], [6021], [], [], []], []), ([[], [], [6162, 1007, 6159, 6161, 39]], []), ([[]], []), ([[]], []), ([], []), ([[], [6020], [], [6019]], []), ([[], [], [6015], [6178, 1007, 6175, 6177, 43]], []), ([[]], []), ([[], [], [], [6019], [], [5145], [], [6019], [], [], [5145], [], [6020], [], [], [], [1032, 1002, 5082, 1031], [6186, 1007, 6183, 6185, 45], [6020]], []), ([[]], [])] = true := by decide +kernel
theorem bm_X12_flushes : ∀ b k, bt_P 39 b = some k → bi_okk bt_M bt_P 39 ((yX12_flushes, cX12_flushes, 2, (some .boolean), RX12, 5, 108, [])) k := fun b k h => bi_oksB_ok _ _ bo_X12_flushes k (List.mem_of_getElem? (show bt_X12_flushes[b]? = some k from h))
theorem bo_X12_follows_0 : bi_okkB bt_M bt_P 40 ((yX12_follows, cX12_follows, 3, (some .boolean), RX12, 3, 62, [])) (bt_X12_follows.getD 0 bi_kd) [[], [], [6015], [6178, 1007, 6175, 6177, 43]] [] = true := by decide +kernel
theorem bo_X12_follows_1 : bi_okkB bt_M bt_P 40 ((yX12_follows, cX12_follows, 3, (some .boolean), RX12, 3, 62, [])) (bt_X12_follows.getD 1 bi_kd) [[]] [] = true := by decide +kernel
theorem bo_X12_follows_2 : bi_okkB bt_M bt_P 40 ((yX12_follows, cX12_follows, 3, (some .boolean), RX12, 3, 62, [])) (bt_X12_follows.getD 2 bi_kd) [[], [], [6018], [], [], [6033], [], [6016], []] [] = true := by decide +kernel
theorem bo_X12_follows_3 : bi_okkB bt_M bt_P 40 ((yX12_follows, cX12_follows, 3, (some .boolean), RX12, 3, 62, [])) (bt_X12_follows.getD 3 bi_kd) [[], [], [6016]] [] = true := by decide +kernel
theorem bo_X12_follows_4 : bi_okkB bt_M bt_P 40 ((yX12_follows, cX12_follows, 3, (some .boolean), RX12, 3, 62, [])) (bt_X12_follows.getD 4 bi_kd) [[], [6016], []] [] = true := by decide +kernel
theorem bo_X12_follows_5 : bi_okkB bt_M bt_P 40 ((yX12_follows, cX12_follows, 3, (some .boolean), RX12, 3, 62, [])) (bt_X12_follows.getD 5 bi_kd) [[], [], [6032], []] [] = true := by decide +kernel
theorem bo_X12_follows_6 : bi_okkB bt_M bt_P 40 ((yX12_follows, cX12_follows, 3, (some .boolean), RX12, 3, 62, [])) (bt_X12_follows.getD 6 bi_kd) [[]] [] = true := by decide +kernel
theorem bo_X12_follows_7 : bi_okkB bt_M bt_P 40 ((yX12_follows, cX12_follows, 3, (some .boolean), RX12, 3, 62, [])) (bt_X12_follows.getD 7 bi_kd) [[]] [] = true := by decide +kernel
theorem bo_X12_follows_8 : bi_okkB bt_M bt_P 40 ((yX12_follows, cX12_follows, 3, (some .boolean), RX12, 3, 62, [])) (bt_X12_follows.getD 8 bi_kd) [[6016], [], [6016]] [] = true := by decide +kernel
theorem bo_X12_follows_9 : bi_okkB bt_M bt_P 40 ((yX12_follows, cX12_follows, 3, (some .boolean), RX12, 3, 62, [])) (bt_X12_follows.getD 9 bi_kd) [[], [], [6027], [], [], [6025], [], [], [6039], [], [], [6029], [], [], [6031]] [] = true := by decide +kernel
theorem bo_X12_follows_10 : bi_okkB bt_M bt_P 40 ((yX12_follows, cX12_follows, 3, (some .boolean), RX12, 3, 62, [])) (bt_X12_follows.getD 10 bi_kd) [[], [], [6032]] [] = true := by decide +kernel
theorem bo_X12_follows_11 : bi_okkB bt_M bt_P 40 ((yX12_follows, cX12_follows, 3, (some .boolean), RX12, 3, 62, [])) (bt_X12_follows.getD 11 bi_kd) [[], [], [6040], [], [7028, 1013, 7025, 7026, 7027], []] [] = true := by decide +kernel
theorem bm_X12_follows : ∀ b k, bt_P 40 b = some k → bi_okk bt_M bt_P 40 ((yX12_follows, cX12_follows, 3, (some .boolean), RX12, 3, 62, [])) k := fun b k h => bi_allk (show bt_X12_follows[b]? = some k from h) (fun b hb => match b, hb with
  | 0, _ => bi_okkB_ok bo_X12_follows_0
  | 1, _ => bi_okkB_ok bo_X12_follows_1
  | 2, _ => bi_okkB_ok bo_X12_follows_2
  | 3, _ => bi_okkB_ok bo_X12_follows_3
  | 4, _ => bi_okkB_ok bo_X12_follows_4
  | 5, _ => bi_okkB_ok bo_X12_follows_5
  | 6, _ => bi_okkB_ok bo_X12_follows_6
  | 7, _ => bi_okkB_ok bo_X12_follows_7
  | 8, _ => bi_okkB_ok bo_X12_follows_8
  | 9, _ => bi_okkB_ok bo_X12_follows_9
  | 10, _ => bi_okkB_ok bo_X12_follows_10
  | 11, _ => bi_okkB_ok bo_X12_follows_11
  | b + 12, hb => absurd hb (by show ¬ b + 12 < 12; omega))
theorem bo_X12_force_0 : bi_okkB bt_M bt_P 41 ((yX12_force, cX12_force, 4, (some .int), RX12, 5, 108, [])) (bt_X12_force.getD 0 bi_kd) [[], [], [5127], [], [], [6145, 1007, 6142, 6144, 35], [], [], [], [], [], [6219, 1007, 6216, 6218, 49], [], []] [] = true := by decide +kernel
theorem bo_X12_force_1 : bi_okkB bt_M bt_P 41 ((yX12_force, cX12_force, 4, (some .int), RX12, 5, 108, [])) (bt_X12_force.getD 1 bi_kd) [[]] [] = true := by decide +kernel
theorem bo_X12_force_2 : bi_okkB bt_M bt_P 41 ((yX12_force, cX12_force, 4, (some .int), RX12, 5, 108, [])) (bt_X12_force.getD 2 bi_kd) [[], [6016], []] [] = true := by decide +kernel
theorem bo_X12_force_3 : bi_okkB bt_M bt_P 41 ((yX12_force, cX12_force, 4, (some .int), RX12, 5, 108, [])) (bt_X12_force.getD 3 bi_kd) [[], [], [6162, 1007, 6159, 6161, 39]] [] = true := by decide +kernel
theorem bo_X12_force_4 : bi_okkB bt_M bt_P 41 ((yX12_force, cX12_force, 4, (some .int), RX12, 5, 108, [])) (bt_X12_force.getD 4 bi_kd) [[], [], [6015], [6178, 1007, 6175, 6177, 43]] [] = true := by decide +kernel
theorem bo_X12_force_5 : bi_okkB bt_M bt_P 41 ((yX12_force, cX12_force, 4, (some .int), RX12, 5, 108, [])) (bt_X12_force.getD 5 bi_kd) [[]] [] = true := by decide +kernel
theorem bo_X12_force_6 : bi_okkB bt_M bt_P 41 ((yX12_force, cX12_force, 4, (some .int), RX12, 5, 108, [])) (bt_X12_force.getD 6 bi_kd) [[], [6016]] [] = true := by decide +kernel
theorem bo_X12_force_7 : bi_okkB bt_M bt_P 41 ((yX12_force, cX12_force, 4, (some .int), RX12, 5, 108, [])) (bt_X12_force.getD 7 bi_kd) [[], [], [6235, 1013, 6232, 6233, 6234], [6029], [], [], [6031]] [] = true := by decide +kernel
theorem bo_X12_force_8 : bi_okkB bt_M bt_P 41 ((yX12_force, cX12_force, 4, (some .int), RX12, 5, 108, [])) (bt_X12_force.getD 8 bi_kd) [[], [6029]] [] = true := by decide +kernel
theorem bo_X12_force_9 : bi_okkB bt_M bt_P 41 ((yX12_force, cX12_force, 4, (some .int), RX12, 5, 108, [])) (bt_X12_force.getD 9 bi_kd) [[], [6031]] [] = true := by decide +kernel
theorem bo_X12_force_10 : bi_okkB bt_M bt_P 41 ((yX12_force, cX12_force, 4, (some .int), RX12, 5, 108, [])) (bt_X12_force.getD 10 bi_kd) [[], [], [6025], [6029], [], [], [6027], [6031]] [] = true := by decide +kernel
theorem bo_X12_force_11 : bi_okkB bt_M bt_P 41 ((yX12_force, cX12_force, 4, (some .int), RX12, 5, 108, [])) (bt_X12_force.getD 11 bi_kd) [[], [], [6016], [], [], [6025], [], [], [6027], [], [], [6039], [], [], [6040], [], [], [6043], [], [], [6044], [], [7028, 1013, 7025, 7026, 7027], [], [], [], [6018], [], [6015]] [] = true := by decide +kernel
theorem bo_X12_force_12 : bi_okkB bt_M bt_P 41 ((yX12_force, cX12_force, 4, (some .int), RX12, 5, 108, [])) (bt_X12_force.getD 12 bi_kd) [[]] [] = true := by decide +kernel
theorem bo_X12_force_13 : bi_okkB bt_M bt_P 41 ((yX12_force, cX12_force, 4, (some .int), RX12, 5, 108, [])) (bt_X12_force.getD 13 bi_kd) [[]] [] = true := by decide +kernel
end
section
/-! the tables are as the code has them -/
theorem bo_X12_force_14 : bi_okkB bt_M bt_P 41 ((yX12_force, cX12_force, 4, (some .int), RX12, 5, 108, [])) (bt_X12_force.getD 14 bi_kd) [[7031, 1007, 7029, 7030], [7035, 1007, 7032, 7034, 52], [], [], [5129], [7003, 1013, 7000, 7001, 7002], [], [6018]] [] = true := by decide +kernel
theorem bm_X12_force : ∀ b k, bt_P 41 b = some k → bi_okk bt_M bt_P 41 ((yX12_force, cX12_force, 4, (some .int), RX12, 5, 108, [])) k := fun b k h => bi_allk (show bt_X12_force[b]? = some k from h) (fun b hb => match b, hb with
  | 0, _ => bi_okkB_ok bo_X12_force_0
  | 1, _ => bi_okkB_ok bo_X12_force_1
  | 2, _ => bi_okkB_ok bo_X12_force_2
  | 3, _ => bi_okkB_ok bo_X12_force_3
  | 4, _ => bi_okkB_ok bo_X12_force_4
  | 5, _ => bi_okkB_ok bo_X12_force_5
  | 6, _ => bi_okkB_ok bo_X12_force_6
  | 7, _ => bi_okkB_ok bo_X12_force_7
  | 8, _ => bi_okkB_ok bo_X12_force_8
  | 9, _ => bi_okkB_ok bo_X12_force_9
  | 10, _ => bi_okkB_ok bo_X12_force_10
  | 11, _ => bi_okkB_ok bo_X12_force_11
  | 12, _ => bi_okkB_ok bo_X12_force_12
  | 13, _ => bi_okkB_ok bo_X12_force_13
  | 14, _ => bi_okkB_ok bo_X12_force_14
  | b + 15, hb => absurd hb (by show ¬ b + 15 < 15; omega))
theorem bo_X12_free : bi_oksB bt_M bt_P 42 ((yX12_free, cX12_free, 4, (some .int), RX12, 2, 48, [])) bt_X12_free [([[], [5128], [], [], []], []), ([[], [], [5133]], []), ([[], [], [], [5161], [], [], [], [], [], [], [6194, 1007, 6191, 6193, 47], [], [], []], []), ([[]], [])] = true := by decide +kernel
theorem bm_X12_free : ∀ b k, bt_P 42 b = some k → bi_okk bt_M bt_P 42 ((yX12_free, cX12_free, 4, (some .int), RX12, 2, 48, [])) k := fun b k h => bi_oksB_ok _ _ bo_X12_free k (List.mem_of_getElem? (show bt_X12_free[b]? = some k from h))
theorem bo_X12_given : bi_oksB bt_M bt_P 43 ((yX12_given, cX12_given, 3, none, RX12, 4, 83, [])) bt_X12_given [([[], [], [6015], [6178, 1007, 6175, 6177, 43]], []), ([], []), ([[], [], [6016], [], [], [5093], [6025], [], [], [5093], [6039], [], [], [6027], [], [], [6029], [], [], [6031], [], [], [], [5094], [7035, 1007, 7032, 7034, 52], [], [7028, 1013, 7025, 7026, 7027], [], [], [5129], [7003, 1013, 7000, 7001, 7002], [], [], [], [], [], [], [], [7043, 1007, 7040, 7042, 53]], [])] = true := by decide +kernel
theorem bm_X12_given : ∀ b k, bt_P 43 b = some k → bi_okk bt_M bt_P 43 ((yX12_given, cX12_given, 3, none, RX12, 4, 83, [])) k := fun b k h => bi_oksB_ok _ _ bo_X12_given k (List.mem_of_getElem? (show bt_X12_given[b]? = some k from h))
theorem bo_X12_goesBack_0 : bi_okkB bt_M bt_P 44 ((yX12_goesBack, cX12_goesBack, 5, none, RX12, 4, 83, [])) (bt_X12_goesBack.getD 0 bi_kd) [[], [], [6015], [6178, 1007, 6175, 6177, 43]] [] = true := by decide +kernel
theorem bo_X12_goesBack_1 : bi_okkB bt_M bt_P 44 ((yX12_goesBack, cX12_goesBack, 5, none, RX12, 4, 83, [])) (bt_X12_goesBack.getD 1 bi_kd) [] [] = true := by decide +kernel
theorem bo_X12_goesBack_2 : bi_okkB bt_M bt_P 44 ((yX12_goesBack, cX12_goesBack, 5, none, RX12, 4, 83, [])) (bt_X12_goesBack.getD 2 bi_kd) [[]] [] = true := by decide +kernel
theorem bo_X12_goesBack_3 : bi_okkB bt_M bt_P 44 ((yX12_goesBack, cX12_goesBack, 5, none, RX12, 4, 83, [])) (bt_X12_goesBack.getD 3 bi_kd) [[]] [] = true := by decide +kernel
theorem bo_X12_goesBack_4 : bi_okkB bt_M bt_P 44 ((yX12_goesBack, cX12_goesBack, 5, none, RX12, 4, 83, [])) (bt_X12_goesBack.getD 4 bi_kd) [[], [6037], [], [], [7158, 1013, 7155, 7156, 7157], []] [] = true := by decide +kernel
theorem bo_X12_goesBack_5 : bi_okkB bt_M bt_P 44 ((yX12_goesBack, cX12_goesBack, 5, none, RX12, 4, 83, [])) (bt_X12_goesBack.getD 5 bi_kd) [[], [], [], [6014], [], [], [6019], [7079, 1007, 7076, 7078, 60], [], [], [5155], [1082], [6059], [], [], [5155], [1082], [6061], [], []] [] = true := by decide +kernel
theorem bo_X12_goesBack_6 : bi_okkB bt_M bt_P 44 ((yX12_goesBack, cX12_goesBack, 5, none, RX12, 4, 83, [])) (bt_X12_goesBack.getD 6 bi_kd) [[], [], [5155]] [] = true := by decide +kernel
theorem bo_X12_goesBack_7 : bi_okkB bt_M bt_P 44 ((yX12_goesBack, cX12_goesBack, 5, none, RX12, 4, 83, [])) (bt_X12_goesBack.getD 7 bi_kd) [[], [6059], [], [], [5156], [], [], [], [], [6061], [], [], [5157], [], [], [], []] [] = true := by decide +kernel
theorem bo_X12_goesBack_8 : bi_okkB bt_M bt_P 44 ((yX12_goesBack, cX12_goesBack, 5, none, RX12, 4, 83, [])) (bt_X12_goesBack.getD 8 bi_kd) [[], [], [6019], [], [], [6020], [], [], [6021], [], [], [6063], [], [], [6065]] [] = true := by decide +kernel
theorem bo_X12_goesBack_9 : bi_okkB bt_M bt_P 44 ((yX12_goesBack, cX12_goesBack, 5, none, RX12, 4, 83, [])) (bt_X12_goesBack.getD 9 bi_kd) [[], [6023]] [] = true := by decide +kernel
theorem bo_X12_goesBack_10 : bi_okkB bt_M bt_P 44 ((yX12_goesBack, cX12_goesBack, 5, none, RX12, 4, 83, [])) (bt_X12_goesBack.getD 10 bi_kd) [[], [6035], [], [6023], [], [], [], []] [] = true := by decide +kernel
theorem bo_X12_goesBack_11 : bi_okkB bt_M bt_P 44 ((yX12_goesBack, cX12_goesBack, 5, none, RX12, 4, 83, [])) (bt_X12_goesBack.getD 11 bi_kd) [[], [], [6023], [], [], [6023]] [] = true := by decide +kernel
theorem bo_X12_goesBack_12 : bi_okkB bt_M bt_P 44 ((yX12_goesBack, cX12_goesBack, 5, none, RX12, 4, 83, [])) (bt_X12_goesBack.getD 12 bi_kd) [[], [], [6016], [], [], [6025], [], [], [6027], [], [], [6039], [], [], [6029], [], [], [6031], [], [], [6044], [], [], [5129], [7003, 1013, 7000, 7001, 7002]] [] = true := by decide +kernel
theorem bm_X12_goesBack : ∀ b k, bt_P 44 b = some k → bi_okk bt_M bt_P 44 ((yX12_goesBack, cX12_goesBack, 5, none, RX12, 4, 83, [])) k := fun b k h => bi_allk (show bt_X12_goesBack[b]? = some k from h) (fun b hb => match b, hb with
  | 0, _ => bi_okkB_ok bo_X12_goesBack_0
  | 1, _ => bi_okkB_ok bo_X12_goesBack_1
  | 2, _ => bi_okkB_ok bo_X12_goesBack_2
  | 3, _ => bi_okkB_ok bo_X12_goesBack_3
  | 4, _ => bi_okkB_ok bo_X12_goesBack_4
  | 5, _ => bi_okkB_ok bo_X12_goesBack_5
  | 6, _ => bi_okkB_ok bo_X12_goesBack_6
  | 7, _ => bi_okkB_ok bo_X12_goesBack_7
  | 8, _ => bi_okkB_ok bo_X12_goesBack_8
  | 9, _ => bi_okkB_ok bo_X12_goesBack_9
  | 10, _ => bi_okkB_ok bo_X12_goesBack_10
  | 11, _ => bi_okkB_ok bo_X12_goesBack_11
  | 12, _ => bi_okkB_ok bo_X12_goesBack_12
  | b + 13, hb => absurd hb (by show ¬ b + 13 < 13; omega))
theorem bo_X12_goesDown : bi_oksB bt_M bt_P 45 ((yX12_goesDown, cX12_goesDown, 2, none, RX12, 1, 20, [])) bt_X12_goesDown [([[], [5136], [], [], [], [], [5138], [], [], []], [])] = true := by decide +kernel
theorem bm_X12_goesDown : ∀ b k, bt_P 45 b = some k → bi_okk bt_M bt_P 45 ((yX12_goesDown, cX12_goesDown, 2, none, RX12, 1, 20, [])) k := fun b k h => bi_oksB_ok _ _ bo_X12_goesDown k (List.mem_of_getElem? (show bt_X12_goesDown[b]? = some k from h))
theorem bo_X12_greeted_0 : bi_okkB bt_M bt_P 46 ((yX12_greeted, cX12_greeted, 5, none, RX12, 4, 83, [])) (bt_X12_greeted.getD 0 bi_kd) [[], [], [], []] [] = true := by decide +kernel
theorem bo_X12_greeted_1 : bi_okkB bt_M bt_P 46 ((yX12_greeted, cX12_greeted, 5, none, RX12, 4, 83, [])) (bt_X12_greeted.getD 1 bi_kd) [[], [], [5096]] [] = true := by decide +kernel
theorem bo_X12_greeted_2 : bi_okkB bt_M bt_P 46 ((yX12_greeted, cX12_greeted, 5, none, RX12, 4, 83, [])) (bt_X12_greeted.getD 2 bi_kd) [[]] [] = true := by decide +kernel
theorem bo_X12_greeted_3 : bi_okkB bt_M bt_P 46 ((yX12_greeted, cX12_greeted, 5, none, RX12, 4, 83, [])) (bt_X12_greeted.getD 3 bi_kd) [[], [], [5098], [], [], [7158, 1013, 7155, 7156, 7157]] [] = true := by decide +kernel
theorem bo_X12_greeted_4 : bi_okkB bt_M bt_P 46 ((yX12_greeted, cX12_greeted, 5, none, RX12, 4, 83, [])) (bt_X12_greeted.getD 4 bi_kd) [[], [5098], [], [], []] [] = true := by decide +kernel
theorem bo_X12_greeted_5 : bi_okkB bt_M bt_P 46 ((yX12_greeted, cX12_greeted, 5, none, RX12, 4, 83, [])) (bt_X12_greeted.getD 5 bi_kd) [[]] [] = true := by decide +kernel
theorem bo_X12_greeted_6 : bi_okkB bt_M bt_P 46 ((yX12_greeted, cX12_greeted, 5, none, RX12, 4, 83, [])) (bt_X12_greeted.getD 6 bi_kd) [[], [], [6015], [6178, 1007, 6175, 6177, 43]] [] = true := by decide +kernel
theorem bo_X12_greeted_7 : bi_okkB bt_M bt_P 46 ((yX12_greeted, cX12_greeted, 5, none, RX12, 4, 83, [])) (bt_X12_greeted.getD 7 bi_kd) [] [] = true := by decide +kernel
theorem bo_X12_greeted_8 : bi_okkB bt_M bt_P 46 ((yX12_greeted, cX12_greeted, 5, none, RX12, 4, 83, [])) (bt_X12_greeted.getD 8 bi_kd) [[], [], [6025], [], [], [6029], [], [], [6031], [], [6027], []] [] = true := by decide +kernel
theorem bo_X12_greeted_9 : bi_okkB bt_M bt_P 46 ((yX12_greeted, cX12_greeted, 5, none, RX12, 4, 83, [])) (bt_X12_greeted.getD 9 bi_kd) [[], [], [6027]] [] = true := by decide +kernel
theorem bo_X12_greeted_10 : bi_okkB bt_M bt_P 46 ((yX12_greeted, cX12_greeted, 5, none, RX12, 4, 83, [])) (bt_X12_greeted.getD 10 bi_kd) [[], [], [6039], [], [], [6040], [], [], [6043], [], [], [5129], [7003, 1013, 7000, 7001, 7002], [], [], [], [], [], [], [], [7043, 1007, 7040, 7042, 53]] [] = true := by decide +kernel
theorem bm_X12_greeted : ∀ b k, bt_P 46 b = some k → bi_okk bt_M bt_P 46 ((yX12_greeted, cX12_greeted, 5, none, RX12, 4, 83, [])) k := fun b k h => bi_allk (show bt_X12_greeted[b]? = some k from h) (fun b hb => match b, hb with
  | 0, _ => bi_okkB_ok bo_X12_greeted_0
  | 1, _ => bi_okkB_ok bo_X12_greeted_1
  | 2, _ => bi_okkB_ok bo_X12_greeted_2
  | 3, _ => bi_okkB_ok bo_X12_greeted_3
  | 4, _ => bi_okkB_ok bo_X12_greeted_4
  | 5, _ => bi_okkB_ok bo_X12_greeted_5
  | 6, _ => bi_okkB_ok bo_X12_greeted_6
  | 7, _ => bi_okkB_ok bo_X12_greeted_7
  | 8, _ => bi_okkB_ok bo_X12_greeted_8
  | 9, _ => bi_okkB_ok bo_X12_greeted_9
  | 10, _ => bi_okkB_ok bo_X12_greeted_10
  | b + 11, hb => absurd hb (by show ¬ b + 11 < 11; omega))
theorem bo_X12_group_0 : bi_okkB bt_M bt_P 47 ((yX12_group, cX12_group, 5, (some .int), RX12, 2, 40, [])) (bt_X12_group.getD 0 bi_kd) [[], [], [5127], [], []] [] = true := by decide +kernel
theorem bo_X12_group_1 : bi_okkB bt_M bt_P 47 ((yX12_group, cX12_group, 5, (some .int), RX12, 2, 40, [])) (bt_X12_group.getD 1 bi_kd) [[], []] [] = true := by decide +kernel
theorem bo_X12_group_2 : bi_okkB bt_M bt_P 47 ((yX12_group, cX12_group, 5, (some .int), RX12, 2, 40, [])) (bt_X12_group.getD 2 bi_kd) [[], []] [] = true := by decide +kernel
theorem bo_X12_group_3 : bi_okkB bt_M bt_P 47 ((yX12_group, cX12_group, 5, (some .int), RX12, 2, 40, [])) (bt_X12_group.getD 3 bi_kd) [[], []] [] = true := by decide +kernel
theorem bo_X12_group_4 : bi_okkB bt_M bt_P 47 ((yX12_group, cX12_group, 5, (some .int), RX12, 2, 40, [])) (bt_X12_group.getD 4 bi_kd) [[]] [] = true := by decide +kernel
theorem bo_X12_group_5 : bi_okkB bt_M bt_P 47 ((yX12_group, cX12_group, 5, (some .int), RX12, 2, 40, [])) (bt_X12_group.getD 5 bi_kd) [[], [5133], []] [] = true := by decide +kernel
theorem bo_X12_group_6 : bi_okkB bt_M bt_P 47 ((yX12_group, cX12_group, 5, (some .int), RX12, 2, 40, [])) (bt_X12_group.getD 6 bi_kd) [[]] [] = true := by decide +kernel
theorem bo_X12_group_7 : bi_okkB bt_M bt_P 47 ((yX12_group, cX12_group, 5, (some .int), RX12, 2, 40, [])) (bt_X12_group.getD 7 bi_kd) [[], [5139], [], [5133], [], [], [], [5140], [], [5133], [], [], [], []] [] = true := by decide +kernel
theorem bo_X12_group_8 : bi_okkB bt_M bt_P 47 ((yX12_group, cX12_group, 5, (some .int), RX12, 2, 40, [])) (bt_X12_group.getD 8 bi_kd) [[], []] [] = true := by decide +kernel
theorem bo_X12_group_9 : bi_okkB bt_M bt_P 47 ((yX12_group, cX12_group, 5, (some .int), RX12, 2, 40, [])) (bt_X12_group.getD 9 bi_kd) [[5078, 6009, 1013], [], [6012, 1013, 6010, 6011], [], [], [], [5133], [6014], [], [], [6015], [], []] [] = true := by decide +kernel
theorem bo_X12_group_10 : bi_okkB bt_M bt_P 47 ((yX12_group, cX12_group, 5, (some .int), RX12, 2, 40, [])) (bt_X12_group.getD 10 bi_kd) [[]] [] = true := by decide +kernel
theorem bo_X12_group_11 : bi_okkB bt_M bt_P 47 ((yX12_group, cX12_group, 5, (some .int), RX12, 2, 40, [])) (bt_X12_group.getD 11 bi_kd) [[]] [] = true := by decide +kernel
theorem bo_X12_group_12 : bi_okkB bt_M bt_P 47 ((yX12_group, cX12_group, 5, (some .int), RX12, 2, 40, [])) (bt_X12_group.getD 12 bi_kd) [[6016], [], [], [], [], [1082], [6062], [], [5161], [], [], [], [], [5133], [], [], [], []] [] = true := by decide +kernel
theorem bo_X12_group_13 : bi_okkB bt_M bt_P 47 ((yX12_group, cX12_group, 5, (some .int), RX12, 2, 40, [])) (bt_X12_group.getD 13 bi_kd) [[], [], [5133], [], [], [5133], [], [5133], [], []] [] = true := by decide +kernel
theorem bm_X12_group : ∀ b k, bt_P 47 b = some k → bi_okk bt_M bt_P 47 ((yX12_group, cX12_group, 5, (some .int), RX12, 2, 40, [])) k := fun b k h => bi_allk (show bt_X12_group[b]? = some k from h) (fun b hb => match b, hb with
  | 0, _ => bi_okkB_ok bo_X12_group_0
  | 1, _ => bi_okkB_ok bo_X12_group_1
  | 2, _ => bi_okkB_ok bo_X12_group_2
  | 3, _ => bi_okkB_ok bo_X12_group_3
  | 4, _ => bi_okkB_ok bo_X12_group_4
  | 5, _ => bi_okkB_ok bo_X12_group_5
  | 6, _ => bi_okkB_ok bo_X12_group_6
  | 7, _ => bi_okkB_ok bo_X12_group_7
  | 8, _ => bi_okkB_ok bo_X12_group_8
  | 9, _ => bi_okkB_ok bo_X12_group_9
  | 10, _ => bi_okkB_ok bo_X12_group_10
  | 11, _ => bi_okkB_ok bo_X12_group_11
  | 12, _ => bi_okkB_ok bo_X12_group_12
  | 13, _ => bi_okkB_ok bo_X12_group_13
  | b + 14, hb => absurd hb (by show ¬ b + 14 < 14; omega))
theorem bo_X12_had : bi_oksB bt_M bt_P 48 ((yX12_had, cX12_had, 2, none, RX12, 4, 83, [])) bt_X12_had [([[], [], [6015], [6178, 1007, 6175, 6177, 43]], []), ([], []), ([[], [], [6027], [6025], [], [], [6027], [6039], [], [], [6027], [], [], [6040], [], [], [6043], [], [], [5129], [7003, 1013, 7000, 7001, 7002]], [])] = true := by decide +kernel
theorem bm_X12_had : ∀ b k, bt_P 48 b = some k → bi_okk bt_M bt_P 48 ((yX12_had, cX12_had, 2, none, RX12, 4, 83, [])) k := fun b k h => bi_oksB_ok _ _ bo_X12_had k (List.mem_of_getElem? (show bt_X12_had[b]? = some k from h))
end
section
/-! the tables are as the code has them -/
theorem bo_X12_init_0 : bi_okkB bt_M bt_P 49 ((yX12_init, cX12_init, 4, none, RX12, 2, 41, [])) (bt_X12_init.getD 0 bi_kd) [[], [5073, 1028, 1029], [], [], [5126], [], [], [], [], [], [], [], [], [5136], [], [], [1082], [5137], [], [], [1082], [], [], [], [], [], [], [], [], [5138], [], [], [1082], [5139], [], [], [1082], [5140], [], [5074], [1082], [5142], [], [5074], [1082], [5143], [], [5074], [1082], [5144], [], [5074], [1082], [5145], [], [5075], [1082], [5146], [], [5075], [1082], [5147], [], [], [1082], [5148], [], [], [1082], [5149], [], [], [1082], [5150], [], [], [5152], [], [], [5153], [], [], [5154], [], [5075], [1082], [5156], [], [5075], [1082], [5157], [], [], [], [5076, 5077, 1082], [5158], [], [], [], [5076, 5077, 1082], [5159], [], [], [1082], [5160], [], [], [5078, 5079], [5161], [], [], [5080, 5081], [5162], [], [], [5080, 5081], [5163], [], [], [], [], [1032, 1002, 5082, 1031], [1035, 1002, 5083, 1034], [5128], [], [], [], [], [1032, 1002, 5082, 1031], [1035, 1002, 5083, 1034], [5129], [], [], [], [], [1032, 1002, 5082, 1031], [1035, 1002, 5083, 1034], [5130], [], [], [5165]] [] = true := by decide +kernel
theorem bo_X12_init_1 : bi_okkB bt_M bt_P 49 ((yX12_init, cX12_init, 4, none, RX12, 2, 41, [])) (bt_X12_init.getD 1 bi_kd) [[], [5165], [], [5163], []] [] = true := by decide +kernel
theorem bo_X12_init_2 : bi_okkB bt_M bt_P 49 ((yX12_init, cX12_init, 4, none, RX12, 2, 41, [])) (bt_X12_init.getD 2 bi_kd) [[], [5163], [], [5165], [5080, 5084, 1008], [], [5087, 1008, 5085, 5086], [], [], [], [5165], [], [], [5165]] [] = true := by decide +kernel
theorem bo_X12_init_3 : bi_okkB bt_M bt_P 49 ((yX12_init, cX12_init, 4, none, RX12, 2, 41, [])) (bt_X12_init.getD 3 bi_kd) [] [] = true := by decide +kernel
theorem bm_X12_init : ∀ b k, bt_P 49 b = some k → bi_okk bt_M bt_P 49 ((yX12_init, cX12_init, 4, none, RX12, 2, 41, [])) k := fun b k h => bi_allk (show bt_X12_init[b]? = some k from h) (fun b hb => match b, hb with
  | 0, _ => bi_okkB_ok bo_X12_init_0
  | 1, _ => bi_okkB_ok bo_X12_init_1
  | 2, _ => bi_okkB_ok bo_X12_init_2
  | 3, _ => bi_okkB_ok bo_X12_init_3
  | b + 4, hb => absurd hb (by show ¬ b + 4 < 4; omega))
theorem bo_X12_isPlace : bi_oksB bt_M bt_P 50 ((yX12_isPlace, cX12_isPlace, 4, (some .boolean), RX12, 1, 20, [])) bt_X12_isPlace [([[]], []), ([[]], []), ([[], [], [5139], [], [6014], []], []), ([[]], []), ([[], [], [5140], [], [6014], []], []), ([[]], []), ([[]], []), ([], [])] = true := by decide +kernel
theorem bm_X12_isPlace : ∀ b k, bt_P 50 b = some k → bi_okk bt_M bt_P 50 ((yX12_isPlace, cX12_isPlace, 4, (some .boolean), RX12, 1, 20, [])) k := fun b k h => bi_oksB_ok _ _ bo_X12_isPlace k (List.mem_of_getElem? (show bt_X12_isPlace[b]? = some k from h))
theorem bo_X12_isSite : bi_oksB bt_M bt_P 51 ((yX12_isSite, cX12_isSite, 1, (some .boolean), RX12, 1, 20, [])) bt_X12_isSite [([[]], []), ([[], []], []), ([[]], []), ([[]], []), ([], [])] = true := by decide +kernel
theorem bm_X12_isSite : ∀ b k, bt_P 51 b = some k → bi_okk bt_M bt_P 51 ((yX12_isSite, cX12_isSite, 1, (some .boolean), RX12, 1, 20, [])) k := fun b k h => bi_oksB_ok _ _ bo_X12_isSite k (List.mem_of_getElem? (show bt_X12_isSite[b]? = some k from h))
theorem bo_X12_isTaken : bi_oksB bt_M bt_P 52 ((yX12_isTaken, cX12_isTaken, 4, none, RX12, 1, 20, [])) bt_X12_isTaken [([[], [5158], [], [], [], [5160], [], [], [], [], [], [5159], [], [], [], [5160], [], [], [], [], [], [5160], [], [], [], [], [], []], [])] = true := by decide +kernel
theorem bm_X12_isTaken : ∀ b k, bt_P 52 b = some k → bi_okk bt_M bt_P 52 ((yX12_isTaken, cX12_isTaken, 4, none, RX12, 1, 20, [])) k := fun b k h => bi_oksB_ok _ _ bo_X12_isTaken k (List.mem_of_getElem? (show bt_X12_isTaken[b]? = some k from h))
theorem bo_X12_item : bi_oksB bt_M bt_P 53 ((yX12_item, cX12_item, 5, (some .int), RX12, 2, 41, [])) bt_X12_item [([[], [], [5127], [], [], [7103, 1007, 7100, 7102, 61], [], []], []), ([[]], []), ([[], [], [5096]], []), ([[]], []), ([[], []], []), ([[], [], [7182, 1007, 7179, 7181, 76]], []), ([[]], []), ([[], [5098], [], []], []), ([[], []], []), ([[], [5100], [], []], []), ([[], [5102], [], []], []), ([], [])] = true := by decide +kernel
theorem bm_X12_item : ∀ b k, bt_P 53 b = some k → bi_okk bt_M bt_P 53 ((yX12_item, cX12_item, 5, (some .int), RX12, 2, 41, [])) k := fun b k h => bi_oksB_ok _ _ bo_X12_item k (List.mem_of_getElem? (show bt_X12_item[b]? = some k from h))
theorem bo_X12_know : bi_oksB bt_M bt_P 54 ((yX12_know, cX12_know, 3, none, RX12, 1, 20, [])) bt_X12_know [([[], [6063]], []), ([], []), ([[], []], []), ([[], [], [6062], []], []), ([[], [6062], [], [], [], []], []), ([[], [6019], []], []), ([[]], []), ([[], [6062], [], [5143], [], [], []], []), ([[], [6062], [], [5143], [], [], [], []], []), ([[], [5142], [], [], []], []), ([[], [], [6063]], [])] = true := by decide +kernel
theorem bm_X12_know : ∀ b k, bt_P 54 b = some k → bi_okk bt_M bt_P 54 ((yX12_know, cX12_know, 3, none, RX12, 1, 20, [])) k := fun b k h => bi_oksB_ok _ _ bo_X12_know k (List.mem_of_getElem? (show bt_X12_know[b]? = some k from h))
theorem bo_X12_lacked : bi_oksB bt_M bt_P 55 ((yX12_lacked, cX12_lacked, 3, none, RX12, 4, 91, [])) bt_X12_lacked [([[], []], []), ([[], [], [7158, 1013, 7155, 7156, 7157]], []), ([[], [], [6027]], []), ([[]], []), ([[]], []), ([[6039], [], [], [7067, 1007, 7064, 7066, 57]], [])] = true := by decide +kernel
theorem bm_X12_lacked : ∀ b k, bt_P 55 b = some k → bi_okk bt_M bt_P 55 ((yX12_lacked, cX12_lacked, 3, none, RX12, 4, 91, [])) k := fun b k h => bi_oksB_ok _ _ bo_X12_lacked k (List.mem_of_getElem? (show bt_X12_lacked[b]? = some k from h))
theorem bo_X12_leave : bi_oksB bt_M bt_P 56 ((yX12_leave, cX12_leave, 4, (some .int), RX12, 6, 129, [])) bt_X12_leave [([[], [], [5127], [], [], [6145, 1007, 6142, 6144, 35], [], [], [], [], [], [6219, 1007, 6216, 6218, 49], [], []], []), ([[]], []), ([[], [6019], [], [6223, 1013, 6220, 6221, 6222]], []), ([[], [6033], []], []), ([[]], []), ([[], [], [6227, 1007, 6224, 6226, 50]], []), ([[]], []), ([[], [], [6015], [6178, 1007, 6175, 6177, 43]], []), ([[]], []), ([[], [], [6016], [], [], [6032], [], [6235, 1013, 6232, 6233, 6234]], [])] = true := by decide +kernel
theorem bm_X12_leave : ∀ b k, bt_P 56 b = some k → bi_okk bt_M bt_P 56 ((yX12_leave, cX12_leave, 4, (some .int), RX12, 6, 129, [])) k := fun b k h => bi_oksB_ok _ _ bo_X12_leave k (List.mem_of_getElem? (show bt_X12_leave[b]? = some k from h))
theorem bo_X12_lineOf : bi_oksB bt_M bt_P 57 ((yX12_lineOf, cX12_lineOf, 4, (some .int), RX12, 1, 20, [])) bt_X12_lineOf [([[], [5160], [], [], [], [], []], []), ([[]], []), ([[], [5158], [], [], [], [], []], []), ([[]], []), ([[]], []), ([[]], []), ([[], [5159], [], [], [], []], []), ([], [])] = true := by decide +kernel
theorem bm_X12_lineOf : ∀ b k, bt_P 57 b = some k → bi_okk bt_M bt_P 57 ((yX12_lineOf, cX12_lineOf, 4, (some .int), RX12, 1, 20, [])) k := fun b k h => bi_oksB_ok _ _ bo_X12_lineOf k (List.mem_of_getElem? (show bt_X12_lineOf[b]? = some k from h))
theorem bo_X12_lost : bi_oksB bt_M bt_P 58 ((yX12_lost, cX12_lost, 5, (some .int), RX12, 2, 41, [])) bt_X12_lost [([[], [], [5127], [], [], [6145, 1007, 6142, 6144, 35], [], []], []), ([[]], []), ([[], [], [6059], []], []), ([[]], []), ([[], []], []), ([[], [], [7182, 1007, 7179, 7181, 76]], []), ([[]], []), ([[], [6059], [], [], [], [5140], [], [6014], [], []], []), ([[], []], []), ([[], [6059], [], [], [], [5140], [], [6014], [], []], []), ([[], [6061], [], []], []), ([], [])] = true := by decide +kernel
theorem bm_X12_lost : ∀ b k, bt_P 58 b = some k → bi_okk bt_M bt_P 58 ((yX12_lost, cX12_lost, 5, (some .int), RX12, 2, 41, [])) k := fun b k h => bi_oksB_ok _ _ bo_X12_lost k (List.mem_of_getElem? (show bt_X12_lost[b]? = some k from h))
end
section
/-! the tables are as the code has them -/
theorem bo_X12_message : bi_oksB bt_M bt_P 59 ((yX12_message, cX12_message, 4, (some .int), RX12, 2, 41, [])) bt_X12_message [([[], [], [5127], [], [], [7103, 1007, 7100, 7102, 61], [], []], []), ([[]], []), ([[]], []), ([[], [5091]], []), ([[], [], [5089], [6015], [], [], [5089], [6014], []], []), ([[], [5090]], []), ([[], [5092]], []), ([[], [5093]], []), ([[], [5094]], []), ([[], [5095]], []), ([[], [5096]], []), ([[]], [])] = true := by decide +kernel
theorem bm_X12_message : ∀ b k, bt_P 59 b = some k → bi_okk bt_M bt_P 59 ((yX12_message, cX12_message, 4, (some .int), RX12, 2, 41, [])) k := fun b k h => bi_oksB_ok _ _ bo_X12_message k (List.mem_of_getElem? (show bt_X12_message[b]? = some k from h))
theorem bo_X12_needs_0 : bi_okkB bt_M bt_P 60 ((yX12_needs, cX12_needs, 9, (some .int), RX12, 1, 20, [])) (bt_X12_needs.getD 0 bi_kd) [[], [6065]] [] = true := by decide +kernel
theorem bo_X12_needs_1 : bi_okkB bt_M bt_P 60 ((yX12_needs, cX12_needs, 9, (some .int), RX12, 1, 20, [])) (bt_X12_needs.getD 1 bi_kd) [[], [6066], [], [6056], []] [] = true := by decide +kernel
theorem bo_X12_needs_2 : bi_okkB bt_M bt_P 60 ((yX12_needs, cX12_needs, 9, (some .int), RX12, 1, 20, [])) (bt_X12_needs.getD 2 bi_kd) [[], [], [5151], [], [], [5151], [], [], [], [5145], [], [6019], [], [], [], [6023], [], [], [], [], [], [], [6019], []] [] = true := by decide +kernel
theorem bo_X12_needs_3 : bi_okkB bt_M bt_P 60 ((yX12_needs, cX12_needs, 9, (some .int), RX12, 1, 20, [])) (bt_X12_needs.getD 3 bi_kd) [[]] [] = true := by decide +kernel
theorem bo_X12_needs_4 : bi_okkB bt_M bt_P 60 ((yX12_needs, cX12_needs, 9, (some .int), RX12, 1, 20, [])) (bt_X12_needs.getD 4 bi_kd) [[], [5145], [], [], [], []] [] = true := by decide +kernel
theorem bo_X12_needs_5 : bi_okkB bt_M bt_P 60 ((yX12_needs, cX12_needs, 9, (some .int), RX12, 1, 20, [])) (bt_X12_needs.getD 5 bi_kd) [[], [5145], [], [6021], [], []] [] = true := by decide +kernel
theorem bo_X12_needs_6 : bi_okkB bt_M bt_P 60 ((yX12_needs, cX12_needs, 9, (some .int), RX12, 1, 20, [])) (bt_X12_needs.getD 6 bi_kd) [[], [5145], [], [6021], [], [], [], []] [] = true := by decide +kernel
theorem bo_X12_needs_7 : bi_okkB bt_M bt_P 60 ((yX12_needs, cX12_needs, 9, (some .int), RX12, 1, 20, [])) (bt_X12_needs.getD 7 bi_kd) [[]] [] = true := by decide +kernel
theorem bo_X12_needs_8 : bi_okkB bt_M bt_P 60 ((yX12_needs, cX12_needs, 9, (some .int), RX12, 1, 20, [])) (bt_X12_needs.getD 8 bi_kd) [[], [5145], [], [6037], [], [], [], []] [] = true := by decide +kernel
theorem bo_X12_needs_9 : bi_okkB bt_M bt_P 60 ((yX12_needs, cX12_needs, 9, (some .int), RX12, 1, 20, [])) (bt_X12_needs.getD 9 bi_kd) [[], [5145], [], [6037], [], [], [], [], []] [] = true := by decide +kernel
theorem bo_X12_needs_10 : bi_okkB bt_M bt_P 60 ((yX12_needs, cX12_needs, 9, (some .int), RX12, 1, 20, [])) (bt_X12_needs.getD 10 bi_kd) [[], [5146], [], [5143], [], [], [], [], [5151]] [] = true := by decide +kernel
theorem bo_X12_needs_11 : bi_okkB bt_M bt_P 60 ((yX12_needs, cX12_needs, 9, (some .int), RX12, 1, 20, [])) (bt_X12_needs.getD 11 bi_kd) [[], [5147], [], [5143], [], [], []] [] = true := by decide +kernel
theorem bo_X12_needs_12 : bi_okkB bt_M bt_P 60 ((yX12_needs, cX12_needs, 9, (some .int), RX12, 1, 20, [])) (bt_X12_needs.getD 12 bi_kd) [[6195]] [] = true := by decide +kernel
theorem bo_X12_needs_13 : bi_okkB bt_M bt_P 60 ((yX12_needs, cX12_needs, 9, (some .int), RX12, 1, 20, [])) (bt_X12_needs.getD 13 bi_kd) [[], [], []] [] = true := by decide +kernel
theorem bo_X12_needs_14 : bi_okkB bt_M bt_P 60 ((yX12_needs, cX12_needs, 9, (some .int), RX12, 1, 20, [])) (bt_X12_needs.getD 14 bi_kd) [[]] [] = true := by decide +kernel
theorem bo_X12_needs_15 : bi_okkB bt_M bt_P 60 ((yX12_needs, cX12_needs, 9, (some .int), RX12, 1, 20, [])) (bt_X12_needs.getD 15 bi_kd) [[], [5146], [], [5143], [], [], [], [5151], [], [], [5147], [], [5143], [], [], [], [], [], [5142], [], [], []] [] = true := by decide +kernel
theorem bo_X12_needs_16 : bi_okkB bt_M bt_P 60 ((yX12_needs, cX12_needs, 9, (some .int), RX12, 1, 20, [])) (bt_X12_needs.getD 16 bi_kd) [[], [], [6066], [], [], [6065], [], [], [6056], []] [] = true := by decide +kernel
theorem bm_X12_needs : ∀ b k, bt_P 60 b = some k → bi_okk bt_M bt_P 60 ((yX12_needs, cX12_needs, 9, (some .int), RX12, 1, 20, [])) k := fun b k h => bi_allk (show bt_X12_needs[b]? = some k from h) (fun b hb => match b, hb with
  | 0, _ => bi_okkB_ok bo_X12_needs_0
  | 1, _ => bi_okkB_ok bo_X12_needs_1
  | 2, _ => bi_okkB_ok bo_X12_needs_2
  | 3, _ => bi_okkB_ok bo_X12_needs_3
  | 4, _ => bi_okkB_ok bo_X12_needs_4
  | 5, _ => bi_okkB_ok bo_X12_needs_5
  | 6, _ => bi_okkB_ok bo_X12_needs_6
  | 7, _ => bi_okkB_ok bo_X12_needs_7
  | 8, _ => bi_okkB_ok bo_X12_needs_8
  | 9, _ => bi_okkB_ok bo_X12_needs_9
  | 10, _ => bi_okkB_ok bo_X12_needs_10
  | 11, _ => bi_okkB_ok bo_X12_needs_11
  | 12, _ => bi_okkB_ok bo_X12_needs_12
  | 13, _ => bi_okkB_ok bo_X12_needs_13
  | 14, _ => bi_okkB_ok bo_X12_needs_14
  | 15, _ => bi_okkB_ok bo_X12_needs_15
  | 16, _ => bi_okkB_ok bo_X12_needs_16
  | b + 17, hb => absurd hb (by show ¬ b + 17 < 17; omega))
theorem bo_X12_nodes : bi_oksB bt_M bt_P 61 ((yX12_nodes, cX12_nodes, 6, (some .int), RX12, 2, 43, [])) bt_X12_nodes [([[], [], [5151], [], [], [5151], [], [], [], []], []), ([[], []], []), ([[], [], [], [5143], [], [], [], [5140], [], [], [], [], [5143], [], [], [], [5140], [], [], [], [6170, 1007, 6167, 6169, 41], [], [], [], [5142], [], [], []], []), ([[]], [])] = true := by decide +kernel
theorem bm_X12_nodes : ∀ b k, bt_P 61 b = some k → bi_okk bt_M bt_P 61 ((yX12_nodes, cX12_nodes, 6, (some .int), RX12, 2, 43, [])) k := fun b k h => bi_oksB_ok _ _ bo_X12_nodes k (List.mem_of_getElem? (show bt_X12_nodes[b]? = some k from h))
theorem bo_X12_of : bi_oksB bt_M bt_P 62 ((yX12_of, cX12_of, 2, (some (.object "TwinVaultsModel$Store")), RX12, 1, 20, [])) bt_X12_of [([[]], []), ([[], []], []), ([[], [5161], [], []], []), ([[]], []), ([], [])] = true := by decide +kernel
theorem bm_X12_of : ∀ b k, bt_P 62 b = some k → bi_okk bt_M bt_P 62 ((yX12_of, cX12_of, 2, (some (.object "TwinVaultsModel$Store")), RX12, 1, 20, [])) k := fun b k h => bi_oksB_ok _ _ bo_X12_of k (List.mem_of_getElem? (show bt_X12_of[b]? = some k from h))
theorem bo_X12_offered_0 : bi_okkB bt_M bt_P 63 ((yX12_offered, cX12_offered, 3, none, RX12, 5, 111, [])) (bt_X12_offered.getD 0 bi_kd) [[], [5093], [], [6235, 1013, 6232, 6233, 6234]] [] = true := by decide +kernel
theorem bo_X12_offered_1 : bi_okkB bt_M bt_P 63 ((yX12_offered, cX12_offered, 3, none, RX12, 5, 111, [])) (bt_X12_offered.getD 1 bi_kd) [[], [], [], [], [], [5093], [], [], [7043, 1007, 7040, 7042, 53]] [] = true := by decide +kernel
theorem bo_X12_offered_2 : bi_okkB bt_M bt_P 63 ((yX12_offered, cX12_offered, 3, none, RX12, 5, 111, [])) (bt_X12_offered.getD 2 bi_kd) [[], [5093], [], [6235, 1013, 6232, 6233, 6234]] [] = true := by decide +kernel
theorem bo_X12_offered_3 : bi_okkB bt_M bt_P 63 ((yX12_offered, cX12_offered, 3, none, RX12, 5, 111, [])) (bt_X12_offered.getD 3 bi_kd) [[], [5092]] [] = true := by decide +kernel
theorem bo_X12_offered_4 : bi_okkB bt_M bt_P 63 ((yX12_offered, cX12_offered, 3, none, RX12, 5, 111, [])) (bt_X12_offered.getD 4 bi_kd) [[], [5092], [], [6235, 1013, 6232, 6233, 6234]] [] = true := by decide +kernel
theorem bo_X12_offered_5 : bi_okkB bt_M bt_P 63 ((yX12_offered, cX12_offered, 3, none, RX12, 5, 111, [])) (bt_X12_offered.getD 5 bi_kd) [[], [], [], [], [], [6235, 1013, 6232, 6233, 6234], [], [], [7043, 1007, 7040, 7042, 53]] [] = true := by decide +kernel
theorem bo_X12_offered_6 : bi_okkB bt_M bt_P 63 ((yX12_offered, cX12_offered, 3, none, RX12, 5, 111, [])) (bt_X12_offered.getD 6 bi_kd) [[], [], [7122, 1007, 7120, 7121]] [] = true := by decide +kernel
theorem bo_X12_offered_7 : bi_okkB bt_M bt_P 63 ((yX12_offered, cX12_offered, 3, none, RX12, 5, 111, [])) (bt_X12_offered.getD 7 bi_kd) [[], [], [6015], [6178, 1007, 6175, 6177, 43]] [] = true := by decide +kernel
theorem bo_X12_offered_8 : bi_okkB bt_M bt_P 63 ((yX12_offered, cX12_offered, 3, none, RX12, 5, 111, [])) (bt_X12_offered.getD 8 bi_kd) [] [] = true := by decide +kernel
theorem bo_X12_offered_9 : bi_okkB bt_M bt_P 63 ((yX12_offered, cX12_offered, 3, none, RX12, 5, 111, [])) (bt_X12_offered.getD 9 bi_kd) [[], [7028, 1013, 7025, 7026, 7027], [], [], [6046], [], [], [5092], [6048], [], [], [5093], [6050], [], [], [5094], [6052]] [] = true := by decide +kernel
theorem bo_X12_offered_10 : bi_okkB bt_M bt_P 63 ((yX12_offered, cX12_offered, 3, none, RX12, 5, 111, [])) (bt_X12_offered.getD 10 bi_kd) [[], [], [], [7126, 1007, 7123, 7125, 66]] [] = true := by decide +kernel
theorem bo_X12_offered_11 : bi_okkB bt_M bt_P 63 ((yX12_offered, cX12_offered, 3, none, RX12, 5, 111, [])) (bt_X12_offered.getD 11 bi_kd) [] [] = true := by decide +kernel
theorem bm_X12_offered : ∀ b k, bt_P 63 b = some k → bi_okk bt_M bt_P 63 ((yX12_offered, cX12_offered, 3, none, RX12, 5, 111, [])) k := fun b k h => bi_allk (show bt_X12_offered[b]? = some k from h) (fun b hb => match b, hb with
  | 0, _ => bi_okkB_ok bo_X12_offered_0
  | 1, _ => bi_okkB_ok bo_X12_offered_1
  | 2, _ => bi_okkB_ok bo_X12_offered_2
  | 3, _ => bi_okkB_ok bo_X12_offered_3
  | 4, _ => bi_okkB_ok bo_X12_offered_4
  | 5, _ => bi_okkB_ok bo_X12_offered_5
  | 6, _ => bi_okkB_ok bo_X12_offered_6
  | 7, _ => bi_okkB_ok bo_X12_offered_7
  | 8, _ => bi_okkB_ok bo_X12_offered_8
  | 9, _ => bi_okkB_ok bo_X12_offered_9
  | 10, _ => bi_okkB_ok bo_X12_offered_10
  | 11, _ => bi_okkB_ok bo_X12_offered_11
  | b + 12, hb => absurd hb (by show ¬ b + 12 < 12; omega))
theorem bo_X12_offers : bi_oksB bt_M bt_P 64 ((yX12_offers, cX12_offers, 2, none, RX12, 3, 70, [])) bt_X12_offers [([[], [], [6040], [], [], [6043], [], [], [7071, 1007, 7068, 7070, 58], [], [], [], [], [6039], [], [6027], [], [5155], [], [5145], [], [5153], [], [7043, 1007, 7040, 7042, 53]], [])] = true := by decide +kernel
theorem bm_X12_offers : ∀ b k, bt_P 64 b = some k → bi_okk bt_M bt_P 64 ((yX12_offers, cX12_offers, 2, none, RX12, 3, 70, [])) k := fun b k h => bi_oksB_ok _ _ bo_X12_offers k (List.mem_of_getElem? (show bt_X12_offers[b]? = some k from h))
theorem bo_X12_old_0 : bi_okkB bt_M bt_P 65 ((yX12_old, cX12_old, 7, (some .int), RX12, 2, 43, [])) (bt_X12_old.getD 0 bi_kd) [[], [], [5127], [], [], [6145, 1007, 6142, 6144, 35], [], [], [], [], [], [6149, 1007, 6146, 6148, 36]] [] = true := by decide +kernel
theorem bo_X12_old_1 : bi_okkB bt_M bt_P 65 ((yX12_old, cX12_old, 7, (some .int), RX12, 2, 43, [])) (bt_X12_old.getD 1 bi_kd) [[]] [] = true := by decide +kernel
theorem bo_X12_old_2 : bi_okkB bt_M bt_P 65 ((yX12_old, cX12_old, 7, (some .int), RX12, 2, 43, [])) (bt_X12_old.getD 2 bi_kd) [[], [], [6023]] [] = true := by decide +kernel
theorem bo_X12_old_3 : bi_okkB bt_M bt_P 65 ((yX12_old, cX12_old, 7, (some .int), RX12, 2, 43, [])) (bt_X12_old.getD 3 bi_kd) [[], [], [7182, 1007, 7179, 7181, 76]] [] = true := by decide +kernel
theorem bo_X12_old_4 : bi_okkB bt_M bt_P 65 ((yX12_old, cX12_old, 7, (some .int), RX12, 2, 43, [])) (bt_X12_old.getD 4 bi_kd) [[], [5136], [], [6015], []] [] = true := by decide +kernel
theorem bo_X12_old_5 : bi_okkB bt_M bt_P 65 ((yX12_old, cX12_old, 7, (some .int), RX12, 2, 43, [])) (bt_X12_old.getD 5 bi_kd) [[], [], [7182, 1007, 7179, 7181, 76]] [] = true := by decide +kernel
theorem bo_X12_old_6 : bi_okkB bt_M bt_P 65 ((yX12_old, cX12_old, 7, (some .int), RX12, 2, 43, [])) (bt_X12_old.getD 6 bi_kd) [[], [6037], [], [], []] [] = true := by decide +kernel
theorem bo_X12_old_7 : bi_okkB bt_M bt_P 65 ((yX12_old, cX12_old, 7, (some .int), RX12, 2, 43, [])) (bt_X12_old.getD 7 bi_kd) [[]] [] = true := by decide +kernel
theorem bo_X12_old_8 : bi_okkB bt_M bt_P 65 ((yX12_old, cX12_old, 7, (some .int), RX12, 2, 43, [])) (bt_X12_old.getD 8 bi_kd) [[], [5143], [], [], [], [], [5140], [], [6014], [], [], [], []] [] = true := by decide +kernel
theorem bo_X12_old_9 : bi_okkB bt_M bt_P 65 ((yX12_old, cX12_old, 7, (some .int), RX12, 2, 43, [])) (bt_X12_old.getD 9 bi_kd) [[], [5142], [], [], []] [] = true := by decide +kernel
theorem bo_X12_old_10 : bi_okkB bt_M bt_P 65 ((yX12_old, cX12_old, 7, (some .int), RX12, 2, 43, [])) (bt_X12_old.getD 10 bi_kd) [[], [5144], [], []] [] = true := by decide +kernel
theorem bm_X12_old : ∀ b k, bt_P 65 b = some k → bi_okk bt_M bt_P 65 ((yX12_old, cX12_old, 7, (some .int), RX12, 2, 43, [])) k := fun b k h => bi_allk (show bt_X12_old[b]? = some k from h) (fun b hb => match b, hb with
  | 0, _ => bi_okkB_ok bo_X12_old_0
  | 1, _ => bi_okkB_ok bo_X12_old_1
  | 2, _ => bi_okkB_ok bo_X12_old_2
  | 3, _ => bi_okkB_ok bo_X12_old_3
  | 4, _ => bi_okkB_ok bo_X12_old_4
  | 5, _ => bi_okkB_ok bo_X12_old_5
  | 6, _ => bi_okkB_ok bo_X12_old_6
  | 7, _ => bi_okkB_ok bo_X12_old_7
  | 8, _ => bi_okkB_ok bo_X12_old_8
  | 9, _ => bi_okkB_ok bo_X12_old_9
  | 10, _ => bi_okkB_ok bo_X12_old_10
  | b + 11, hb => absurd hb (by show ¬ b + 11 < 11; omega))
theorem bo_X12_other : bi_oksB bt_M bt_P 66 ((yX12_other, cX12_other, 2, (some (.object "TwinVaultsModel$Store")), RX12, 1, 20, [])) bt_X12_other [([[], [5161], [], [], [], [6015], [], [], [], [6014], [], []], [])] = true := by decide +kernel
theorem bm_X12_other : ∀ b k, bt_P 66 b = some k → bi_okk bt_M bt_P 66 ((yX12_other, cX12_other, 2, (some (.object "TwinVaultsModel$Store")), RX12, 1, 20, [])) k := fun b k h => bi_oksB_ok _ _ bo_X12_other k (List.mem_of_getElem? (show bt_X12_other[b]? = some k from h))
theorem bo_X12_pass_0 : bi_okkB bt_M bt_P 67 ((yX12_pass, cX12_pass, 5, (some .int), RX12, 7, 156, [])) (bt_X12_pass.getD 0 bi_kd) [[], [], [5127], [], [], [7103, 1007, 7100, 7102, 61], [], []] [] = true := by decide +kernel
theorem bo_X12_pass_1 : bi_okkB bt_M bt_P 67 ((yX12_pass, cX12_pass, 5, (some .int), RX12, 7, 156, [])) (bt_X12_pass.getD 1 bi_kd) [[]] [] = true := by decide +kernel
theorem bo_X12_pass_2 : bi_okkB bt_M bt_P 67 ((yX12_pass, cX12_pass, 5, (some .int), RX12, 7, 156, [])) (bt_X12_pass.getD 2 bi_kd) [[], []] [] = true := by decide +kernel
theorem bo_X12_pass_3 : bi_okkB bt_M bt_P 67 ((yX12_pass, cX12_pass, 5, (some .int), RX12, 7, 156, [])) (bt_X12_pass.getD 3 bi_kd) [[]] [] = true := by decide +kernel
theorem bo_X12_pass_4 : bi_okkB bt_M bt_P 67 ((yX12_pass, cX12_pass, 5, (some .int), RX12, 7, 156, [])) (bt_X12_pass.getD 4 bi_kd) [[], []] [] = true := by decide +kernel
theorem bo_X12_pass_5 : bi_okkB bt_M bt_P 67 ((yX12_pass, cX12_pass, 5, (some .int), RX12, 7, 156, [])) (bt_X12_pass.getD 5 bi_kd) [[], [], [5164], [], [], [5164], [], []] [] = true := by decide +kernel
theorem bo_X12_pass_6 : bi_okkB bt_M bt_P 67 ((yX12_pass, cX12_pass, 5, (some .int), RX12, 7, 156, [])) (bt_X12_pass.getD 6 bi_kd) [[], [], [5164]] [] = true := by decide +kernel
theorem bo_X12_pass_7 : bi_okkB bt_M bt_P 67 ((yX12_pass, cX12_pass, 5, (some .int), RX12, 7, 156, [])) (bt_X12_pass.getD 7 bi_kd) [[], [5162], [], [], [5162], [], [], [], [], [], []] [] = true := by decide +kernel
theorem bo_X12_pass_8 : bi_okkB bt_M bt_P 67 ((yX12_pass, cX12_pass, 5, (some .int), RX12, 7, 156, [])) (bt_X12_pass.getD 8 bi_kd) [[]] [] = true := by decide +kernel
theorem bo_X12_pass_9 : bi_okkB bt_M bt_P 67 ((yX12_pass, cX12_pass, 5, (some .int), RX12, 7, 156, [])) (bt_X12_pass.getD 9 bi_kd) [[], [], [7107, 1007, 7104, 7106, 62]] [] = true := by decide +kernel
theorem bo_X12_pass_10 : bi_okkB bt_M bt_P 67 ((yX12_pass, cX12_pass, 5, (some .int), RX12, 7, 156, [])) (bt_X12_pass.getD 10 bi_kd) [[], []] [] = true := by decide +kernel
theorem bo_X12_pass_11 : bi_okkB bt_M bt_P 67 ((yX12_pass, cX12_pass, 5, (some .int), RX12, 7, 156, [])) (bt_X12_pass.getD 11 bi_kd) [[], [5163], [], [5165], [], [], [], [], [5165], [], [], [5165]] [] = true := by decide +kernel
theorem bo_X12_pass_12 : bi_okkB bt_M bt_P 67 ((yX12_pass, cX12_pass, 5, (some .int), RX12, 7, 156, [])) (bt_X12_pass.getD 12 bi_kd) [[]] [] = true := by decide +kernel
theorem bm_X12_pass : ∀ b k, bt_P 67 b = some k → bi_okk bt_M bt_P 67 ((yX12_pass, cX12_pass, 5, (some .int), RX12, 7, 156, [])) k := fun b k h => bi_allk (show bt_X12_pass[b]? = some k from h) (fun b hb => match b, hb with
  | 0, _ => bi_okkB_ok bo_X12_pass_0
  | 1, _ => bi_okkB_ok bo_X12_pass_1
  | 2, _ => bi_okkB_ok bo_X12_pass_2
  | 3, _ => bi_okkB_ok bo_X12_pass_3
  | 4, _ => bi_okkB_ok bo_X12_pass_4
  | 5, _ => bi_okkB_ok bo_X12_pass_5
  | 6, _ => bi_okkB_ok bo_X12_pass_6
  | 7, _ => bi_okkB_ok bo_X12_pass_7
  | 8, _ => bi_okkB_ok bo_X12_pass_8
  | 9, _ => bi_okkB_ok bo_X12_pass_9
  | 10, _ => bi_okkB_ok bo_X12_pass_10
  | 11, _ => bi_okkB_ok bo_X12_pass_11
  | 12, _ => bi_okkB_ok bo_X12_pass_12
  | b + 13, hb => absurd hb (by show ¬ b + 13 < 13; omega))
theorem bo_X12_path_0 : bi_okkB bt_M bt_P 68 ((yX12_path, cX12_path, 4, (some .int), RX12, 1, 20, [])) (bt_X12_path.getD 0 bi_kd) [[], [], [], [5148], [], [], [], [], [], [], [], [], [], [5151]] [] = true := by decide +kernel
end
section
/-! the tables are as the code has them -/
theorem bo_X12_path_1 : bi_okkB bt_M bt_P 68 ((yX12_path, cX12_path, 4, (some .int), RX12, 1, 20, [])) (bt_X12_path.getD 1 bi_kd) [[], [5148], [], [], [], [], [], [], [], [], [5151], [], []] [] = true := by decide +kernel
theorem bo_X12_path_2 : bi_okkB bt_M bt_P 68 ((yX12_path, cX12_path, 4, (some .int), RX12, 1, 20, [])) (bt_X12_path.getD 2 bi_kd) [[], [5149], [], [], [], [], [], [], [], [], [], [5151]] [] = true := by decide +kernel
theorem bo_X12_path_3 : bi_okkB bt_M bt_P 68 ((yX12_path, cX12_path, 4, (some .int), RX12, 1, 20, [])) (bt_X12_path.getD 3 bi_kd) [[], [5149], [], [], [], [], [], [], [], [], [5151], [], []] [] = true := by decide +kernel
theorem bo_X12_path_4 : bi_okkB bt_M bt_P 68 ((yX12_path, cX12_path, 4, (some .int), RX12, 1, 20, [])) (bt_X12_path.getD 4 bi_kd) [[], [5150], [], [], [], [5151]] [] = true := by decide +kernel
theorem bo_X12_path_5 : bi_okkB bt_M bt_P 68 ((yX12_path, cX12_path, 4, (some .int), RX12, 1, 20, [])) (bt_X12_path.getD 5 bi_kd) [[], [5150], [], [], [5151], [], []] [] = true := by decide +kernel
theorem bo_X12_path_6 : bi_okkB bt_M bt_P 68 ((yX12_path, cX12_path, 4, (some .int), RX12, 1, 20, [])) (bt_X12_path.getD 6 bi_kd) [[]] [] = true := by decide +kernel
theorem bm_X12_path : ∀ b k, bt_P 68 b = some k → bi_okk bt_M bt_P 68 ((yX12_path, cX12_path, 4, (some .int), RX12, 1, 20, [])) k := fun b k h => bi_allk (show bt_X12_path[b]? = some k from h) (fun b hb => match b, hb with
  | 0, _ => bi_okkB_ok bo_X12_path_0
  | 1, _ => bi_okkB_ok bo_X12_path_1
  | 2, _ => bi_okkB_ok bo_X12_path_2
  | 3, _ => bi_okkB_ok bo_X12_path_3
  | 4, _ => bi_okkB_ok bo_X12_path_4
  | 5, _ => bi_okkB_ok bo_X12_path_5
  | 6, _ => bi_okkB_ok bo_X12_path_6
  | b + 7, hb => absurd hb (by show ¬ b + 7 < 7; omega))
theorem bo_X12_period : bi_oksB bt_M bt_P 69 ((yX12_period, cX12_period, 2, (some .boolean), RX12, 1, 20, [])) bt_X12_period [([[], [], [5127], []], []), ([[], []], []), ([[]], []), ([[], [], [5131], []], [])] = true := by decide +kernel
theorem bm_X12_period : ∀ b k, bt_P 69 b = some k → bi_okk bt_M bt_P 69 ((yX12_period, cX12_period, 2, (some .boolean), RX12, 1, 20, [])) k := fun b k h => bi_oksB_ok _ _ bo_X12_period k (List.mem_of_getElem? (show bt_X12_period[b]? = some k from h))
theorem bo_X12_piece_0 : bi_okkB bt_M bt_P 70 ((yX12_piece, cX12_piece, 3, none, RX12, 1, 20, [])) (bt_X12_piece.getD 0 bi_kd) [[], [], [5094], [], []] [] = true := by decide +kernel
theorem bo_X12_piece_1 : bi_okkB bt_M bt_P 70 ((yX12_piece, cX12_piece, 3, none, RX12, 1, 20, [])) (bt_X12_piece.getD 1 bi_kd) [[], [], [], [5094], [], [], []] [] = true := by decide +kernel
theorem bo_X12_piece_2 : bi_okkB bt_M bt_P 70 ((yX12_piece, cX12_piece, 3, none, RX12, 1, 20, [])) (bt_X12_piece.getD 2 bi_kd) [[], [], [5155]] [] = true := by decide +kernel
theorem bo_X12_piece_3 : bi_okkB bt_M bt_P 70 ((yX12_piece, cX12_piece, 3, none, RX12, 1, 20, [])) (bt_X12_piece.getD 3 bi_kd) [[], [5098], [], [5096], [], [5156], [], [], [], [5140], [], [5089], [6014], [], [], [], [], [5100], [], [5096], [], [5156], [], [], [], [5140], [], [5089], [6014], [], [], [], [], [5102], [], [5096], [], [5157], [], [], [], [], [], [5096], [], [], [5096], []] [] = true := by decide +kernel
theorem bo_X12_piece_4 : bi_okkB bt_M bt_P 70 ((yX12_piece, cX12_piece, 3, none, RX12, 1, 20, [])) (bt_X12_piece.getD 4 bi_kd) [] [] = true := by decide +kernel
theorem bm_X12_piece : ∀ b k, bt_P 70 b = some k → bi_okk bt_M bt_P 70 ((yX12_piece, cX12_piece, 3, none, RX12, 1, 20, [])) k := fun b k h => bi_allk (show bt_X12_piece[b]? = some k from h) (fun b hb => match b, hb with
  | 0, _ => bi_okkB_ok bo_X12_piece_0
  | 1, _ => bi_okkB_ok bo_X12_piece_1
  | 2, _ => bi_okkB_ok bo_X12_piece_2
  | 3, _ => bi_okkB_ok bo_X12_piece_3
  | 4, _ => bi_okkB_ok bo_X12_piece_4
  | b + 5, hb => absurd hb (by show ¬ b + 5 < 5; omega))
theorem bo_X12_power : bi_oksB bt_M bt_P 71 ((yX12_power, cX12_power, 3, (some .boolean), RX12, 2, 40, [])) bt_X12_power [([[], [], [5127], [], [7086, 1007, 7084, 7085]], []), ([[], []], []), ([[], [7087]], []), ([[]], []), ([[], [5138], [], [], [], []], [])] = true := by decide +kernel
theorem bm_X12_power : ∀ b k, bt_P 71 b = some k → bi_okk bt_M bt_P 71 ((yX12_power, cX12_power, 3, (some .boolean), RX12, 2, 40, [])) k := fun b k h => bi_oksB_ok _ _ bo_X12_power k (List.mem_of_getElem? (show bt_X12_power[b]? = some k from h))
theorem bo_X12_read : bi_oksB bt_M bt_P 72 ((yX12_read, cX12_read, 5, (some .int), RX12, 2, 43, [])) bt_X12_read [([[], [], [5127], [], [], [6145, 1007, 6142, 6144, 35], [], [], [], [], [], [6149, 1007, 6146, 6148, 36]], []), ([[], [], [7182, 1007, 7179, 7181, 76]], []), ([[], [5136], [], [6015], []], []), ([[], [], [7182, 1007, 7179, 7181, 76]], []), ([[], [], [6199, 1007, 6196, 6198, 48], [], [5144], [], [6062], [], [], [5140], [], [6014], [], [], [], [], [], []], [])] = true := by decide +kernel
theorem bm_X12_read : ∀ b k, bt_P 72 b = some k → bi_okk bt_M bt_P 72 ((yX12_read, cX12_read, 5, (some .int), RX12, 2, 43, [])) k := fun b k h => bi_oksB_ok _ _ bo_X12_read k (List.mem_of_getElem? (show bt_X12_read[b]? = some k from h))
theorem bo_X12_receive_0 : bi_okkB bt_M bt_P 73 ((yX12_receive, cX12_receive, 4, none, RX12, 6, 133, [])) (bt_X12_receive.getD 0 bi_kd) [[], [], [5089], [7111, 1007, 7108, 7110, 63], [], [], [5136], [], [6015], []] [] = true := by decide +kernel
theorem bo_X12_receive_1 : bi_okkB bt_M bt_P 73 ((yX12_receive, cX12_receive, 4, none, RX12, 6, 133, [])) (bt_X12_receive.getD 1 bi_kd) [] [] = true := by decide +kernel
theorem bo_X12_receive_2 : bi_okkB bt_M bt_P 73 ((yX12_receive, cX12_receive, 4, none, RX12, 6, 133, [])) (bt_X12_receive.getD 2 bi_kd) [[], [5090], [], [6018]] [] = true := by decide +kernel
theorem bo_X12_receive_3 : bi_okkB bt_M bt_P 73 ((yX12_receive, cX12_receive, 4, none, RX12, 6, 133, [])) (bt_X12_receive.getD 3 bi_kd) [[], [5091], []] [] = true := by decide +kernel
theorem bo_X12_receive_4 : bi_okkB bt_M bt_P 73 ((yX12_receive, cX12_receive, 4, none, RX12, 6, 133, [])) (bt_X12_receive.getD 4 bi_kd) [[], [5091], []] [] = true := by decide +kernel
theorem bo_X12_receive_5 : bi_okkB bt_M bt_P 73 ((yX12_receive, cX12_receive, 4, none, RX12, 6, 133, [])) (bt_X12_receive.getD 5 bi_kd) [[], [5091], []] [] = true := by decide +kernel
theorem bo_X12_receive_6 : bi_okkB bt_M bt_P 73 ((yX12_receive, cX12_receive, 4, none, RX12, 6, 133, [])) (bt_X12_receive.getD 6 bi_kd) [[], [], [], [], [], [], [], [7043, 1007, 7040, 7042, 53]] [] = true := by decide +kernel
theorem bo_X12_receive_7 : bi_okkB bt_M bt_P 73 ((yX12_receive, cX12_receive, 4, none, RX12, 6, 133, [])) (bt_X12_receive.getD 7 bi_kd) [] [] = true := by decide +kernel
theorem bo_X12_receive_8 : bi_okkB bt_M bt_P 73 ((yX12_receive, cX12_receive, 4, none, RX12, 6, 133, [])) (bt_X12_receive.getD 8 bi_kd) [[], [5090], [], [6018]] [] = true := by decide +kernel
theorem bo_X12_receive_9 : bi_okkB bt_M bt_P 73 ((yX12_receive, cX12_receive, 4, none, RX12, 6, 133, [])) (bt_X12_receive.getD 9 bi_kd) [[], [], [], [5090], [7115, 1007, 7112, 7114, 64]] [] = true := by decide +kernel
theorem bo_X12_receive_10 : bi_okkB bt_M bt_P 73 ((yX12_receive, cX12_receive, 4, none, RX12, 6, 133, [])) (bt_X12_receive.getD 10 bi_kd) [] [] = true := by decide +kernel
theorem bo_X12_receive_11 : bi_okkB bt_M bt_P 73 ((yX12_receive, cX12_receive, 4, none, RX12, 6, 133, [])) (bt_X12_receive.getD 11 bi_kd) [[], [6016], []] [] = true := by decide +kernel
theorem bo_X12_receive_12 : bi_okkB bt_M bt_P 73 ((yX12_receive, cX12_receive, 4, none, RX12, 6, 133, [])) (bt_X12_receive.getD 12 bi_kd) [[], [6016], []] [] = true := by decide +kernel
theorem bo_X12_receive_13 : bi_okkB bt_M bt_P 73 ((yX12_receive, cX12_receive, 4, none, RX12, 6, 133, [])) (bt_X12_receive.getD 13 bi_kd) [[]] [] = true := by decide +kernel
theorem bo_X12_receive_14 : bi_okkB bt_M bt_P 73 ((yX12_receive, cX12_receive, 4, none, RX12, 6, 133, [])) (bt_X12_receive.getD 14 bi_kd) [[]] [] = true := by decide +kernel
theorem bo_X12_receive_15 : bi_okkB bt_M bt_P 73 ((yX12_receive, cX12_receive, 4, none, RX12, 6, 133, [])) (bt_X12_receive.getD 15 bi_kd) [[], [], [5091]] [] = true := by decide +kernel
theorem bo_X12_receive_16 : bi_okkB bt_M bt_P 73 ((yX12_receive, cX12_receive, 4, none, RX12, 6, 133, [])) (bt_X12_receive.getD 16 bi_kd) [[], [6016]] [] = true := by decide +kernel
theorem bo_X12_receive_17 : bi_okkB bt_M bt_P 73 ((yX12_receive, cX12_receive, 4, none, RX12, 6, 133, [])) (bt_X12_receive.getD 17 bi_kd) [[], [], [], [7119, 1007, 7116, 7118, 65]] [] = true := by decide +kernel
theorem bo_X12_receive_18 : bi_okkB bt_M bt_P 73 ((yX12_receive, cX12_receive, 4, none, RX12, 6, 133, [])) (bt_X12_receive.getD 18 bi_kd) [[], [6016]] [] = true := by decide +kernel
theorem bo_X12_receive_19 : bi_okkB bt_M bt_P 73 ((yX12_receive, cX12_receive, 4, none, RX12, 6, 133, [])) (bt_X12_receive.getD 19 bi_kd) [[], [], [7122, 1007, 7120, 7121]] [] = true := by decide +kernel
theorem bo_X12_receive_20 : bi_okkB bt_M bt_P 73 ((yX12_receive, cX12_receive, 4, none, RX12, 6, 133, [])) (bt_X12_receive.getD 20 bi_kd) [[], [], [], [7134, 1007, 7131, 7133, 67]] [] = true := by decide +kernel
theorem bo_X12_receive_21 : bi_okkB bt_M bt_P 73 ((yX12_receive, cX12_receive, 4, none, RX12, 6, 133, [])) (bt_X12_receive.getD 21 bi_kd) [[]] [] = true := by decide +kernel
theorem bo_X12_receive_22 : bi_okkB bt_M bt_P 73 ((yX12_receive, cX12_receive, 4, none, RX12, 6, 133, [])) (bt_X12_receive.getD 22 bi_kd) [[], [6040], []] [] = true := by decide +kernel
theorem bo_X12_receive_23 : bi_okkB bt_M bt_P 73 ((yX12_receive, cX12_receive, 4, none, RX12, 6, 133, [])) (bt_X12_receive.getD 23 bi_kd) [[], [6039], [], [5092]] [] = true := by decide +kernel
theorem bo_X12_receive_24 : bi_okkB bt_M bt_P 73 ((yX12_receive, cX12_receive, 4, none, RX12, 6, 133, [])) (bt_X12_receive.getD 24 bi_kd) [[], [6027], [], [5093]] [] = true := by decide +kernel
theorem bo_X12_receive_25 : bi_okkB bt_M bt_P 73 ((yX12_receive, cX12_receive, 4, none, RX12, 6, 133, [])) (bt_X12_receive.getD 25 bi_kd) [[], [], [], [5094], [7138, 1007, 7135, 7137, 68]] [] = true := by decide +kernel
theorem bo_X12_receive_26 : bi_okkB bt_M bt_P 73 ((yX12_receive, cX12_receive, 4, none, RX12, 6, 133, [])) (bt_X12_receive.getD 26 bi_kd) [[]] [] = true := by decide +kernel
theorem bo_X12_receive_27 : bi_okkB bt_M bt_P 73 ((yX12_receive, cX12_receive, 4, none, RX12, 6, 133, [])) (bt_X12_receive.getD 27 bi_kd) [[], [6040], []] [] = true := by decide +kernel
theorem bo_X12_receive_28 : bi_okkB bt_M bt_P 73 ((yX12_receive, cX12_receive, 4, none, RX12, 6, 133, [])) (bt_X12_receive.getD 28 bi_kd) [[], [6039], [], [5092]] [] = true := by decide +kernel
theorem bo_X12_receive_29 : bi_okkB bt_M bt_P 73 ((yX12_receive, cX12_receive, 4, none, RX12, 6, 133, [])) (bt_X12_receive.getD 29 bi_kd) [[], [6027], [], [5093]] [] = true := by decide +kernel
theorem bo_X12_receive_30 : bi_okkB bt_M bt_P 73 ((yX12_receive, cX12_receive, 4, none, RX12, 6, 133, [])) (bt_X12_receive.getD 30 bi_kd) [[], [], [], [5094], [7146, 1007, 7143, 7145, 70]] [] = true := by decide +kernel
theorem bo_X12_receive_31 : bi_okkB bt_M bt_P 73 ((yX12_receive, cX12_receive, 4, none, RX12, 6, 133, [])) (bt_X12_receive.getD 31 bi_kd) [[]] [] = true := by decide +kernel
theorem bo_X12_receive_32 : bi_okkB bt_M bt_P 73 ((yX12_receive, cX12_receive, 4, none, RX12, 6, 133, [])) (bt_X12_receive.getD 32 bi_kd) [[], [6027]] [] = true := by decide +kernel
theorem bo_X12_receive_33 : bi_okkB bt_M bt_P 73 ((yX12_receive, cX12_receive, 4, none, RX12, 6, 133, [])) (bt_X12_receive.getD 33 bi_kd) [[], [6027], [], [5093]] [] = true := by decide +kernel
theorem bo_X12_receive_34 : bi_okkB bt_M bt_P 73 ((yX12_receive, cX12_receive, 4, none, RX12, 6, 133, [])) (bt_X12_receive.getD 34 bi_kd) [[], [], [7150, 1007, 7147, 7149, 71]] [] = true := by decide +kernel
theorem bo_X12_receive_35 : bi_okkB bt_M bt_P 73 ((yX12_receive, cX12_receive, 4, none, RX12, 6, 133, [])) (bt_X12_receive.getD 35 bi_kd) [[]] [] = true := by decide +kernel
theorem bo_X12_receive_36 : bi_okkB bt_M bt_P 73 ((yX12_receive, cX12_receive, 4, none, RX12, 6, 133, [])) (bt_X12_receive.getD 36 bi_kd) [[], [6027]] [] = true := by decide +kernel
theorem bo_X12_receive_37 : bi_okkB bt_M bt_P 73 ((yX12_receive, cX12_receive, 4, none, RX12, 6, 133, [])) (bt_X12_receive.getD 37 bi_kd) [[], [6040]] [] = true := by decide +kernel
theorem bo_X12_receive_38 : bi_okkB bt_M bt_P 73 ((yX12_receive, cX12_receive, 4, none, RX12, 6, 133, [])) (bt_X12_receive.getD 38 bi_kd) [[], [], [], [5093], [7154, 1007, 7151, 7153, 72]] [] = true := by decide +kernel
theorem bo_X12_receive_39 : bi_okkB bt_M bt_P 73 ((yX12_receive, cX12_receive, 4, none, RX12, 6, 133, [])) (bt_X12_receive.getD 39 bi_kd) [[], [6016]] [] = true := by decide +kernel
theorem bo_X12_receive_40 : bi_okkB bt_M bt_P 73 ((yX12_receive, cX12_receive, 4, none, RX12, 6, 133, [])) (bt_X12_receive.getD 40 bi_kd) [[], [5093], [], [6235, 1013, 6232, 6233, 6234]] [] = true := by decide +kernel
theorem bo_X12_receive_41 : bi_okkB bt_M bt_P 73 ((yX12_receive, cX12_receive, 4, none, RX12, 6, 133, [])) (bt_X12_receive.getD 41 bi_kd) [[], [], [], [7162, 1007, 7159, 7161, 73]] [] = true := by decide +kernel
end
section
/-! the tables are as the code has them -/
theorem bo_X12_receive_42 : bi_okkB bt_M bt_P 73 ((yX12_receive, cX12_receive, 4, none, RX12, 6, 133, [])) (bt_X12_receive.getD 42 bi_kd) [[], [6016], []] [] = true := by decide +kernel
theorem bo_X12_receive_43 : bi_okkB bt_M bt_P 73 ((yX12_receive, cX12_receive, 4, none, RX12, 6, 133, [])) (bt_X12_receive.getD 43 bi_kd) [[], [6025], [], [], [6018], []] [] = true := by decide +kernel
theorem bo_X12_receive_44 : bi_okkB bt_M bt_P 73 ((yX12_receive, cX12_receive, 4, none, RX12, 6, 133, [])) (bt_X12_receive.getD 44 bi_kd) [[], [], [], [7166, 1007, 7163, 7165, 74]] [] = true := by decide +kernel
theorem bo_X12_receive_45 : bi_okkB bt_M bt_P 73 ((yX12_receive, cX12_receive, 4, none, RX12, 6, 133, [])) (bt_X12_receive.getD 45 bi_kd) [[], [6016], []] [] = true := by decide +kernel
theorem bo_X12_receive_46 : bi_okkB bt_M bt_P 73 ((yX12_receive, cX12_receive, 4, none, RX12, 6, 133, [])) (bt_X12_receive.getD 46 bi_kd) [[], [6044]] [] = true := by decide +kernel
theorem bo_X12_receive_47 : bi_okkB bt_M bt_P 73 ((yX12_receive, cX12_receive, 4, none, RX12, 6, 133, [])) (bt_X12_receive.getD 47 bi_kd) [[], [5093]] [] = true := by decide +kernel
theorem bo_X12_receive_48 : bi_okkB bt_M bt_P 73 ((yX12_receive, cX12_receive, 4, none, RX12, 6, 133, [])) (bt_X12_receive.getD 48 bi_kd) [[], [], [5093], [7158, 1013, 7155, 7156, 7157]] [] = true := by decide +kernel
theorem bo_X12_receive_49 : bi_okkB bt_M bt_P 73 ((yX12_receive, cX12_receive, 4, none, RX12, 6, 133, [])) (bt_X12_receive.getD 49 bi_kd) [[], [], [], [5093], [7170, 1007, 7167, 7169, 75]] [] = true := by decide +kernel
theorem bo_X12_receive_50 : bi_okkB bt_M bt_P 73 ((yX12_receive, cX12_receive, 4, none, RX12, 6, 133, [])) (bt_X12_receive.getD 50 bi_kd) [] [] = true := by decide +kernel
theorem bm_X12_receive : ∀ b k, bt_P 73 b = some k → bi_okk bt_M bt_P 73 ((yX12_receive, cX12_receive, 4, none, RX12, 6, 133, [])) k := fun b k h => bi_allk (show bt_X12_receive[b]? = some k from h) (fun b hb => match b, hb with
  | 0, _ => bi_okkB_ok bo_X12_receive_0
  | 1, _ => bi_okkB_ok bo_X12_receive_1
  | 2, _ => bi_okkB_ok bo_X12_receive_2
  | 3, _ => bi_okkB_ok bo_X12_receive_3
  | 4, _ => bi_okkB_ok bo_X12_receive_4
  | 5, _ => bi_okkB_ok bo_X12_receive_5
  | 6, _ => bi_okkB_ok bo_X12_receive_6
  | 7, _ => bi_okkB_ok bo_X12_receive_7
  | 8, _ => bi_okkB_ok bo_X12_receive_8
  | 9, _ => bi_okkB_ok bo_X12_receive_9
  | 10, _ => bi_okkB_ok bo_X12_receive_10
  | 11, _ => bi_okkB_ok bo_X12_receive_11
  | 12, _ => bi_okkB_ok bo_X12_receive_12
  | 13, _ => bi_okkB_ok bo_X12_receive_13
  | 14, _ => bi_okkB_ok bo_X12_receive_14
  | 15, _ => bi_okkB_ok bo_X12_receive_15
  | 16, _ => bi_okkB_ok bo_X12_receive_16
  | 17, _ => bi_okkB_ok bo_X12_receive_17
  | 18, _ => bi_okkB_ok bo_X12_receive_18
  | 19, _ => bi_okkB_ok bo_X12_receive_19
  | 20, _ => bi_okkB_ok bo_X12_receive_20
  | 21, _ => bi_okkB_ok bo_X12_receive_21
  | 22, _ => bi_okkB_ok bo_X12_receive_22
  | 23, _ => bi_okkB_ok bo_X12_receive_23
  | 24, _ => bi_okkB_ok bo_X12_receive_24
  | 25, _ => bi_okkB_ok bo_X12_receive_25
  | 26, _ => bi_okkB_ok bo_X12_receive_26
  | 27, _ => bi_okkB_ok bo_X12_receive_27
  | 28, _ => bi_okkB_ok bo_X12_receive_28
  | 29, _ => bi_okkB_ok bo_X12_receive_29
  | 30, _ => bi_okkB_ok bo_X12_receive_30
  | 31, _ => bi_okkB_ok bo_X12_receive_31
  | 32, _ => bi_okkB_ok bo_X12_receive_32
  | 33, _ => bi_okkB_ok bo_X12_receive_33
  | 34, _ => bi_okkB_ok bo_X12_receive_34
  | 35, _ => bi_okkB_ok bo_X12_receive_35
  | 36, _ => bi_okkB_ok bo_X12_receive_36
  | 37, _ => bi_okkB_ok bo_X12_receive_37
  | 38, _ => bi_okkB_ok bo_X12_receive_38
  | 39, _ => bi_okkB_ok bo_X12_receive_39
  | 40, _ => bi_okkB_ok bo_X12_receive_40
  | 41, _ => bi_okkB_ok bo_X12_receive_41
  | 42, _ => bi_okkB_ok bo_X12_receive_42
  | 43, _ => bi_okkB_ok bo_X12_receive_43
  | 44, _ => bi_okkB_ok bo_X12_receive_44
  | 45, _ => bi_okkB_ok bo_X12_receive_45
  | 46, _ => bi_okkB_ok bo_X12_receive_46
  | 47, _ => bi_okkB_ok bo_X12_receive_47
  | 48, _ => bi_okkB_ok bo_X12_receive_48
  | 49, _ => bi_okkB_ok bo_X12_receive_49
  | 50, _ => bi_okkB_ok bo_X12_receive_50
  | b + 51, hb => absurd hb (by show ¬ b + 51 < 51; omega))
theorem bo_X12_send_0 : bi_okkB bt_M bt_P 74 ((yX12_send, cX12_send, 9, none, RX12, 2, 42, [])) (bt_X12_send.getD 0 bi_kd) [[], [], [5134], [], [], [5134], [], [5164], []] [] = true := by decide +kernel
theorem bo_X12_send_1 : bi_okkB bt_M bt_P 74 ((yX12_send, cX12_send, 9, none, RX12, 2, 42, [])) (bt_X12_send.getD 1 bi_kd) [[], [], [5135], [], [], [5135]] [] = true := by decide +kernel
theorem bo_X12_send_2 : bi_okkB bt_M bt_P 74 ((yX12_send, cX12_send, 9, none, RX12, 2, 42, [])) (bt_X12_send.getD 2 bi_kd) [[], [], [5165], [], [], [5165], [], [5163], [], [5165], [], [], [], [], [5096], [], [], [5089], [], [], [6018], [5090], [], [], [5091], [], [], [5092], [], [], [5093], [], [], [5094], [], [], [5095], [], []] [] = true := by decide +kernel
theorem bo_X12_send_3 : bi_okkB bt_M bt_P 74 ((yX12_send, cX12_send, 9, none, RX12, 2, 42, [])) (bt_X12_send.getD 3 bi_kd) [[], [], [7047, 1007, 7044, 7046, 54]] [] = true := by decide +kernel
theorem bo_X12_send_4 : bi_okkB bt_M bt_P 74 ((yX12_send, cX12_send, 9, none, RX12, 2, 42, [])) (bt_X12_send.getD 4 bi_kd) [[], [6023], [], [], []] [] = true := by decide +kernel
theorem bo_X12_send_5 : bi_okkB bt_M bt_P 74 ((yX12_send, cX12_send, 9, none, RX12, 2, 42, [])) (bt_X12_send.getD 5 bi_kd) [[]] [] = true := by decide +kernel
theorem bo_X12_send_6 : bi_okkB bt_M bt_P 74 ((yX12_send, cX12_send, 9, none, RX12, 2, 42, [])) (bt_X12_send.getD 6 bi_kd) [[], []] [] = true := by decide +kernel
theorem bo_X12_send_7 : bi_okkB bt_M bt_P 74 ((yX12_send, cX12_send, 9, none, RX12, 2, 42, [])) (bt_X12_send.getD 7 bi_kd) [[], [5098], [], [5096], [], [6035], [], [], [], [], [5100], [], [5096], [], [], [], [5102], [], [5096], [], [], [], [], [5096], [], [], [5096], []] [] = true := by decide +kernel
theorem bo_X12_send_8 : bi_okkB bt_M bt_P 74 ((yX12_send, cX12_send, 9, none, RX12, 2, 42, [])) (bt_X12_send.getD 8 bi_kd) [[], [5162], [], [5164], [], [], [], [], [5164], [], [], [5164]] [] = true := by decide +kernel
theorem bm_X12_send : ∀ b k, bt_P 74 b = some k → bi_okk bt_M bt_P 74 ((yX12_send, cX12_send, 9, none, RX12, 2, 42, [])) k := fun b k h => bi_allk (show bt_X12_send[b]? = some k from h) (fun b hb => match b, hb with
  | 0, _ => bi_okkB_ok bo_X12_send_0
  | 1, _ => bi_okkB_ok bo_X12_send_1
  | 2, _ => bi_okkB_ok bo_X12_send_2
  | 3, _ => bi_okkB_ok bo_X12_send_3
  | 4, _ => bi_okkB_ok bo_X12_send_4
  | 5, _ => bi_okkB_ok bo_X12_send_5
  | 6, _ => bi_okkB_ok bo_X12_send_6
  | 7, _ => bi_okkB_ok bo_X12_send_7
  | 8, _ => bi_okkB_ok bo_X12_send_8
  | b + 9, hb => absurd hb (by show ¬ b + 9 < 9; omega))
theorem bo_X12_sendsOn : bi_oksB bt_M bt_P 75 ((yX12_sendsOn, cX12_sendsOn, 2, none, RX12, 3, 70, [])) bt_X12_sendsOn [([[], [], [7071, 1007, 7068, 7070, 58]], []), ([[], [6042], [], [6041], [], [5130], []], []), ([[], [], [6042], [], [], [5155]], []), ([[], [], [], [], [6039], [], [6027], [], [6042], [], [7043, 1007, 7040, 7042, 53], [], [], [6042], [], [], [6042]], []), ([], [])] = true := by decide +kernel
theorem bm_X12_sendsOn : ∀ b k, bt_P 75 b = some k → bi_okk bt_M bt_P 75 ((yX12_sendsOn, cX12_sendsOn, 2, none, RX12, 3, 70, [])) k := fun b k h => bi_oksB_ok _ _ bo_X12_sendsOn k (List.mem_of_getElem? (show bt_X12_sendsOn[b]? = some k from h))
theorem bo_X12_snap : bi_oksB bt_M bt_P 76 ((yX12_snap, cX12_snap, 5, (some .int), RX12, 2, 41, [])) bt_X12_snap [([[], [], [5127], [], [], [6145, 1007, 6142, 6144, 35], [], []], []), ([[]], []), ([[], [], [6023]], []), ([[]], []), ([[], []], []), ([[]], []), ([[]], []), ([[], [6035], [], []], []), ([[], [5145], [], [6037], [], [], []], []), ([], [])] = true := by decide +kernel
theorem bm_X12_snap : ∀ b k, bt_P 76 b = some k → bi_okk bt_M bt_P 76 ((yX12_snap, cX12_snap, 5, (some .int), RX12, 2, 41, [])) k := fun b k h => bi_oksB_ok _ _ bo_X12_snap k (List.mem_of_getElem? (show bt_X12_snap[b]? = some k from h))
theorem bo_X12_snapshot : bi_oksB bt_M bt_P 77 ((yX12_snapshot, cX12_snapshot, 4, (some .int), RX12, 6, 129, [])) bt_X12_snapshot [([[], [], [5127], [], [], [6145, 1007, 6142, 6144, 35], [], [], [], [], [], [6219, 1007, 6216, 6218, 49], [], []], []), ([[]], []), ([[], [6019], [], [6223, 1013, 6220, 6221, 6222]], []), ([[]], []), ([[], [6033], []], []), ([[]], []), ([[], [], [6227, 1007, 6224, 6226, 50]], []), ([[], [6235, 1013, 6232, 6233, 6234]], []), ([[]], []), ([], [])] = true := by decide +kernel
theorem bm_X12_snapshot : ∀ b k, bt_P 77 b = some k → bi_okk bt_M bt_P 77 ((yX12_snapshot, cX12_snapshot, 4, (some .int), RX12, 6, 129, [])) k := fun b k h => bi_oksB_ok _ _ bo_X12_snapshot k (List.mem_of_getElem? (show bt_X12_snapshot[b]? = some k from h))
theorem bo_X12_span_0 : bi_okkB bt_M bt_P 78 ((yX12_span, cX12_span, 5, none, RX12, 1, 20, [])) (bt_X12_span.getD 0 bi_kd) [[], [], [5154]] [] = true := by decide +kernel
theorem bo_X12_span_1 : bi_okkB bt_M bt_P 78 ((yX12_span, cX12_span, 5, none, RX12, 1, 20, [])) (bt_X12_span.getD 1 bi_kd) [[], [], [5152]] [] = true := by decide +kernel
theorem bo_X12_span_2 : bi_okkB bt_M bt_P 78 ((yX12_span, cX12_span, 5, none, RX12, 1, 20, [])) (bt_X12_span.getD 2 bi_kd) [[], [], [5153]] [] = true := by decide +kernel
theorem bo_X12_span_3 : bi_okkB bt_M bt_P 78 ((yX12_span, cX12_span, 5, none, RX12, 1, 20, [])) (bt_X12_span.getD 3 bi_kd) [] [] = true := by decide +kernel
theorem bo_X12_span_4 : bi_okkB bt_M bt_P 78 ((yX12_span, cX12_span, 5, none, RX12, 1, 20, [])) (bt_X12_span.getD 4 bi_kd) [[], [], [5154], [], [], [5152], [], [], [5153], [], [], [5151], [], [], [5151], [], []] [] = true := by decide +kernel
theorem bo_X12_span_5 : bi_okkB bt_M bt_P 78 ((yX12_span, cX12_span, 5, none, RX12, 1, 20, [])) (bt_X12_span.getD 5 bi_kd) [[], []] [] = true := by decide +kernel
theorem bo_X12_span_6 : bi_okkB bt_M bt_P 78 ((yX12_span, cX12_span, 5, none, RX12, 1, 20, [])) (bt_X12_span.getD 6 bi_kd) [[], [5146], [], [5143], [], [], [], [], [5151]] [] = true := by decide +kernel
theorem bo_X12_span_7 : bi_okkB bt_M bt_P 78 ((yX12_span, cX12_span, 5, none, RX12, 1, 20, [])) (bt_X12_span.getD 7 bi_kd) [] [] = true := by decide +kernel
theorem bo_X12_span_8 : bi_okkB bt_M bt_P 78 ((yX12_span, cX12_span, 5, none, RX12, 1, 20, [])) (bt_X12_span.getD 8 bi_kd) [[], [5146], [], [5143], [], [], [], [5151], [], [], [5147], [], [5143], [], [], [], [5144], [], [], []] [] = true := by decide +kernel
theorem bo_X12_span_9 : bi_okkB bt_M bt_P 78 ((yX12_span, cX12_span, 5, none, RX12, 1, 20, [])) (bt_X12_span.getD 9 bi_kd) [[], [5142], [], [], []] [] = true := by decide +kernel
theorem bo_X12_span_10 : bi_okkB bt_M bt_P 78 ((yX12_span, cX12_span, 5, none, RX12, 1, 20, [])) (bt_X12_span.getD 10 bi_kd) [[], [], [5155], [], []] [] = true := by decide +kernel
theorem bo_X12_span_11 : bi_okkB bt_M bt_P 78 ((yX12_span, cX12_span, 5, none, RX12, 1, 20, [])) (bt_X12_span.getD 11 bi_kd) [[], [], [5139], [], [], [], [5140], [], [], []] [] = true := by decide +kernel
theorem bo_X12_span_12 : bi_okkB bt_M bt_P 78 ((yX12_span, cX12_span, 5, none, RX12, 1, 20, [])) (bt_X12_span.getD 12 bi_kd) [[], [5146], [], [], [], [5151]] [] = true := by decide +kernel
theorem bo_X12_span_13 : bi_okkB bt_M bt_P 78 ((yX12_span, cX12_span, 5, none, RX12, 1, 20, [])) (bt_X12_span.getD 13 bi_kd) [] [] = true := by decide +kernel
theorem bo_X12_span_14 : bi_okkB bt_M bt_P 78 ((yX12_span, cX12_span, 5, none, RX12, 1, 20, [])) (bt_X12_span.getD 14 bi_kd) [[], [5156], [], [5155], [], [], [], [5157], [], [5155], [], [5147], [], [], [], [], [], [5155], [], [], [5155]] [] = true := by decide +kernel
theorem bo_X12_span_15 : bi_okkB bt_M bt_P 78 ((yX12_span, cX12_span, 5, none, RX12, 1, 20, [])) (bt_X12_span.getD 15 bi_kd) [[]] [] = true := by decide +kernel
theorem bo_X12_span_16 : bi_okkB bt_M bt_P 78 ((yX12_span, cX12_span, 5, none, RX12, 1, 20, [])) (bt_X12_span.getD 16 bi_kd) [] [] = true := by decide +kernel
theorem bm_X12_span : ∀ b k, bt_P 78 b = some k → bi_okk bt_M bt_P 78 ((yX12_span, cX12_span, 5, none, RX12, 1, 20, [])) k := fun b k h => bi_allk (show bt_X12_span[b]? = some k from h) (fun b hb => match b, hb with
  | 0, _ => bi_okkB_ok bo_X12_span_0
  | 1, _ => bi_okkB_ok bo_X12_span_1
  | 2, _ => bi_okkB_ok bo_X12_span_2
  | 3, _ => bi_okkB_ok bo_X12_span_3
  | 4, _ => bi_okkB_ok bo_X12_span_4
  | 5, _ => bi_okkB_ok bo_X12_span_5
  | 6, _ => bi_okkB_ok bo_X12_span_6
  | 7, _ => bi_okkB_ok bo_X12_span_7
  | 8, _ => bi_okkB_ok bo_X12_span_8
  | 9, _ => bi_okkB_ok bo_X12_span_9
  | 10, _ => bi_okkB_ok bo_X12_span_10
  | 11, _ => bi_okkB_ok bo_X12_span_11
  | 12, _ => bi_okkB_ok bo_X12_span_12
  | 13, _ => bi_okkB_ok bo_X12_span_13
  | 14, _ => bi_okkB_ok bo_X12_span_14
  | 15, _ => bi_okkB_ok bo_X12_span_15
  | 16, _ => bi_okkB_ok bo_X12_span_16
  | b + 17, hb => absurd hb (by show ¬ b + 17 < 17; omega))
theorem bo_X12_spanOf : bi_oksB bt_M bt_P 79 ((yX12_spanOf, cX12_spanOf, 2, none, RX12, 2, 44, [])) bt_X12_spanOf [([[], [], [6014], [], [], [6014], [], [6039], [7075, 1007, 7072, 7074, 59], [], [], [6014], [], [6027], [7075, 1007, 7072, 7074, 59], [7079, 1007, 7076, 7078, 60]], [])] = true := by decide +kernel
theorem bm_X12_spanOf : ∀ b k, bt_P 79 b = some k → bi_okk bt_M bt_P 79 ((yX12_spanOf, cX12_spanOf, 2, none, RX12, 2, 44, [])) k := fun b k h => bi_oksB_ok _ _ bo_X12_spanOf k (List.mem_of_getElem? (show bt_X12_spanOf[b]? = some k from h))
theorem bo_X12_staged_0 : bi_okkB bt_M bt_P 80 ((yX12_staged, cX12_staged, 6, none, RX12, 4, 86, [])) (bt_X12_staged.getD 0 bi_kd) [[], [7130, 1013, 7127, 7128, 7129]] [] = true := by decide +kernel
theorem bo_X12_staged_1 : bi_okkB bt_M bt_P 80 ((yX12_staged, cX12_staged, 6, none, RX12, 4, 86, [])) (bt_X12_staged.getD 1 bi_kd) [[], [], [], [], [6048], [], [6050], [], [6054], [], [7043, 1007, 7040, 7042, 53]] [] = true := by decide +kernel
theorem bo_X12_staged_2 : bi_okkB bt_M bt_P 80 ((yX12_staged, cX12_staged, 6, none, RX12, 4, 86, [])) (bt_X12_staged.getD 2 bi_kd) [[], [], [6014], [], [6048], [7075, 1007, 7072, 7074, 59], [], [], [], [6014], [], [6050], [7075, 1007, 7072, 7074, 59], [], [], [], [6015], [], [], [6014], [], [], [6166, 1007, 6163, 6165, 40], [], [], [6174, 1007, 6171, 6173, 42]] [] = true := by decide +kernel
theorem bo_X12_staged_3 : bi_okkB bt_M bt_P 80 ((yX12_staged, cX12_staged, 6, none, RX12, 4, 86, [])) (bt_X12_staged.getD 3 bi_kd) [] [] = true := by decide +kernel
theorem bo_X12_staged_4 : bi_okkB bt_M bt_P 80 ((yX12_staged, cX12_staged, 6, none, RX12, 4, 86, [])) (bt_X12_staged.getD 4 bi_kd) [[], [6048]] [] = true := by decide +kernel
theorem bo_X12_staged_5 : bi_okkB bt_M bt_P 80 ((yX12_staged, cX12_staged, 6, none, RX12, 4, 86, [])) (bt_X12_staged.getD 5 bi_kd) [[], [], [6023]] [] = true := by decide +kernel
end
section
/-! the tables are as the code has them -/
theorem bo_X12_staged_6 : bi_okkB bt_M bt_P 80 ((yX12_staged, cX12_staged, 6, none, RX12, 4, 86, [])) (bt_X12_staged.getD 6 bi_kd) [[], [6050], [], [], [7028, 1013, 7025, 7026, 7027], [], [], [], [6231, 1013, 6228, 6229, 6230], [], [], [6019], [], [], [6020], [], [], [6021], [], [], [6063], [], [], [5129], [7003, 1013, 7000, 7001, 7002], [], [], [], [], [], [], [], [7043, 1007, 7040, 7042, 53]] [] = true := by decide +kernel
theorem bm_X12_staged : ∀ b k, bt_P 80 b = some k → bi_okk bt_M bt_P 80 ((yX12_staged, cX12_staged, 6, none, RX12, 4, 86, [])) k := fun b k h => bi_allk (show bt_X12_staged[b]? = some k from h) (fun b hb => match b, hb with
  | 0, _ => bi_okkB_ok bo_X12_staged_0
  | 1, _ => bi_okkB_ok bo_X12_staged_1
  | 2, _ => bi_okkB_ok bo_X12_staged_2
  | 3, _ => bi_okkB_ok bo_X12_staged_3
  | 4, _ => bi_okkB_ok bo_X12_staged_4
  | 5, _ => bi_okkB_ok bo_X12_staged_5
  | 6, _ => bi_okkB_ok bo_X12_staged_6
  | b + 7, hb => absurd hb (by show ¬ b + 7 < 7; omega))
theorem bo_X12_stagesJust : bi_oksB bt_M bt_P 81 ((yX12_stagesJust, cX12_stagesJust, 2, (some .boolean), RX12, 1, 20, [])) bt_X12_stagesJust [([[], [6046]], []), ([[], [6048], [], [5092]], []), ([[], [6050], [], [5093]], []), ([[]], []), ([[]], []), ([], [])] = true := by decide +kernel
theorem bm_X12_stagesJust : ∀ b k, bt_P 81 b = some k → bi_okk bt_M bt_P 81 ((yX12_stagesJust, cX12_stagesJust, 2, (some .boolean), RX12, 1, 20, [])) k := fun b k h => bi_oksB_ok _ _ bo_X12_stagesJust k (List.mem_of_getElem? (show bt_X12_stagesJust[b]? = some k from h))
theorem bo_X12_state_0 : bi_okkB bt_M bt_P 82 ((yX12_state, cX12_state, 4, (some .int), RX12, 2, 48, [])) (bt_X12_state.getD 0 bi_kd) [[], [], [5127], [], [], [6145, 1007, 6142, 6144, 35], [], []] [] = true := by decide +kernel
theorem bo_X12_state_1 : bi_okkB bt_M bt_P 82 ((yX12_state, cX12_state, 4, (some .int), RX12, 2, 48, [])) (bt_X12_state.getD 1 bi_kd) [[]] [] = true := by decide +kernel
theorem bo_X12_state_2 : bi_okkB bt_M bt_P 82 ((yX12_state, cX12_state, 4, (some .int), RX12, 2, 48, [])) (bt_X12_state.getD 2 bi_kd) [[]] [] = true := by decide +kernel
theorem bo_X12_state_3 : bi_okkB bt_M bt_P 82 ((yX12_state, cX12_state, 4, (some .int), RX12, 2, 48, [])) (bt_X12_state.getD 3 bi_kd) [[], [6016]] [] = true := by decide +kernel
theorem bo_X12_state_4 : bi_okkB bt_M bt_P 82 ((yX12_state, cX12_state, 4, (some .int), RX12, 2, 48, [])) (bt_X12_state.getD 4 bi_kd) [[], [6018]] [] = true := by decide +kernel
theorem bo_X12_state_5 : bi_okkB bt_M bt_P 82 ((yX12_state, cX12_state, 4, (some .int), RX12, 2, 48, [])) (bt_X12_state.getD 5 bi_kd) [[], [5145], [], [6019], []] [] = true := by decide +kernel
theorem bo_X12_state_6 : bi_okkB bt_M bt_P 82 ((yX12_state, cX12_state, 4, (some .int), RX12, 2, 48, [])) (bt_X12_state.getD 6 bi_kd) [[], [5145], [], [6020], []] [] = true := by decide +kernel
theorem bo_X12_state_7 : bi_okkB bt_M bt_P 82 ((yX12_state, cX12_state, 4, (some .int), RX12, 2, 48, [])) (bt_X12_state.getD 7 bi_kd) [[], [5145], [], [6021], []] [] = true := by decide +kernel
theorem bo_X12_state_8 : bi_okkB bt_M bt_P 82 ((yX12_state, cX12_state, 4, (some .int), RX12, 2, 48, [])) (bt_X12_state.getD 8 bi_kd) [[], [6023]] [] = true := by decide +kernel
theorem bo_X12_state_9 : bi_okkB bt_M bt_P 82 ((yX12_state, cX12_state, 4, (some .int), RX12, 2, 48, [])) (bt_X12_state.getD 9 bi_kd) [[], [6235, 1013, 6232, 6233, 6234]] [] = true := by decide +kernel
theorem bo_X12_state_10 : bi_okkB bt_M bt_P 82 ((yX12_state, cX12_state, 4, (some .int), RX12, 2, 48, [])) (bt_X12_state.getD 10 bi_kd) [[], [6025]] [] = true := by decide +kernel
theorem bo_X12_state_11 : bi_okkB bt_M bt_P 82 ((yX12_state, cX12_state, 4, (some .int), RX12, 2, 48, [])) (bt_X12_state.getD 11 bi_kd) [[], [6027]] [] = true := by decide +kernel
theorem bo_X12_state_12 : bi_okkB bt_M bt_P 82 ((yX12_state, cX12_state, 4, (some .int), RX12, 2, 48, [])) (bt_X12_state.getD 12 bi_kd) [[], [6029]] [] = true := by decide +kernel
theorem bo_X12_state_13 : bi_okkB bt_M bt_P 82 ((yX12_state, cX12_state, 4, (some .int), RX12, 2, 48, [])) (bt_X12_state.getD 13 bi_kd) [[], [6031]] [] = true := by decide +kernel
theorem bo_X12_state_14 : bi_okkB bt_M bt_P 82 ((yX12_state, cX12_state, 4, (some .int), RX12, 2, 48, [])) (bt_X12_state.getD 14 bi_kd) [[], [6032]] [] = true := by decide +kernel
theorem bo_X12_state_15 : bi_okkB bt_M bt_P 82 ((yX12_state, cX12_state, 4, (some .int), RX12, 2, 48, [])) (bt_X12_state.getD 15 bi_kd) [[], [6039]] [] = true := by decide +kernel
theorem bo_X12_state_16 : bi_okkB bt_M bt_P 82 ((yX12_state, cX12_state, 4, (some .int), RX12, 2, 48, [])) (bt_X12_state.getD 16 bi_kd) [[], [6040]] [] = true := by decide +kernel
theorem bo_X12_state_17 : bi_okkB bt_M bt_P 82 ((yX12_state, cX12_state, 4, (some .int), RX12, 2, 48, [])) (bt_X12_state.getD 17 bi_kd) [[], [6041]] [] = true := by decide +kernel
theorem bo_X12_state_18 : bi_okkB bt_M bt_P 82 ((yX12_state, cX12_state, 4, (some .int), RX12, 2, 48, [])) (bt_X12_state.getD 18 bi_kd) [[], [6042]] [] = true := by decide +kernel
theorem bo_X12_state_19 : bi_okkB bt_M bt_P 82 ((yX12_state, cX12_state, 4, (some .int), RX12, 2, 48, [])) (bt_X12_state.getD 19 bi_kd) [[], [6043]] [] = true := by decide +kernel
theorem bo_X12_state_20 : bi_okkB bt_M bt_P 82 ((yX12_state, cX12_state, 4, (some .int), RX12, 2, 48, [])) (bt_X12_state.getD 20 bi_kd) [[], [6044]] [] = true := by decide +kernel
theorem bo_X12_state_21 : bi_okkB bt_M bt_P 82 ((yX12_state, cX12_state, 4, (some .int), RX12, 2, 48, [])) (bt_X12_state.getD 21 bi_kd) [[]] [] = true := by decide +kernel
theorem bo_X12_state_22 : bi_okkB bt_M bt_P 82 ((yX12_state, cX12_state, 4, (some .int), RX12, 2, 48, [])) (bt_X12_state.getD 22 bi_kd) [[]] [] = true := by decide +kernel
theorem bo_X12_state_23 : bi_okkB bt_M bt_P 82 ((yX12_state, cX12_state, 4, (some .int), RX12, 2, 48, [])) (bt_X12_state.getD 23 bi_kd) [] [] = true := by decide +kernel
theorem bo_X12_state_24 : bi_okkB bt_M bt_P 82 ((yX12_state, cX12_state, 4, (some .int), RX12, 2, 48, [])) (bt_X12_state.getD 24 bi_kd) [[], [6054]] [] = true := by decide +kernel
theorem bo_X12_state_25 : bi_okkB bt_M bt_P 82 ((yX12_state, cX12_state, 4, (some .int), RX12, 2, 48, [])) (bt_X12_state.getD 25 bi_kd) [[], [6056]] [] = true := by decide +kernel
theorem bo_X12_state_26 : bi_okkB bt_M bt_P 82 ((yX12_state, cX12_state, 4, (some .int), RX12, 2, 48, [])) (bt_X12_state.getD 26 bi_kd) [[], [6050]] [] = true := by decide +kernel
theorem bo_X12_state_27 : bi_okkB bt_M bt_P 82 ((yX12_state, cX12_state, 4, (some .int), RX12, 2, 48, [])) (bt_X12_state.getD 27 bi_kd) [[], [6057]] [] = true := by decide +kernel
theorem bo_X12_state_28 : bi_okkB bt_M bt_P 82 ((yX12_state, cX12_state, 4, (some .int), RX12, 2, 48, [])) (bt_X12_state.getD 28 bi_kd) [[], [6059], []] [] = true := by decide +kernel
theorem bo_X12_state_29 : bi_okkB bt_M bt_P 82 ((yX12_state, cX12_state, 4, (some .int), RX12, 2, 48, [])) (bt_X12_state.getD 29 bi_kd) [[], [], [6194, 1007, 6191, 6193, 47]] [] = true := by decide +kernel
theorem bo_X12_state_30 : bi_okkB bt_M bt_P 82 ((yX12_state, cX12_state, 4, (some .int), RX12, 2, 48, [])) (bt_X12_state.getD 30 bi_kd) [[], [6033]] [] = true := by decide +kernel
theorem bo_X12_state_31 : bi_okkB bt_M bt_P 82 ((yX12_state, cX12_state, 4, (some .int), RX12, 2, 48, [])) (bt_X12_state.getD 31 bi_kd) [[]] [] = true := by decide +kernel
theorem bm_X12_state : ∀ b k, bt_P 82 b = some k → bi_okk bt_M bt_P 82 ((yX12_state, cX12_state, 4, (some .int), RX12, 2, 48, [])) k := fun b k h => bi_allk (show bt_X12_state[b]? = some k from h) (fun b hb => match b, hb with
  | 0, _ => bi_okkB_ok bo_X12_state_0
  | 1, _ => bi_okkB_ok bo_X12_state_1
  | 2, _ => bi_okkB_ok bo_X12_state_2
  | 3, _ => bi_okkB_ok bo_X12_state_3
  | 4, _ => bi_okkB_ok bo_X12_state_4
  | 5, _ => bi_okkB_ok bo_X12_state_5
  | 6, _ => bi_okkB_ok bo_X12_state_6
  | 7, _ => bi_okkB_ok bo_X12_state_7
  | 8, _ => bi_okkB_ok bo_X12_state_8
  | 9, _ => bi_okkB_ok bo_X12_state_9
  | 10, _ => bi_okkB_ok bo_X12_state_10
  | 11, _ => bi_okkB_ok bo_X12_state_11
  | 12, _ => bi_okkB_ok bo_X12_state_12
  | 13, _ => bi_okkB_ok bo_X12_state_13
  | 14, _ => bi_okkB_ok bo_X12_state_14
  | 15, _ => bi_okkB_ok bo_X12_state_15
  | 16, _ => bi_okkB_ok bo_X12_state_16
  | 17, _ => bi_okkB_ok bo_X12_state_17
  | 18, _ => bi_okkB_ok bo_X12_state_18
  | 19, _ => bi_okkB_ok bo_X12_state_19
  | 20, _ => bi_okkB_ok bo_X12_state_20
  | 21, _ => bi_okkB_ok bo_X12_state_21
  | 22, _ => bi_okkB_ok bo_X12_state_22
  | 23, _ => bi_okkB_ok bo_X12_state_23
  | 24, _ => bi_okkB_ok bo_X12_state_24
  | 25, _ => bi_okkB_ok bo_X12_state_25
  | 26, _ => bi_okkB_ok bo_X12_state_26
  | 27, _ => bi_okkB_ok bo_X12_state_27
  | 28, _ => bi_okkB_ok bo_X12_state_28
  | 29, _ => bi_okkB_ok bo_X12_state_29
  | 30, _ => bi_okkB_ok bo_X12_state_30
  | 31, _ => bi_okkB_ok bo_X12_state_31
  | b + 32, hb => absurd hb (by show ¬ b + 32 < 32; omega))
theorem bo_X12_stay : bi_oksB bt_M bt_P 83 ((yX12_stay, cX12_stay, 4, (some .int), RX12, 3, 62, [])) bt_X12_stay [([[], [], [5127], [], [], [6145, 1007, 6142, 6144, 35], [], [], [], [], [], [6219, 1007, 6216, 6218, 49], [], []], []), ([[]], []), ([[], [6032]], []), ([[]], []), ([[], [], [6015], [6178, 1007, 6175, 6177, 43]], []), ([[]], []), ([[], [], [6016], []], [])] = true := by decide +kernel
theorem bm_X12_stay : ∀ b k, bt_P 83 b = some k → bi_okk bt_M bt_P 83 ((yX12_stay, cX12_stay, 4, (some .int), RX12, 3, 62, [])) k := fun b k h => bi_oksB_ok _ _ bo_X12_stay k (List.mem_of_getElem? (show bt_X12_stay[b]? = some k from h))
theorem bo_X12_sum_0 : bi_okkB bt_M bt_P 84 ((yX12_sum, cX12_sum, 6, (some .int), RX12, 2, 43, [])) (bt_X12_sum.getD 0 bi_kd) [[], [], [5127], [], [], [6145, 1007, 6142, 6144, 35], [], [], [], [], [], [6149, 1007, 6146, 6148, 36]] [] = true := by decide +kernel
theorem bo_X12_sum_1 : bi_okkB bt_M bt_P 84 ((yX12_sum, cX12_sum, 6, (some .int), RX12, 2, 43, [])) (bt_X12_sum.getD 1 bi_kd) [[], [], [7182, 1007, 7179, 7181, 76]] [] = true := by decide +kernel
theorem bo_X12_sum_2 : bi_okkB bt_M bt_P 84 ((yX12_sum, cX12_sum, 6, (some .int), RX12, 2, 43, [])) (bt_X12_sum.getD 2 bi_kd) [[], [5136], [], [6015], []] [] = true := by decide +kernel
theorem bo_X12_sum_3 : bi_okkB bt_M bt_P 84 ((yX12_sum, cX12_sum, 6, (some .int), RX12, 2, 43, [])) (bt_X12_sum.getD 3 bi_kd) [[], [], [7182, 1007, 7179, 7181, 76]] [] = true := by decide +kernel
theorem bo_X12_sum_4 : bi_okkB bt_M bt_P 84 ((yX12_sum, cX12_sum, 6, (some .int), RX12, 2, 43, [])) (bt_X12_sum.getD 4 bi_kd) [[], [], [6199, 1007, 6196, 6198, 48], [], [], [], []] [] = true := by decide +kernel
theorem bo_X12_sum_5 : bi_okkB bt_M bt_P 84 ((yX12_sum, cX12_sum, 6, (some .int), RX12, 2, 43, [])) (bt_X12_sum.getD 5 bi_kd) [[], [], [5140], [], [6014], []] [] = true := by decide +kernel
theorem bo_X12_sum_6 : bi_okkB bt_M bt_P 84 ((yX12_sum, cX12_sum, 6, (some .int), RX12, 2, 43, [])) (bt_X12_sum.getD 6 bi_kd) [[], [], [], [], [5144], [], [6062], [], [], [5140], [], [6014], [], [], [], [], [], [], [], [], []] [] = true := by decide +kernel
theorem bo_X12_sum_7 : bi_okkB bt_M bt_P 84 ((yX12_sum, cX12_sum, 6, (some .int), RX12, 2, 43, [])) (bt_X12_sum.getD 7 bi_kd) [[]] [] = true := by decide +kernel
theorem bm_X12_sum : ∀ b k, bt_P 84 b = some k → bi_okk bt_M bt_P 84 ((yX12_sum, cX12_sum, 6, (some .int), RX12, 2, 43, [])) k := fun b k h => bi_allk (show bt_X12_sum[b]? = some k from h) (fun b hb => match b, hb with
  | 0, _ => bi_okkB_ok bo_X12_sum_0
  | 1, _ => bi_okkB_ok bo_X12_sum_1
  | 2, _ => bi_okkB_ok bo_X12_sum_2
  | 3, _ => bi_okkB_ok bo_X12_sum_3
  | 4, _ => bi_okkB_ok bo_X12_sum_4
  | 5, _ => bi_okkB_ok bo_X12_sum_5
  | 6, _ => bi_okkB_ok bo_X12_sum_6
  | 7, _ => bi_okkB_ok bo_X12_sum_7
  | b + 8, hb => absurd hb (by show ¬ b + 8 < 8; omega))
theorem bo_X12_takes : bi_oksB bt_M bt_P 85 ((yX12_takes, cX12_takes, 2, (some .boolean), RX12, 5, 108, [])) bt_X12_takes [([[], [], [6162, 1007, 6159, 6161, 39]], []), ([[], [], [6015], [6178, 1007, 6175, 6177, 43]], []), ([[]], []), ([[], [], [6033], [], [], [6033], [], [], [], [6018], [], [], [6033], [], [], [6019], [6231, 1013, 6228, 6229, 6230], [], [], [6014], [], [6235, 1013, 6232, 6233, 6234], [], [6019], [6239, 1007, 6236, 6238, 51], [], [], [5129], [7003, 1013, 7000, 7001, 7002], []], [])] = true := by decide +kernel
theorem bm_X12_takes : ∀ b k, bt_P 85 b = some k → bi_okk bt_M bt_P 85 ((yX12_takes, cX12_takes, 2, (some .boolean), RX12, 5, 108, [])) k := fun b k h => bi_oksB_ok _ _ bo_X12_takes k (List.mem_of_getElem? (show bt_X12_takes[b]? = some k from h))
theorem bo_X12_thrown : bi_oksB bt_M bt_P 86 ((yX12_thrown, cX12_thrown, 1, (some .int), RX12, 1, 20, [])) bt_X12_thrown [([[], [5127]], [])] = true := by decide +kernel
theorem bm_X12_thrown : ∀ b k, bt_P 86 b = some k → bi_okk bt_M bt_P 86 ((yX12_thrown, cX12_thrown, 1, (some .int), RX12, 1, 20, [])) k := fun b k h => bi_oksB_ok _ _ bo_X12_thrown k (List.mem_of_getElem? (show bt_X12_thrown[b]? = some k from h))
theorem bo_X12_tick : bi_oksB bt_M bt_P 87 ((yX12_tick, cX12_tick, 5, (some .int), RX12, 7, 150, [])) bt_X12_tick [([[], [], [5127], [], [], [5132], [], [], [5132], [], [5161], [], [], [], [], [], []], []), ([[], []], []), ([[], [], [], [], []], []), ([[], [5136], [], [6015], []], []), ([[], [], [7059, 1007, 7056, 7058, 55]], []), ([[]], []), ([[], [5132]], [])] = true := by decide +kernel
theorem bm_X12_tick : ∀ b k, bt_P 87 b = some k → bi_okk bt_M bt_P 87 ((yX12_tick, cX12_tick, 5, (some .int), RX12, 7, 150, [])) k := fun b k h => bi_oksB_ok _ _ bo_X12_tick k (List.mem_of_getElem? (show bt_X12_tick[b]? = some k from h))
theorem bo_X12_ticks_0 : bi_okkB bt_M bt_P 88 ((yX12_ticks, cX12_ticks, 2, none, RX12, 6, 129, [])) (bt_X12_ticks.getD 0 bi_kd) [[], [6016], []] [] = true := by decide +kernel
theorem bo_X12_ticks_1 : bi_okkB bt_M bt_P 88 ((yX12_ticks, cX12_ticks, 2, none, RX12, 6, 129, [])) (bt_X12_ticks.getD 1 bi_kd) [[], [5131]] [] = true := by decide +kernel
theorem bo_X12_ticks_2 : bi_okkB bt_M bt_P 88 ((yX12_ticks, cX12_ticks, 2, none, RX12, 6, 129, [])) (bt_X12_ticks.getD 2 bi_kd) [[], [5132], [], [5131], []] [] = true := by decide +kernel
theorem bo_X12_ticks_3 : bi_okkB bt_M bt_P 88 ((yX12_ticks, cX12_ticks, 2, none, RX12, 6, 129, [])) (bt_X12_ticks.getD 3 bi_kd) [[], [6019], [], [6223, 1013, 6220, 6221, 6222]] [] = true := by decide +kernel
theorem bo_X12_ticks_4 : bi_okkB bt_M bt_P 88 ((yX12_ticks, cX12_ticks, 2, none, RX12, 6, 129, [])) (bt_X12_ticks.getD 4 bi_kd) [[], [6033], []] [] = true := by decide +kernel
theorem bo_X12_ticks_5 : bi_okkB bt_M bt_P 88 ((yX12_ticks, cX12_ticks, 2, none, RX12, 6, 129, [])) (bt_X12_ticks.getD 5 bi_kd) [[], [], [6227, 1007, 6224, 6226, 50]] [] = true := by decide +kernel
theorem bo_X12_ticks_6 : bi_okkB bt_M bt_P 88 ((yX12_ticks, cX12_ticks, 2, none, RX12, 6, 129, [])) (bt_X12_ticks.getD 6 bi_kd) [] [] = true := by decide +kernel
theorem bo_X12_ticks_7 : bi_okkB bt_M bt_P 88 ((yX12_ticks, cX12_ticks, 2, none, RX12, 6, 129, [])) (bt_X12_ticks.getD 7 bi_kd) [[], [6016], []] [] = true := by decide +kernel
theorem bo_X12_ticks_8 : bi_okkB bt_M bt_P 88 ((yX12_ticks, cX12_ticks, 2, none, RX12, 6, 129, [])) (bt_X12_ticks.getD 8 bi_kd) [[], [6044]] [] = true := by decide +kernel
theorem bo_X12_ticks_9 : bi_okkB bt_M bt_P 88 ((yX12_ticks, cX12_ticks, 2, none, RX12, 6, 129, [])) (bt_X12_ticks.getD 9 bi_kd) [] [] = true := by decide +kernel
theorem bo_X12_ticks_10 : bi_okkB bt_M bt_P 88 ((yX12_ticks, cX12_ticks, 2, none, RX12, 6, 129, [])) (bt_X12_ticks.getD 10 bi_kd) [[], [], [6043], [], [], [6043], [], [6043], []] [] = true := by decide +kernel
theorem bo_X12_ticks_11 : bi_okkB bt_M bt_P 88 ((yX12_ticks, cX12_ticks, 2, none, RX12, 6, 129, [])) (bt_X12_ticks.getD 11 bi_kd) [] [] = true := by decide +kernel
theorem bo_X12_ticks_12 : bi_okkB bt_M bt_P 88 ((yX12_ticks, cX12_ticks, 2, none, RX12, 6, 129, [])) (bt_X12_ticks.getD 12 bi_kd) [[], [], [6043], [], [], [], [], [], [], [], [7043, 1007, 7040, 7042, 53]] [] = true := by decide +kernel
theorem bo_X12_ticks_13 : bi_okkB bt_M bt_P 88 ((yX12_ticks, cX12_ticks, 2, none, RX12, 6, 129, [])) (bt_X12_ticks.getD 13 bi_kd) [[], [6016]] [] = true := by decide +kernel
theorem bo_X12_ticks_14 : bi_okkB bt_M bt_P 88 ((yX12_ticks, cX12_ticks, 2, none, RX12, 6, 129, [])) (bt_X12_ticks.getD 14 bi_kd) [[], [], [7063, 1007, 7060, 7062, 56]] [] = true := by decide +kernel
theorem bo_X12_ticks_15 : bi_okkB bt_M bt_P 88 ((yX12_ticks, cX12_ticks, 2, none, RX12, 6, 129, [])) (bt_X12_ticks.getD 15 bi_kd) [] [] = true := by decide +kernel
theorem bm_X12_ticks : ∀ b k, bt_P 88 b = some k → bi_okk bt_M bt_P 88 ((yX12_ticks, cX12_ticks, 2, none, RX12, 6, 129, [])) k := fun b k h => bi_allk (show bt_X12_ticks[b]? = some k from h) (fun b hb => match b, hb with
  | 0, _ => bi_okkB_ok bo_X12_ticks_0
  | 1, _ => bi_okkB_ok bo_X12_ticks_1
  | 2, _ => bi_okkB_ok bo_X12_ticks_2
  | 3, _ => bi_okkB_ok bo_X12_ticks_3
  | 4, _ => bi_okkB_ok bo_X12_ticks_4
  | 5, _ => bi_okkB_ok bo_X12_ticks_5
  | 6, _ => bi_okkB_ok bo_X12_ticks_6
  | 7, _ => bi_okkB_ok bo_X12_ticks_7
  | 8, _ => bi_okkB_ok bo_X12_ticks_8
  | 9, _ => bi_okkB_ok bo_X12_ticks_9
  | 10, _ => bi_okkB_ok bo_X12_ticks_10
  | 11, _ => bi_okkB_ok bo_X12_ticks_11
  | 12, _ => bi_okkB_ok bo_X12_ticks_12
  | 13, _ => bi_okkB_ok bo_X12_ticks_13
  | 14, _ => bi_okkB_ok bo_X12_ticks_14
  | 15, _ => bi_okkB_ok bo_X12_ticks_15
  | b + 16, hb => absurd hb (by show ¬ b + 16 < 16; omega))
theorem bo_X12_total_0 : bi_okkB bt_M bt_P 89 ((yX12_total, cX12_total, 3, (some .int), RX12, 3, 71, [])) (bt_X12_total.getD 0 bi_kd) [[], [], [5127], []] [] = true := by decide +kernel
theorem bo_X12_total_1 : bi_okkB bt_M bt_P 89 ((yX12_total, cX12_total, 3, (some .int), RX12, 3, 71, [])) (bt_X12_total.getD 1 bi_kd) [[], [5132]] [] = true := by decide +kernel
theorem bo_X12_total_2 : bi_okkB bt_M bt_P 89 ((yX12_total, cX12_total, 3, (some .int), RX12, 3, 71, [])) (bt_X12_total.getD 2 bi_kd) [[], [5133]] [] = true := by decide +kernel
theorem bo_X12_total_3 : bi_okkB bt_M bt_P 89 ((yX12_total, cX12_total, 3, (some .int), RX12, 3, 71, [])) (bt_X12_total.getD 3 bi_kd) [[], [5141]] [] = true := by decide +kernel
theorem bo_X12_total_4 : bi_okkB bt_M bt_P 89 ((yX12_total, cX12_total, 3, (some .int), RX12, 3, 71, [])) (bt_X12_total.getD 4 bi_kd) [[], [5164]] [] = true := by decide +kernel
theorem bo_X12_total_5 : bi_okkB bt_M bt_P 89 ((yX12_total, cX12_total, 3, (some .int), RX12, 3, 71, [])) (bt_X12_total.getD 5 bi_kd) [[], [5134]] [] = true := by decide +kernel
theorem bo_X12_total_6 : bi_okkB bt_M bt_P 89 ((yX12_total, cX12_total, 3, (some .int), RX12, 3, 71, [])) (bt_X12_total.getD 6 bi_kd) [[], [5135]] [] = true := by decide +kernel
theorem bo_X12_total_7 : bi_okkB bt_M bt_P 89 ((yX12_total, cX12_total, 3, (some .int), RX12, 3, 71, [])) (bt_X12_total.getD 7 bi_kd) [[], [], [], [], [], [], [], []] [] = true := by decide +kernel
theorem bo_X12_total_8 : bi_okkB bt_M bt_P 89 ((yX12_total, cX12_total, 3, (some .int), RX12, 3, 71, [])) (bt_X12_total.getD 8 bi_kd) [[], []] [] = true := by decide +kernel
theorem bo_X12_total_9 : bi_okkB bt_M bt_P 89 ((yX12_total, cX12_total, 3, (some .int), RX12, 3, 71, [])) (bt_X12_total.getD 9 bi_kd) [[], [], [], []] [] = true := by decide +kernel
theorem bo_X12_total_10 : bi_okkB bt_M bt_P 89 ((yX12_total, cX12_total, 3, (some .int), RX12, 3, 71, [])) (bt_X12_total.getD 10 bi_kd) [[]] [] = true := by decide +kernel
theorem bo_X12_total_11 : bi_okkB bt_M bt_P 89 ((yX12_total, cX12_total, 3, (some .int), RX12, 3, 71, [])) (bt_X12_total.getD 11 bi_kd) [[], [], []] [] = true := by decide +kernel
theorem bo_X12_total_12 : bi_okkB bt_M bt_P 89 ((yX12_total, cX12_total, 3, (some .int), RX12, 3, 71, [])) (bt_X12_total.getD 12 bi_kd) [[], [5136], [], []] [] = true := by decide +kernel
theorem bo_X12_total_13 : bi_okkB bt_M bt_P 89 ((yX12_total, cX12_total, 3, (some .int), RX12, 3, 71, [])) (bt_X12_total.getD 13 bi_kd) [[]] [] = true := by decide +kernel
theorem bo_X12_total_14 : bi_okkB bt_M bt_P 89 ((yX12_total, cX12_total, 3, (some .int), RX12, 3, 71, [])) (bt_X12_total.getD 14 bi_kd) [[]] [] = true := by decide +kernel
theorem bo_X12_total_15 : bi_okkB bt_M bt_P 89 ((yX12_total, cX12_total, 3, (some .int), RX12, 3, 71, [])) (bt_X12_total.getD 15 bi_kd) [] [] = true := by decide +kernel
theorem bo_X12_total_16 : bi_okkB bt_M bt_P 89 ((yX12_total, cX12_total, 3, (some .int), RX12, 3, 71, [])) (bt_X12_total.getD 16 bi_kd) [[], [5137], [], []] [] = true := by decide +kernel
theorem bo_X12_total_17 : bi_okkB bt_M bt_P 89 ((yX12_total, cX12_total, 3, (some .int), RX12, 3, 71, [])) (bt_X12_total.getD 17 bi_kd) [[], [], [6190, 1007, 6187, 6189, 46]] [] = true := by decide +kernel
theorem bo_X12_total_18 : bi_okkB bt_M bt_P 89 ((yX12_total, cX12_total, 3, (some .int), RX12, 3, 71, [])) (bt_X12_total.getD 18 bi_kd) [[], [5138], [], []] [] = true := by decide +kernel
theorem bm_X12_total : ∀ b k, bt_P 89 b = some k → bi_okk bt_M bt_P 89 ((yX12_total, cX12_total, 3, (some .int), RX12, 3, 71, [])) k := fun b k h => bi_allk (show bt_X12_total[b]? = some k from h) (fun b hb => match b, hb with
  | 0, _ => bi_okkB_ok bo_X12_total_0
  | 1, _ => bi_okkB_ok bo_X12_total_1
  | 2, _ => bi_okkB_ok bo_X12_total_2
  | 3, _ => bi_okkB_ok bo_X12_total_3
  | 4, _ => bi_okkB_ok bo_X12_total_4
  | 5, _ => bi_okkB_ok bo_X12_total_5
  | 6, _ => bi_okkB_ok bo_X12_total_6
  | 7, _ => bi_okkB_ok bo_X12_total_7
  | 8, _ => bi_okkB_ok bo_X12_total_8
  | 9, _ => bi_okkB_ok bo_X12_total_9
  | 10, _ => bi_okkB_ok bo_X12_total_10
  | 11, _ => bi_okkB_ok bo_X12_total_11
  | 12, _ => bi_okkB_ok bo_X12_total_12
  | 13, _ => bi_okkB_ok bo_X12_total_13
  | 14, _ => bi_okkB_ok bo_X12_total_14
  | 15, _ => bi_okkB_ok bo_X12_total_15
  | 16, _ => bi_okkB_ok bo_X12_total_16
  | 17, _ => bi_okkB_ok bo_X12_total_17
  | 18, _ => bi_okkB_ok bo_X12_total_18
  | b + 19, hb => absurd hb (by show ¬ b + 19 < 19; omega))
theorem bo_X12_up_0 : bi_okkB bt_M bt_P 90 ((yX12_up, cX12_up, 5, (some .int), RX12, 2, 40, [])) (bt_X12_up.getD 0 bi_kd) [[], [], [5127], [], [7086, 1007, 7084, 7085]] [] = true := by decide +kernel
theorem bo_X12_up_1 : bi_okkB bt_M bt_P 90 ((yX12_up, cX12_up, 5, (some .int), RX12, 2, 40, [])) (bt_X12_up.getD 1 bi_kd) [[]] [] = true := by decide +kernel
theorem bo_X12_up_2 : bi_okkB bt_M bt_P 90 ((yX12_up, cX12_up, 5, (some .int), RX12, 2, 40, [])) (bt_X12_up.getD 2 bi_kd) [[], [5136], [], []] [] = true := by decide +kernel
theorem bo_X12_up_3 : bi_okkB bt_M bt_P 90 ((yX12_up, cX12_up, 5, (some .int), RX12, 2, 40, [])) (bt_X12_up.getD 3 bi_kd) [[]] [] = true := by decide +kernel
end
section
/-! the tables are as the code has them -/
theorem bo_X12_up_4 : bi_okkB bt_M bt_P 90 ((yX12_up, cX12_up, 5, (some .int), RX12, 2, 40, [])) (bt_X12_up.getD 4 bi_kd) [[], [5136], [], [], [], [], [], [], []] [] = true := by decide +kernel
theorem bo_X12_up_5 : bi_okkB bt_M bt_P 90 ((yX12_up, cX12_up, 5, (some .int), RX12, 2, 40, [])) (bt_X12_up.getD 5 bi_kd) [[], [], [5133]] [] = true := by decide +kernel
theorem bo_X12_up_6 : bi_okkB bt_M bt_P 90 ((yX12_up, cX12_up, 5, (some .int), RX12, 2, 40, [])) (bt_X12_up.getD 6 bi_kd) [[], [5161], [], [], [], [], [], [], [], [], [], [5145], [], [6019], [], [], [5145], [], [6020], [], [], [], [], [], [6019], [], [6020]] [] = true := by decide +kernel
theorem bo_X12_up_7 : bi_okkB bt_M bt_P 90 ((yX12_up, cX12_up, 5, (some .int), RX12, 2, 40, [])) (bt_X12_up.getD 7 bi_kd) [[], [], [6063], [], [], [6065]] [] = true := by decide +kernel
theorem bo_X12_up_8 : bi_okkB bt_M bt_P 90 ((yX12_up, cX12_up, 5, (some .int), RX12, 2, 40, [])) (bt_X12_up.getD 8 bi_kd) [[], [], [6020], [6019], [], [], [6025], [6039], [], [], [6040], [], [], [6041], [], [], [6042], [], [], [6043], [], [], [6044], []] [] = true := by decide +kernel
theorem bo_X12_up_9 : bi_okkB bt_M bt_P 90 ((yX12_up, cX12_up, 5, (some .int), RX12, 2, 40, [])) (bt_X12_up.getD 9 bi_kd) [[]] [] = true := by decide +kernel
theorem bm_X12_up : ∀ b k, bt_P 90 b = some k → bi_okk bt_M bt_P 90 ((yX12_up, cX12_up, 5, (some .int), RX12, 2, 40, [])) k := fun b k h => bi_allk (show bt_X12_up[b]? = some k from h) (fun b hb => match b, hb with
  | 0, _ => bi_okkB_ok bo_X12_up_0
  | 1, _ => bi_okkB_ok bo_X12_up_1
  | 2, _ => bi_okkB_ok bo_X12_up_2
  | 3, _ => bi_okkB_ok bo_X12_up_3
  | 4, _ => bi_okkB_ok bo_X12_up_4
  | 5, _ => bi_okkB_ok bo_X12_up_5
  | 6, _ => bi_okkB_ok bo_X12_up_6
  | 7, _ => bi_okkB_ok bo_X12_up_7
  | 8, _ => bi_okkB_ok bo_X12_up_8
  | 9, _ => bi_okkB_ok bo_X12_up_9
  | b + 10, hb => absurd hb (by show ¬ b + 10 < 10; omega))
theorem bo_X12_write : bi_oksB bt_M bt_P 91 ((yX12_write, cX12_write, 6, (some .int), RX12, 7, 154, [])) bt_X12_write [([[], [], [5127], [], [], [6145, 1007, 6142, 6144, 35], [], [], [], [], [], [6149, 1007, 6146, 6148, 36]], []), ([[], [], [], [], [], [6153, 1007, 6150, 6152, 37]], []), ([[]], []), ([], [])] = true := by decide +kernel
theorem bm_X12_write : ∀ b k, bt_P 91 b = some k → bi_okk bt_M bt_P 91 ((yX12_write, cX12_write, 6, (some .int), RX12, 7, 154, [])) k := fun b k h => bi_oksB_ok _ _ bo_X12_write k (List.mem_of_getElem? (show bt_X12_write[b]? = some k from h))
theorem bo_X12_writes_0 : bi_okkB bt_M bt_P 92 ((yX12_writes, cX12_writes, 6, (some .int), RX12, 6, 129, [])) (bt_X12_writes.getD 0 bi_kd) [[], [5136], [], [6015], []] [] = true := by decide +kernel
theorem bo_X12_writes_1 : bi_okkB bt_M bt_P 92 ((yX12_writes, cX12_writes, 6, (some .int), RX12, 6, 129, [])) (bt_X12_writes.getD 1 bi_kd) [[]] [] = true := by decide +kernel
theorem bo_X12_writes_2 : bi_okkB bt_M bt_P 92 ((yX12_writes, cX12_writes, 6, (some .int), RX12, 6, 129, [])) (bt_X12_writes.getD 2 bi_kd) [[], [6016], []] [] = true := by decide +kernel
theorem bo_X12_writes_3 : bi_okkB bt_M bt_P 92 ((yX12_writes, cX12_writes, 6, (some .int), RX12, 6, 129, [])) (bt_X12_writes.getD 3 bi_kd) [[]] [] = true := by decide +kernel
theorem bo_X12_writes_4 : bi_okkB bt_M bt_P 92 ((yX12_writes, cX12_writes, 6, (some .int), RX12, 6, 129, [])) (bt_X12_writes.getD 4 bi_kd) [[], [5141], [6154]] [] = true := by decide +kernel
theorem bo_X12_writes_5 : bi_okkB bt_M bt_P 92 ((yX12_writes, cX12_writes, 6, (some .int), RX12, 6, 129, [])) (bt_X12_writes.getD 5 bi_kd) [[]] [] = true := by decide +kernel
theorem bo_X12_writes_6 : bi_okkB bt_M bt_P 92 ((yX12_writes, cX12_writes, 6, (some .int), RX12, 6, 129, [])) (bt_X12_writes.getD 6 bi_kd) [[], [5145], [], [6019], [], [], [5145], [], [6020], [], [], []] [] = true := by decide +kernel
theorem bo_X12_writes_7 : bi_okkB bt_M bt_P 92 ((yX12_writes, cX12_writes, 6, (some .int), RX12, 6, 129, [])) (bt_X12_writes.getD 7 bi_kd) [[], [], [6158, 1007, 6155, 6157, 38]] [] = true := by decide +kernel
theorem bo_X12_writes_8 : bi_okkB bt_M bt_P 92 ((yX12_writes, cX12_writes, 6, (some .int), RX12, 6, 129, [])) (bt_X12_writes.getD 8 bi_kd) [[]] [] = true := by decide +kernel
theorem bo_X12_writes_9 : bi_okkB bt_M bt_P 92 ((yX12_writes, cX12_writes, 6, (some .int), RX12, 6, 129, [])) (bt_X12_writes.getD 9 bi_kd) [[], [], [6015], [6190, 1007, 6187, 6189, 46]] [] = true := by decide +kernel
theorem bo_X12_writes_10 : bi_okkB bt_M bt_P 92 ((yX12_writes, cX12_writes, 6, (some .int), RX12, 6, 129, [])) (bt_X12_writes.getD 10 bi_kd) [[]] [] = true := by decide +kernel
theorem bo_X12_writes_11 : bi_okkB bt_M bt_P 92 ((yX12_writes, cX12_writes, 6, (some .int), RX12, 6, 129, [])) (bt_X12_writes.getD 11 bi_kd) [[], [], [6199, 1007, 6196, 6198, 48], [], [], [5141], [], [], [5141], [], [5142], [], [5141], [], [6019], [], [], [5143], [], [5141], [], [], [5140], [], [6014], [], [], [], [], [], [], [5144], [], [5141], [], [], [], [5145], [], [5141], [], [5145], [], [6019], [], [], [], [], [], [6062], [], [5143], [], [5141], [], [], [], []] [] = true := by decide +kernel
theorem bo_X12_writes_12 : bi_okkB bt_M bt_P 92 ((yX12_writes, cX12_writes, 6, (some .int), RX12, 6, 129, [])) (bt_X12_writes.getD 12 bi_kd) [[], [5145], [], [], [], [5145], [], [6021], []] [] = true := by decide +kernel
theorem bo_X12_writes_13 : bi_okkB bt_M bt_P 92 ((yX12_writes, cX12_writes, 6, (some .int), RX12, 6, 129, [])) (bt_X12_writes.getD 13 bi_kd) [[], [], [6066], [], [], [6066]] [] = true := by decide +kernel
theorem bo_X12_writes_14 : bi_okkB bt_M bt_P 92 ((yX12_writes, cX12_writes, 6, (some .int), RX12, 6, 129, [])) (bt_X12_writes.getD 14 bi_kd) [[], [6062], [], [5143], [], [5141], [], [], [5141], [], [], [], [5141], [6019], [], [5145], [], [6019], [], [], [5145], [], [6020], [], []] [] = true := by decide +kernel
theorem bm_X12_writes : ∀ b k, bt_P 92 b = some k → bi_okk bt_M bt_P 92 ((yX12_writes, cX12_writes, 6, (some .int), RX12, 6, 129, [])) k := fun b k h => bi_allk (show bt_X12_writes[b]? = some k from h) (fun b hb => match b, hb with
  | 0, _ => bi_okkB_ok bo_X12_writes_0
  | 1, _ => bi_okkB_ok bo_X12_writes_1
  | 2, _ => bi_okkB_ok bo_X12_writes_2
  | 3, _ => bi_okkB_ok bo_X12_writes_3
  | 4, _ => bi_okkB_ok bo_X12_writes_4
  | 5, _ => bi_okkB_ok bo_X12_writes_5
  | 6, _ => bi_okkB_ok bo_X12_writes_6
  | 7, _ => bi_okkB_ok bo_X12_writes_7
  | 8, _ => bi_okkB_ok bo_X12_writes_8
  | 9, _ => bi_okkB_ok bo_X12_writes_9
  | 10, _ => bi_okkB_ok bo_X12_writes_10
  | 11, _ => bi_okkB_ok bo_X12_writes_11
  | 12, _ => bi_okkB_ok bo_X12_writes_12
  | 13, _ => bi_okkB_ok bo_X12_writes_13
  | 14, _ => bi_okkB_ok bo_X12_writes_14
  | b + 15, hb => absurd hb (by show ¬ b + 15 < 15; omega))
theorem bo_X1_begin : bi_oksB bt_M bt_P 93 ((yX1_begin, cX1_begin, 1, none, RX1, 1, 20, [])) bt_X1_begin [([[], [], [1076], [], [], [1076]], [])] = true := by decide +kernel
theorem bm_X1_begin : ∀ b k, bt_P 93 b = some k → bi_okk bt_M bt_P 93 ((yX1_begin, cX1_begin, 1, none, RX1, 1, 20, [])) k := fun b k h => bi_oksB_ok _ _ bo_X1_begin k (List.mem_of_getElem? (show bt_X1_begin[b]? = some k from h))
theorem bo_X1_init : bi_oksB bt_M bt_P 94 ((yX1_init, cX1_init, 2, none, RX1, 1, 20, [])) bt_X1_init [([[], [1074, 1028, 1029], [], [], [1082], [1075]], [])] = true := by decide +kernel
theorem bm_X1_init : ∀ b k, bt_P 94 b = some k → bi_okk bt_M bt_P 94 ((yX1_init, cX1_init, 2, none, RX1, 1, 20, [])) k := fun b k h => bi_oksB_ok _ _ bo_X1_init k (List.mem_of_getElem? (show bt_X1_init[b]? = some k from h))
theorem bo_X1_mark : bi_oksB bt_M bt_P 95 ((yX1_mark, cX1_mark, 2, (some .int), RX1, 1, 20, [])) bt_X1_mark [([[]], []), ([[], [], [1075], []], []), ([[], [1075], [], [], [], [1076]], []), ([[]], []), ([[], [1075], [], [], [1076], [], []], [])] = true := by decide +kernel
theorem bm_X1_mark : ∀ b k, bt_P 95 b = some k → bi_okk bt_M bt_P 95 ((yX1_mark, cX1_mark, 2, (some .int), RX1, 1, 20, [])) k := fun b k h => bi_oksB_ok _ _ bo_X1_mark k (List.mem_of_getElem? (show bt_X1_mark[b]? = some k from h))
theorem bo_X2_init : bi_oksB bt_M bt_P 96 ((yX2_init, cX2_init, 5, none, RX2, 1, 20, [])) bt_X2_init [([[], [3100, 1028, 1029], [], [], [3101], [], [], [2044], [3103], [], [], [2057], [3105], [], [], [3107], [], [], [3111]], [])] = true := by decide +kernel
theorem bm_X2_init : ∀ b k, bt_P 96 b = some k → bi_okk bt_M bt_P 96 ((yX2_init, cX2_init, 5, none, RX2, 1, 20, [])) k := fun b k h => bi_oksB_ok _ _ bo_X2_init k (List.mem_of_getElem? (show bt_X2_init[b]? = some k from h))
theorem bo_X2_itemCount : bi_oksB bt_M bt_P 97 ((yX2_itemCount, cX2_itemCount, 1, (some .int), RX2, 1, 20, [])) bt_X2_itemCount [([[], [3120]], []), ([[]], []), ([[], [3120], [], [], []], []), ([], [])] = true := by decide +kernel
theorem bm_X2_itemCount : ∀ b k, bt_P 97 b = some k → bi_okk bt_M bt_P 97 ((yX2_itemCount, cX2_itemCount, 1, (some .int), RX2, 1, 20, [])) k := fun b k h => bi_oksB_ok _ _ bo_X2_itemCount k (List.mem_of_getElem? (show bt_X2_itemCount[b]? = some k from h))
theorem bo_X3_add : bi_oksB bt_M bt_P 98 ((yX3_add, cX3_add, 2, none, RX3, 1, 20, [])) bt_X3_add [([[], [2032], [], [2030], []], []), ([[], [2030], [], [2032], [], [], [], [], [2032], [], [], [2032]], []), ([], [])] = true := by decide +kernel
theorem bm_X3_add : ∀ b k, bt_P 98 b = some k → bi_okk bt_M bt_P 98 ((yX3_add, cX3_add, 2, none, RX3, 1, 20, [])) k := fun b k h => bi_oksB_ok _ _ bo_X3_add k (List.mem_of_getElem? (show bt_X3_add[b]? = some k from h))
theorem bo_X3_begin : bi_oksB bt_M bt_P 99 ((yX3_begin, cX3_begin, 4, none, RX3, 2, 41, [])) bt_X3_begin [([[], [], [2026], [], [], [2028], [], [], [2032], [], [], [2030], []], []), ([[], [], [], [], [2030], [], [], [1035, 1002, 3198, 1034], [1082], [2030]], []), ([], [])] = true := by decide +kernel
theorem bm_X3_begin : ∀ b k, bt_P 99 b = some k → bi_okk bt_M bt_P 99 ((yX3_begin, cX3_begin, 4, none, RX3, 2, 41, [])) k := fun b k h => bi_oksB_ok _ _ bo_X3_begin k (List.mem_of_getElem? (show bt_X3_begin[b]? = some k from h))
theorem bo_X3_init : bi_oksB bt_M bt_P 100 ((yX3_init, cX3_init, 1, none, RX3, 1, 20, [])) bt_X3_init [([[], [2025, 1028, 1029], [], [], [1082], [2030]], [])] = true := by decide +kernel
theorem bm_X3_init : ∀ b k, bt_P 100 b = some k → bi_okk bt_M bt_P 100 ((yX3_init, cX3_init, 1, none, RX3, 1, 20, [])) k := fun b k h => bi_oksB_ok _ _ bo_X3_init k (List.mem_of_getElem? (show bt_X3_init[b]? = some k from h))
theorem bo_X3_sink_0 : bi_okkB bt_M bt_P 101 ((yX3_sink, cX3_sink, 7, none, RX3, 1, 20, [])) (bt_X3_sink.getD 0 bi_kd) [[], [2030], [], [], [], [], [], [], [], [], [], [], []] [] = true := by decide +kernel
theorem bo_X3_sink_1 : bi_okkB bt_M bt_P 101 ((yX3_sink, cX3_sink, 7, none, RX3, 1, 20, [])) (bt_X3_sink.getD 1 bi_kd) [[], []] [] = true := by decide +kernel
theorem bo_X3_sink_2 : bi_okkB bt_M bt_P 101 ((yX3_sink, cX3_sink, 7, none, RX3, 1, 20, [])) (bt_X3_sink.getD 2 bi_kd) [[], [], [], []] [] = true := by decide +kernel
theorem bo_X3_sink_3 : bi_okkB bt_M bt_P 101 ((yX3_sink, cX3_sink, 7, none, RX3, 1, 20, [])) (bt_X3_sink.getD 3 bi_kd) [[], [], [2030], [], [], [], [], [], [], [], [2030], [], [], []] [] = true := by decide +kernel
theorem bo_X3_sink_4 : bi_okkB bt_M bt_P 101 ((yX3_sink, cX3_sink, 7, none, RX3, 1, 20, [])) (bt_X3_sink.getD 4 bi_kd) [[]] [] = true := by decide +kernel
theorem bo_X3_sink_5 : bi_okkB bt_M bt_P 101 ((yX3_sink, cX3_sink, 7, none, RX3, 1, 20, [])) (bt_X3_sink.getD 5 bi_kd) [[], [], [2030], [], [], [], [], [], []] [] = true := by decide +kernel
theorem bo_X3_sink_6 : bi_okkB bt_M bt_P 101 ((yX3_sink, cX3_sink, 7, none, RX3, 1, 20, [])) (bt_X3_sink.getD 6 bi_kd) [] [] = true := by decide +kernel
theorem bo_X3_sink_7 : bi_okkB bt_M bt_P 101 ((yX3_sink, cX3_sink, 7, none, RX3, 1, 20, [])) (bt_X3_sink.getD 7 bi_kd) [[], [2030], [], [], [2030], [], [], [], [], [], [], [], [], [], [], []] [] = true := by decide +kernel
theorem bo_X3_sink_8 : bi_okkB bt_M bt_P 101 ((yX3_sink, cX3_sink, 7, none, RX3, 1, 20, [])) (bt_X3_sink.getD 8 bi_kd) [[], [2030], [], [], []] [] = true := by decide +kernel
theorem bm_X3_sink : ∀ b k, bt_P 101 b = some k → bi_okk bt_M bt_P 101 ((yX3_sink, cX3_sink, 7, none, RX3, 1, 20, [])) k := fun b k h => bi_allk (show bt_X3_sink[b]? = some k from h) (fun b hb => match b, hb with
  | 0, _ => bi_okkB_ok bo_X3_sink_0
  | 1, _ => bi_okkB_ok bo_X3_sink_1
  | 2, _ => bi_okkB_ok bo_X3_sink_2
  | 3, _ => bi_okkB_ok bo_X3_sink_3
  | 4, _ => bi_okkB_ok bo_X3_sink_4
  | 5, _ => bi_okkB_ok bo_X3_sink_5
  | 6, _ => bi_okkB_ok bo_X3_sink_6
  | 7, _ => bi_okkB_ok bo_X3_sink_7
  | 8, _ => bi_okkB_ok bo_X3_sink_8
  | b + 9, hb => absurd hb (by show ¬ b + 9 < 9; omega))
theorem bo_X3_sort : bi_oksB bt_M bt_P 102 ((yX3_sort, cX3_sort, 4, none, RX3, 2, 46, [])) bt_X3_sort [([[], [2032], [], [], [], [], []], []), ([[]], []), ([[], [], [], [], [2032], [3210, 1012, 3207, 3209, 13], []], []), ([[], [2032], [], [], []], []), ([[]], []), ([[], [2030], [], [], [], [], [2030], [], [], [2030], [], [], [], [], [2030], [], [], [], [], [], [], [], [3210, 1012, 3207, 3209, 13], []], []), ([], [])] = true := by decide +kernel
theorem bm_X3_sort : ∀ b k, bt_P 102 b = some k → bi_okk bt_M bt_P 102 ((yX3_sort, cX3_sort, 4, none, RX3, 2, 46, [])) k := fun b k h => bi_oksB_ok _ _ bo_X3_sort k (List.mem_of_getElem? (show bt_X3_sort[b]? = some k from h))
theorem bo_X4_act : bi_oksB bt_M bt_P 103 ((yX4_act, cX4_act, 1, (some .boolean), RX4, 2, 40, [])) bt_X4_act [([[], [1049]], []), ([[], [2187, 1003, 2184, 2185, 2186], []], []), ([[], [1049]], []), ([[], [], [1049], [], [], [1049]], []), ([[], [], [1047], [], [], [1047], []], [])] = true := by decide +kernel
theorem bm_X4_act : ∀ b k, bt_P 103 b = some k → bi_okk bt_M bt_P 103 ((yX4_act, cX4_act, 1, (some .boolean), RX4, 2, 40, [])) k := fun b k h => bi_oksB_ok _ _ bo_X4_act k (List.mem_of_getElem? (show bt_X4_act[b]? = some k from h))
end
section
/-! the tables are as the code has them -/
theorem bo_X4_act_ : bi_oksB bt_M bt_P 104 ((yX4_act_, cX4_act_, 3, (some .boolean), RX4, 3, 60, [])) bt_X4_act_ [([[], []], []), ([[], []], []), ([[], [2183, 1003, 2180, 2181, 2182]], []), ([[]], []), ([[]], []), ([[]], [])] = true := by decide +kernel
theorem bm_X4_act_ : ∀ b k, bt_P 104 b = some k → bi_okk bt_M bt_P 104 ((yX4_act_, cX4_act_, 3, (some .boolean), RX4, 3, 60, [])) k := fun b k h => bi_oksB_ok _ _ bo_X4_act_ k (List.mem_of_getElem? (show bt_X4_act_[b]? = some k from h))
theorem bo_X4_fail : bi_oksB bt_M bt_P 105 ((yX4_fail, cX4_fail, 1, none, RX4, 1, 20, [])) bt_X4_fail [([[], [], [1045], [], [], [1049]], [])] = true := by decide +kernel
theorem bm_X4_fail : ∀ b k, bt_P 105 b = some k → bi_okk bt_M bt_P 105 ((yX4_fail, cX4_fail, 1, none, RX4, 1, 20, [])) k := fun b k h => bi_oksB_ok _ _ bo_X4_fail k (List.mem_of_getElem? (show bt_X4_fail[b]? = some k from h))
theorem bo_X4_init : bi_oksB bt_M bt_P 106 ((yX4_init, cX4_init, 2, none, RX4, 1, 20, [])) bt_X4_init [([[], [1042, 1028, 1029], [], [], [1043], [], [], [1045], [], [], [1049]], [])] = true := by decide +kernel
theorem bm_X4_init : ∀ b k, bt_P 106 b = some k → bi_okk bt_M bt_P 106 ((yX4_init, cX4_init, 2, none, RX4, 1, 20, [])) k := fun b k h => bi_oksB_ok _ _ bo_X4_init k (List.mem_of_getElem? (show bt_X4_init[b]? = some k from h))
theorem bo_X5_add : bi_oksB bt_M bt_P 107 ((yX5_add, cX5_add, 2, none, RX5, 1, 20, [])) bt_X5_add [([[], [], [1239], [], [], [1239], [], [], [2002], [], [], [2002]], [])] = true := by decide +kernel
theorem bm_X5_add : ∀ b k, bt_P 107 b = some k → bi_okk bt_M bt_P 107 ((yX5_add, cX5_add, 2, none, RX5, 1, 20, [])) k := fun b k h => bi_oksB_ok _ _ bo_X5_add k (List.mem_of_getElem? (show bt_X5_add[b]? = some k from h))
theorem bo_X5_begin : bi_oksB bt_M bt_P 108 ((yX5_begin, cX5_begin, 2, none, RX5, 2, 40, [])) bt_X5_begin [([[], [3084, 1011, 4048, 3082, 3083], [], [], [3108], [1232], [], [], [3112], [1234], [], [], [3115], [1238], [], [], [3118], [1236]], [])] = true := by decide +kernel
theorem bm_X5_begin : ∀ b k, bt_P 108 b = some k → bi_okk bt_M bt_P 108 ((yX5_begin, cX5_begin, 2, none, RX5, 2, 40, [])) k := fun b k h => bi_oksB_ok _ _ bo_X5_begin k (List.mem_of_getElem? (show bt_X5_begin[b]? = some k from h))
theorem bo_X5_clear : bi_oksB bt_M bt_P 109 ((yX5_clear, cX5_clear, 1, none, RX5, 1, 20, [])) bt_X5_clear [([[], [], [1232], [], [], [1234], [], [], [1236], [], [], [1238], [], [], [1239], [], [], [2002]], [])] = true := by decide +kernel
theorem bm_X5_clear : ∀ b k, bt_P 109 b = some k → bi_okk bt_M bt_P 109 ((yX5_clear, cX5_clear, 1, none, RX5, 1, 20, [])) k := fun b k h => bi_oksB_ok _ _ bo_X5_clear k (List.mem_of_getElem? (show bt_X5_clear[b]? = some k from h))
theorem bo_X5_hasAll : bi_oksB bt_M bt_P 110 ((yX5_hasAll, cX5_hasAll, 1, (some .boolean), RX5, 1, 20, [])) bt_X5_hasAll [([[], [2002], [], [1238]], []), ([[]], []), ([[]], []), ([], [])] = true := by decide +kernel
theorem bm_X5_hasAll : ∀ b k, bt_P 110 b = some k → bi_okk bt_M bt_P 110 ((yX5_hasAll, cX5_hasAll, 1, (some .boolean), RX5, 1, 20, [])) k := fun b k h => bi_oksB_ok _ _ bo_X5_hasAll k (List.mem_of_getElem? (show bt_X5_hasAll[b]? = some k from h))
theorem bo_X5_init : bi_oksB bt_M bt_P 111 ((yX5_init, cX5_init, 1, none, RX5, 1, 20, [])) bt_X5_init [([[], [1231, 1028, 1029]], [])] = true := by decide +kernel
theorem bm_X5_init : ∀ b k, bt_P 111 b = some k → bi_okk bt_M bt_P 111 ((yX5_init, cX5_init, 1, none, RX5, 1, 20, [])) k := fun b k h => bi_oksB_ok _ _ bo_X5_init k (List.mem_of_getElem? (show bt_X5_init[b]? = some k from h))
theorem bo_X5_isOf : bi_oksB bt_M bt_P 112 ((yX5_isOf, cX5_isOf, 3, (some .boolean), RX5, 1, 20, [])) bt_X5_isOf [([[], [1234]], []), ([[], [1232], []], []), ([[], [1234], []], []), ([[]], []), ([[]], []), ([], [])] = true := by decide +kernel
theorem bm_X5_isOf : ∀ b k, bt_P 112 b = some k → bi_okk bt_M bt_P 112 ((yX5_isOf, cX5_isOf, 3, (some .boolean), RX5, 1, 20, [])) k := fun b k h => bi_oksB_ok _ _ bo_X5_isOf k (List.mem_of_getElem? (show bt_X5_isOf[b]? = some k from h))
theorem bo_X6_beginEpoch : bi_oksB bt_M bt_P 113 ((yX6_beginEpoch, cX6_beginEpoch, 3, none, RX6, 4, 93, [])) bt_X6_beginEpoch [([[], [], [2055], [], [], [2058], [], [], [2061], [], [2049], [3084, 1011, 3081, 3082, 3083], [], [2047], [], [], [2058], [], [], [2061], [], [3033, 1010, 3085, 3031, 3032], [], [], [3037, 1009, 3086, 3035, 3036]], [])] = true := by decide +kernel
theorem bm_X6_beginEpoch : ∀ b k, bt_P 113 b = some k → bi_okk bt_M bt_P 113 ((yX6_beginEpoch, cX6_beginEpoch, 3, none, RX6, 4, 93, [])) k := fun b k h => bi_oksB_ok _ _ bo_X6_beginEpoch k (List.mem_of_getElem? (show bt_X6_beginEpoch[b]? = some k from h))
theorem bo_X6_blocks : bi_oksB bt_M bt_P 114 ((yX6_blocks, cX6_blocks, 1, (some .int), RX6, 1, 20, [])) bt_X6_blocks [([[], [2047], [1197], [], [2049], [2001], []], [])] = true := by decide +kernel
theorem bm_X6_blocks : ∀ b k, bt_P 114 b = some k → bi_okk bt_M bt_P 114 ((yX6_blocks, cX6_blocks, 1, (some .int), RX6, 1, 20, [])) k := fun b k h => bi_oksB_ok _ _ bo_X6_blocks k (List.mem_of_getElem? (show bt_X6_blocks[b]? = some k from h))
theorem bo_X6_forgetOther : bi_oksB bt_M bt_P 115 ((yX6_forgetOther, cX6_forgetOther, 1, none, RX6, 2, 42, [])) bt_X6_forgetOther [([[], [], [2062], [], [], [2064], [], [], [2072], [], [], [], [3070, 1009, 4034, 3068, 3069]], [])] = true := by decide +kernel
theorem bm_X6_forgetOther : ∀ b k, bt_P 115 b = some k → bi_okk bt_M bt_P 115 ((yX6_forgetOther, cX6_forgetOther, 1, none, RX6, 2, 42, [])) k := fun b k h => bi_oksB_ok _ _ bo_X6_forgetOther k (List.mem_of_getElem? (show bt_X6_forgetOther[b]? = some k from h))
theorem bo_X6_hold : bi_oksB bt_M bt_P 116 ((yX6_hold, cX6_hold, 3, none, RX6, 1, 20, [])) bt_X6_hold [([[], [], [2066], [], [], [2068]], [])] = true := by decide +kernel
theorem bm_X6_hold : ∀ b k, bt_P 116 b = some k → bi_okk bt_M bt_P 116 ((yX6_hold, cX6_hold, 3, none, RX6, 1, 20, [])) k := fun b k h => bi_oksB_ok _ _ bo_X6_hold k (List.mem_of_getElem? (show bt_X6_hold[b]? = some k from h))
theorem bo_X6_init : bi_oksB bt_M bt_P 117 ((yX6_init, cX6_init, 5, none, RX6, 2, 40, [])) bt_X6_init [([[], [1225, 1028, 1029], [], [], [2043], [], [], [2045], [], [], [2055], [], [], [2047], [], [1226, 1227, 1011], [], [1230, 1011, 1228, 1229], [2049], [], [2020, 2021, 1012], [], [2024, 1012, 2022, 2023], [2051], [], [2020, 2021, 1012], [], [2024, 1012, 2022, 2023], [2053], [], [], [2058]], [])] = true := by decide +kernel
theorem bm_X6_init : ∀ b k, bt_P 117 b = some k → bi_okk bt_M bt_P 117 ((yX6_init, cX6_init, 5, none, RX6, 2, 40, [])) k := fun b k h => bi_oksB_ok _ _ bo_X6_init k (List.mem_of_getElem? (show bt_X6_init[b]? = some k from h))
theorem bo_X6_isPinned : bi_oksB bt_M bt_P 118 ((yX6_isPinned, cX6_isPinned, 2, (some .boolean), RX6, 2, 40, [])) bt_X6_isPinned [([[], [], [2047], [3045, 1010, 3042, 3043, 3044]], []), ([[], [], [2062]], []), ([[], [], [2064]], []), ([[], [], [2072]], []), ([[], [], [2066]], []), ([[], [], [2068]], []), ([[]], []), ([[]], []), ([], [])] = true := by decide +kernel
theorem bm_X6_isPinned : ∀ b k, bt_P 118 b = some k → bi_okk bt_M bt_P 118 ((yX6_isPinned, cX6_isPinned, 2, (some .boolean), RX6, 2, 40, [])) k := fun b k h => bi_oksB_ok _ _ bo_X6_isPinned k (List.mem_of_getElem? (show bt_X6_isPinned[b]? = some k from h))
theorem bo_X6_isSource : bi_oksB bt_M bt_P 119 ((yX6_isSource, cX6_isSource, 1, (some .boolean), RX6, 1, 20, [])) bt_X6_isSource [([[], [2055], []], []), ([[], [2055], []], []), ([[]], []), ([[]], []), ([], [])] = true := by decide +kernel
theorem bm_X6_isSource : ∀ b k, bt_P 119 b = some k → bi_okk bt_M bt_P 119 ((yX6_isSource, cX6_isSource, 1, (some .boolean), RX6, 1, 20, [])) k := fun b k h => bi_oksB_ok _ _ bo_X6_isSource k (List.mem_of_getElem? (show bt_X6_isSource[b]? = some k from h))
theorem bo_X6_learnEpoch : bi_oksB bt_M bt_P 120 ((yX6_learnEpoch, cX6_learnEpoch, 2, none, RX6, 3, 62, [])) bt_X6_learnEpoch [([[], [2055], []], []), ([[], [2071], []], []), ([[], [], [2055], [], [4033, 1009, 4030, 4031, 4032]], []), ([[], [3160, 1009, 4035, 3158, 3159]], []), ([[], [], [2055]], []), ([[], [], [2071], [], [], [2058], [], [], [2061], [], [], [2074], [], [2049], [3084, 1011, 3081, 3082, 3083]], [])] = true := by decide +kernel
theorem bm_X6_learnEpoch : ∀ b k, bt_P 120 b = some k → bi_okk bt_M bt_P 120 ((yX6_learnEpoch, cX6_learnEpoch, 2, none, RX6, 3, 62, [])) k := fun b k h => bi_oksB_ok _ _ bo_X6_learnEpoch k (List.mem_of_getElem? (show bt_X6_learnEpoch[b]? = some k from h))
theorem bo_X6_sends : bi_oksB bt_M bt_P 121 ((yX6_sends, cX6_sends, 3, (some .boolean), RX6, 2, 40, [])) bt_X6_sends [([[], [3160, 1009, 4035, 3158, 3159]], []), ([[], [2074], []], []), ([[], [2072], [], [3109]], []), ([[], [2064], [], [3113]], []), ([[]], []), ([[]], []), ([], [])] = true := by decide +kernel
theorem bm_X6_sends : ∀ b k, bt_P 121 b = some k → bi_okk bt_M bt_P 121 ((yX6_sends, cX6_sends, 3, (some .boolean), RX6, 2, 40, [])) k := fun b k h => bi_oksB_ok _ _ bo_X6_sends k (List.mem_of_getElem? (show bt_X6_sends[b]? = some k from h))
theorem bo_X6_thin : bi_oksB bt_M bt_P 122 ((yX6_thin, cX6_thin, 4, none, RX6, 3, 70, [])) bt_X6_thin [([[], [], [], [2047], [1195], []], []), ([[]], []), ([[], [2047], [1195], []], []), ([[], [], [2047], [1190], [], [], [3041, 1009, 3038, 3040, 8]], []), ([[]], []), ([[], [2047], [], [3049, 1010, 3046, 3047, 3048]], []), ([[]], []), ([], [])] = true := by decide +kernel
theorem bm_X6_thin : ∀ b k, bt_P 122 b = some k → bi_okk bt_M bt_P 122 ((yX6_thin, cX6_thin, 4, none, RX6, 3, 70, [])) k := fun b k h => bi_oksB_ok _ _ bo_X6_thin k (List.mem_of_getElem? (show bt_X6_thin[b]? = some k from h))
theorem bo_X6_waitedEnough : bi_oksB bt_M bt_P 123 ((yX6_waitedEnough, cX6_waitedEnough, 1, (some .boolean), RX6, 1, 20, [])) bt_X6_waitedEnough [([[], [], [2080], [], [], [2080], [], [2080], []], []), ([[]], []), ([[]], []), ([], [])] = true := by decide +kernel
theorem bm_X6_waitedEnough : ∀ b k, bt_P 123 b = some k → bi_okk bt_M bt_P 123 ((yX6_waitedEnough, cX6_waitedEnough, 1, (some .boolean), RX6, 1, 20, [])) k := fun b k h => bi_oksB_ok _ _ bo_X6_waitedEnough k (List.mem_of_getElem? (show bt_X6_waitedEnough[b]? = some k from h))
theorem bo_X6_wake : bi_oksB bt_M bt_P 124 ((yX6_wake, cX6_wake, 1, (some .int), RX6, 3, 67, [])) bt_X6_wake [([[], [], [2062], [2072], [], [], [2074], [], [], [2076], [], [], [2078], [], [], [2080], [], [], [2083], [], [2047], [4000, 1010, 3237, 3238, 3239]], [])] = true := by decide +kernel
theorem bm_X6_wake : ∀ b k, bt_P 124 b = some k → bi_okk bt_M bt_P 124 ((yX6_wake, cX6_wake, 1, (some .int), RX6, 3, 67, [])) k := fun b k h => bi_oksB_ok _ _ bo_X6_wake k (List.mem_of_getElem? (show bt_X6_wake[b]? = some k from h))
theorem bo_X7_adopt : bi_oksB bt_M bt_P 125 ((yX7_adopt, cX7_adopt, 4, none, RX7, 2, 45, [])) bt_X7_adopt [([[]], []), ([[], [], [1194], [], [], [1198]], []), ([[], [], [2199, 1010, 2196, 2198, 4], [4005, 1010, 4002, 4004, 16], [], [], [1198], [], [1178], [], [], [1178], [1094], [], [1183], [], [3193, 1004, 4001, 3191, 3192], [], [1198], [], [], [4065, 1010, 4062, 4064, 21], [], [], [1185], [], [], [1187], [], [], [3033, 1010, 4066, 3031, 3032]], [])] = true := by decide +kernel
theorem bm_X7_adopt : ∀ b k, bt_P 125 b = some k → bi_okk bt_M bt_P 125 ((yX7_adopt, cX7_adopt, 4, none, RX7, 2, 45, [])) k := fun b k h => bi_oksB_ok _ _ bo_X7_adopt k (List.mem_of_getElem? (show bt_X7_adopt[b]? = some k from h))
theorem bo_X7_advance : bi_oksB bt_M bt_P 126 ((yX7_advance, cX7_advance, 6, none, RX7, 1, 20, [])) bt_X7_advance [([[], [1178], [1094], [], [1183], [], [], [], [], [], [1178], [1094], [], [], [], [], []], []), ([[]], []), ([[], [1178], [1086], [], [], [], [], [1178], [1094], [], [1182], [], [], [], []], []), ([[], [1182], [], [], []], []), ([[], [1178], [1090], [], [], [], []], []), ([[], [], [1183]], [])] = true := by decide +kernel
theorem bm_X7_advance : ∀ b k, bt_P 126 b = some k → bi_okk bt_M bt_P 126 ((yX7_advance, cX7_advance, 6, none, RX7, 1, 20, [])) k := fun b k h => bi_oksB_ok _ _ bo_X7_advance k (List.mem_of_getElem? (show bt_X7_advance[b]? = some k from h))
theorem bo_X7_drop_0 : bi_okkB bt_M bt_P 127 ((yX7_drop, cX7_drop, 4, none, RX7, 2, 47, [])) (bt_X7_drop.getD 0 bi_kd) [[], [], [], [], [1194]] [] = true := by decide +kernel
theorem bo_X7_drop_1 : bi_okkB bt_M bt_P 127 ((yX7_drop, cX7_drop, 4, none, RX7, 2, 47, [])) (bt_X7_drop.getD 1 bi_kd) [[], [1192], [], [], [], []] [] = true := by decide +kernel
theorem bo_X7_drop_2 : bi_okkB bt_M bt_P 127 ((yX7_drop, cX7_drop, 4, none, RX7, 2, 47, [])) (bt_X7_drop.getD 2 bi_kd) [[], [1187]] [] = true := by decide +kernel
theorem bo_X7_drop_3 : bi_okkB bt_M bt_P 127 ((yX7_drop, cX7_drop, 4, none, RX7, 2, 47, [])) (bt_X7_drop.getD 3 bi_kd) [[], [], [], [1198], [], [1178], [], [], [], [3053, 1010, 3050, 3051, 3052], []] [] = true := by decide +kernel
theorem bo_X7_drop_4 : bi_okkB bt_M bt_P 127 ((yX7_drop, cX7_drop, 4, none, RX7, 2, 47, [])) (bt_X7_drop.getD 4 bi_kd) [[]] [] = true := by decide +kernel
theorem bo_X7_drop_5 : bi_okkB bt_M bt_P 127 ((yX7_drop, cX7_drop, 4, none, RX7, 2, 47, [])) (bt_X7_drop.getD 5 bi_kd) [[], [], [], [], [3053, 1010, 3050, 3051, 3052]] [] = true := by decide +kernel
theorem bo_X7_drop_6 : bi_okkB bt_M bt_P 127 ((yX7_drop, cX7_drop, 4, none, RX7, 2, 47, [])) (bt_X7_drop.getD 6 bi_kd) [[2203, 1004, 2200, 2201, 2202], [], [1198], [], [], [], []] [] = true := by decide +kernel
theorem bo_X7_drop_7 : bi_okkB bt_M bt_P 127 ((yX7_drop, cX7_drop, 4, none, RX7, 2, 47, [])) (bt_X7_drop.getD 7 bi_kd) [[], [], [1194]] [] = true := by decide +kernel
theorem bo_X7_drop_8 : bi_okkB bt_M bt_P 127 ((yX7_drop, cX7_drop, 4, none, RX7, 2, 47, [])) (bt_X7_drop.getD 8 bi_kd) [[], [1189], [], [], [], [], [1189], [], [], [], [], [1192], [], [], [], [], [1192], [], [], [], []] [] = true := by decide +kernel
theorem bo_X7_drop_9 : bi_okkB bt_M bt_P 127 ((yX7_drop, cX7_drop, 4, none, RX7, 2, 47, [])) (bt_X7_drop.getD 9 bi_kd) [[], [], [1194], [], [], [1194]] [] = true := by decide +kernel
theorem bm_X7_drop : ∀ b k, bt_P 127 b = some k → bi_okk bt_M bt_P 127 ((yX7_drop, cX7_drop, 4, none, RX7, 2, 47, [])) k := fun b k h => bi_allk (show bt_X7_drop[b]? = some k from h) (fun b hb => match b, hb with
  | 0, _ => bi_okkB_ok bo_X7_drop_0
  | 1, _ => bi_okkB_ok bo_X7_drop_1
  | 2, _ => bi_okkB_ok bo_X7_drop_2
  | 3, _ => bi_okkB_ok bo_X7_drop_3
  | 4, _ => bi_okkB_ok bo_X7_drop_4
  | 5, _ => bi_okkB_ok bo_X7_drop_5
  | 6, _ => bi_okkB_ok bo_X7_drop_6
  | 7, _ => bi_okkB_ok bo_X7_drop_7
  | 8, _ => bi_okkB_ok bo_X7_drop_8
  | 9, _ => bi_okkB_ok bo_X7_drop_9
  | b + 10, hb => absurd hb (by show ¬ b + 10 < 10; omega))
theorem bo_X7_find : bi_oksB bt_M bt_P 128 ((yX7_find, cX7_find, 3, (some .int), RX7, 1, 20, [])) bt_X7_find [([[], []], []), ([[], [], [1194]], []), ([[], [1189], [], [], []], []), ([[]], []), ([[]], []), ([[]], [])] = true := by decide +kernel
theorem bm_X7_find : ∀ b k, bt_P 128 b = some k → bi_okk bt_M bt_P 128 ((yX7_find, cX7_find, 3, (some .int), RX7, 1, 20, [])) k := fun b k h => bi_oksB_ok _ _ bo_X7_find k (List.mem_of_getElem? (show bt_X7_find[b]? = some k from h))
theorem bo_X7_hasPlace : bi_oksB bt_M bt_P 129 ((yX7_hasPlace, cX7_hasPlace, 3, (some .boolean), RX7, 1, 20, [])) bt_X7_hasPlace [([[]], []), ([[], [], [1179]], []), ([[]], []), ([[], [], [1180]], []), ([[]], []), ([[]], []), ([], [])] = true := by decide +kernel
theorem bm_X7_hasPlace : ∀ b k, bt_P 129 b = some k → bi_okk bt_M bt_P 129 ((yX7_hasPlace, cX7_hasPlace, 3, (some .boolean), RX7, 1, 20, [])) k := fun b k h => bi_oksB_ok _ _ bo_X7_hasPlace k (List.mem_of_getElem? (show bt_X7_hasPlace[b]? = some k from h))
theorem bo_X7_hasSnapshot : bi_oksB bt_M bt_P 130 ((yX7_hasSnapshot, cX7_hasSnapshot, 2, (some .boolean), RX7, 1, 20, [])) bt_X7_hasSnapshot [([[]], []), ([[], [], [1194]], []), ([[]], []), ([[]], []), ([], [])] = true := by decide +kernel
theorem bm_X7_hasSnapshot : ∀ b k, bt_P 130 b = some k → bi_okk bt_M bt_P 130 ((yX7_hasSnapshot, cX7_hasSnapshot, 2, (some .boolean), RX7, 1, 20, [])) k := fun b k h => bi_oksB_ok _ _ bo_X7_hasSnapshot k (List.mem_of_getElem? (show bt_X7_hasSnapshot[b]? = some k from h))
theorem bo_X7_init : bi_oksB bt_M bt_P 131 ((yX7_init, cX7_init, 4, none, RX7, 1, 20, [])) bt_X7_init [([[], [1177, 1028, 1029], [], [], [1178], [], [], [1179], [], [], [1180], [], [], [], [], [1082], [1182], [], [], [1082], [1189], [], [], [1082], [1192]], [])] = true := by decide +kernel
theorem bm_X7_init : ∀ b k, bt_P 131 b = some k → bi_okk bt_M bt_P 131 ((yX7_init, cX7_init, 4, none, RX7, 1, 20, [])) k := fun b k h => bi_oksB_ok _ _ bo_X7_init k (List.mem_of_getElem? (show bt_X7_init[b]? = some k from h))
theorem bo_X7_journal : bi_oksB bt_M bt_P 132 ((yX7_journal, cX7_journal, 1, (some .int), RX7, 1, 20, [])) bt_X7_journal [([[], [1178], [1094], [], [1185], [], [], [1178], [1094], [], [1187], [], []], [])] = true := by decide +kernel
theorem bm_X7_journal : ∀ b k, bt_P 132 b = some k → bi_okk bt_M bt_P 132 ((yX7_journal, cX7_journal, 1, (some .int), RX7, 1, 20, [])) k := fun b k h => bi_oksB_ok _ _ bo_X7_journal k (List.mem_of_getElem? (show bt_X7_journal[b]? = some k from h))
theorem bo_X7_keepNow : bi_oksB bt_M bt_P 133 ((yX7_keepNow, cX7_keepNow, 1, none, RX7, 3, 60, [])) bt_X7_keepNow [([[], [], [1198], [], [1178], [], [1183], [], [1178], [1094], [], [1187], [], [], [2195, 1010, 2192, 2193, 2194], [2203, 1004, 2200, 2201, 2202], [], [1198], [], [], [1183], [1185], [], [], [1183], [1187]], [])] = true := by decide +kernel
theorem bm_X7_keepNow : ∀ b k, bt_P 133 b = some k → bi_okk bt_M bt_P 133 ((yX7_keepNow, cX7_keepNow, 1, none, RX7, 3, 60, [])) k := fun b k h => bi_oksB_ok _ _ bo_X7_keepNow k (List.mem_of_getElem? (show bt_X7_keepNow[b]? = some k from h))
theorem bo_X7_latest : bi_oksB bt_M bt_P 134 ((yX7_latest, cX7_latest, 1, (some .int), RX7, 1, 20, [])) bt_X7_latest [([[], [1194]], []), ([[]], []), ([[], [1189], [], [1194], [], [], []], []), ([], [])] = true := by decide +kernel
theorem bm_X7_latest : ∀ b k, bt_P 134 b = some k → bi_okk bt_M bt_P 134 ((yX7_latest, cX7_latest, 1, (some .int), RX7, 1, 20, [])) k := fun b k h => bi_oksB_ok _ _ bo_X7_latest k (List.mem_of_getElem? (show bt_X7_latest[b]? = some k from h))
theorem bo_X7_latestLength : bi_oksB bt_M bt_P 135 ((yX7_latestLength, cX7_latestLength, 1, (some .int), RX7, 2, 40, [])) bt_X7_latestLength [([[], [1178], [1094], [], [2199, 1010, 2196, 2198, 4], []], [])] = true := by decide +kernel
theorem bm_X7_latestLength : ∀ b k, bt_P 135 b = some k → bi_okk bt_M bt_P 135 ((yX7_latestLength, cX7_latestLength, 1, (some .int), RX7, 2, 40, [])) k := fun b k h => bi_oksB_ok _ _ bo_X7_latestLength k (List.mem_of_getElem? (show bt_X7_latestLength[b]? = some k from h))
theorem bo_X7_latestLine : bi_oksB bt_M bt_P 136 ((yX7_latestLine, cX7_latestLine, 1, (some .int), RX7, 1, 20, [])) bt_X7_latestLine [([[], [1194]], []), ([[]], []), ([[], [1192], [], [1194], [], [], []], []), ([], [])] = true := by decide +kernel
theorem bm_X7_latestLine : ∀ b k, bt_P 136 b = some k → bi_okk bt_M bt_P 136 ((yX7_latestLine, cX7_latestLine, 1, (some .int), RX7, 1, 20, [])) k := fun b k h => bi_oksB_ok _ _ bo_X7_latestLine k (List.mem_of_getElem? (show bt_X7_latestLine[b]? = some k from h))
theorem bo_X7_lengthOf : bi_oksB bt_M bt_P 137 ((yX7_lengthOf, cX7_lengthOf, 2, (some .int), RX7, 1, 20, [])) bt_X7_lengthOf [([[], [1178], [1094], [], [1192], [], [], []], [])] = true := by decide +kernel
theorem bm_X7_lengthOf : ∀ b k, bt_P 137 b = some k → bi_okk bt_M bt_P 137 ((yX7_lengthOf, cX7_lengthOf, 2, (some .int), RX7, 1, 20, [])) k := fun b k h => bi_oksB_ok _ _ bo_X7_lengthOf k (List.mem_of_getElem? (show bt_X7_lengthOf[b]? = some k from h))
end
section
/-! the tables are as the code has them -/
theorem bo_X7_lengthOfId : bi_oksB bt_M bt_P 138 ((yX7_lengthOfId, cX7_lengthOfId, 2, (some .int), RX7, 3, 64, [])) bt_X7_lengthOfId [([[], [1178], [1094], [], [], [3176, 1010, 3185, 3174, 3175], []], [])] = true := by decide +kernel
theorem bm_X7_lengthOfId : ∀ b k, bt_P 138 b = some k → bi_okk bt_M bt_P 138 ((yX7_lengthOfId, cX7_lengthOfId, 2, (some .int), RX7, 3, 64, [])) k := fun b k h => bi_oksB_ok _ _ bo_X7_lengthOfId k (List.mem_of_getElem? (show bt_X7_lengthOfId[b]? = some k from h))
theorem bo_X7_lineOf : bi_oksB bt_M bt_P 139 ((yX7_lineOf, cX7_lineOf, 3, (some .int), RX7, 2, 42, [])) bt_X7_lineOf [([[], [], [3180, 1010, 3177, 3178, 3179], [], []], []), ([[]], []), ([[], [1192], [], []], []), ([], [])] = true := by decide +kernel
theorem bm_X7_lineOf : ∀ b k, bt_P 139 b = some k → bi_okk bt_M bt_P 139 ((yX7_lineOf, cX7_lineOf, 3, (some .int), RX7, 2, 42, [])) k := fun b k h => bi_oksB_ok _ _ bo_X7_lineOf k (List.mem_of_getElem? (show bt_X7_lineOf[b]? = some k from h))
theorem bo_X7_losePending : bi_oksB bt_M bt_P 140 ((yX7_losePending, cX7_losePending, 3, (some .int), RX7, 2, 45, [])) bt_X7_losePending [([[], [2151, 1010, 2209, 2149, 2150], [], [], [1178], [1094], [], [1187], [], [], [], [], [1198], [], [1178], [], [1183], [], [3193, 1004, 4001, 3191, 3192], [], [1178], [], [1185], [], [3193, 1004, 4001, 3191, 3192], [], [], [1198], [], [], [1185], [4005, 1010, 4002, 4004, 16], []], [])] = true := by decide +kernel
theorem bm_X7_losePending : ∀ b k, bt_P 140 b = some k → bi_okk bt_M bt_P 140 ((yX7_losePending, cX7_losePending, 3, (some .int), RX7, 2, 45, [])) k := fun b k h => bi_oksB_ok _ _ bo_X7_losePending k (List.mem_of_getElem? (show bt_X7_losePending[b]? = some k from h))
theorem bo_X7_nowIsLatest : bi_oksB bt_M bt_P 141 ((yX7_nowIsLatest, cX7_nowIsLatest, 1, (some .boolean), RX7, 2, 40, [])) bt_X7_nowIsLatest [([[], [1183], [], [2199, 1010, 2196, 2198, 4]], []), ([[]], []), ([[]], []), ([], [])] = true := by decide +kernel
theorem bm_X7_nowIsLatest : ∀ b k, bt_P 141 b = some k → bi_okk bt_M bt_P 141 ((yX7_nowIsLatest, cX7_nowIsLatest, 1, (some .boolean), RX7, 2, 40, [])) k := fun b k h => bi_oksB_ok _ _ bo_X7_nowIsLatest k (List.mem_of_getElem? (show bt_X7_nowIsLatest[b]? = some k from h))
theorem bo_X7_numberAt : bi_oksB bt_M bt_P 142 ((yX7_numberAt, cX7_numberAt, 2, (some .int), RX7, 1, 20, [])) bt_X7_numberAt [([[], [1178], [1088], [], [1182], [], [], []], [])] = true := by decide +kernel
theorem bm_X7_numberAt : ∀ b k, bt_P 142 b = some k → bi_okk bt_M bt_P 142 ((yX7_numberAt, cX7_numberAt, 2, (some .int), RX7, 1, 20, [])) k := fun b k h => bi_oksB_ok _ _ bo_X7_numberAt k (List.mem_of_getElem? (show bt_X7_numberAt[b]? = some k from h))
theorem bo_X7_oldNumberAt : bi_oksB bt_M bt_P 143 ((yX7_oldNumberAt, cX7_oldNumberAt, 6, (some .int), RX7, 2, 41, [])) bt_X7_oldNumberAt [([[], [1182], [], [], [], [], [], [3053, 1010, 3050, 3051, 3052], [], [], []], []), ([[], [5038]], []), ([[], [1178], [1094], [], [], []], []), ([[], [1178], [1092], [], [], [], []], []), ([[], [1178], [1088], [], []], [])] = true := by decide +kernel
theorem bm_X7_oldNumberAt : ∀ b k, bt_P 143 b = some k → bi_okk bt_M bt_P 143 ((yX7_oldNumberAt, cX7_oldNumberAt, 6, (some .int), RX7, 2, 41, [])) k := fun b k h => bi_oksB_ok _ _ bo_X7_oldNumberAt k (List.mem_of_getElem? (show bt_X7_oldNumberAt[b]? = some k from h))
theorem bo_X7_pending : bi_oksB bt_M bt_P 144 ((yX7_pending, cX7_pending, 1, (some .int), RX7, 1, 20, [])) bt_X7_pending [([[], [1178], [1094], [], [1183], [], [], [1178], [1094], [], [1185], [], []], [])] = true := by decide +kernel
theorem bm_X7_pending : ∀ b k, bt_P 144 b = some k → bi_okk bt_M bt_P 144 ((yX7_pending, cX7_pending, 1, (some .int), RX7, 1, 20, [])) k := fun b k h => bi_oksB_ok _ _ bo_X7_pending k (List.mem_of_getElem? (show bt_X7_pending[b]? = some k from h))
theorem bo_X7_put : bi_oksB bt_M bt_P 145 ((yX7_put, cX7_put, 4, none, RX7, 5, 109, [])) bt_X7_put [([[], [1182], [], [], [], [], [1178], [1094], [], [], [], [1178], [1094], [], [1187], []], []), ([[], [], [1198], [], [], [1198]], []), ([[], [], [1178], [], [1183], [], [], [], [2225, 1004, 2222, 2223, 2224], [1183], [], [1182], [], [], [1183], []], [])] = true := by decide +kernel
theorem bm_X7_put : ∀ b k, bt_P 145 b = some k → bi_okk bt_M bt_P 145 ((yX7_put, cX7_put, 4, none, RX7, 5, 109, [])) k := fun b k h => bi_oksB_ok _ _ bo_X7_put k (List.mem_of_getElem? (show bt_X7_put[b]? = some k from h))
theorem bo_X7_returnTo : bi_oksB bt_M bt_P 146 ((yX7_returnTo, cX7_returnTo, 4, none, RX7, 2, 45, [])) bt_X7_returnTo [([[], [], [], [], [1194], [], [], [2199, 1010, 2196, 2198, 4], [4005, 1010, 4002, 4004, 16], [], [], [1183], [1185], [], [], [1183], [1187], [], [], [1198], [], [], [], []], []), ([[], [], [1194]], []), ([[], [], [1198], [], [1178], [], [1192], [], [], [], [3193, 1004, 4001, 3191, 3192], [], [1198], [], [], [3053, 1010, 3050, 3051, 3052], [], []], []), ([], [])] = true := by decide +kernel
theorem bm_X7_returnTo : ∀ b k, bt_P 146 b = some k → bi_okk bt_M bt_P 146 ((yX7_returnTo, cX7_returnTo, 4, none, RX7, 2, 45, [])) k := fun b k h => bi_oksB_ok _ _ bo_X7_returnTo k (List.mem_of_getElem? (show bt_X7_returnTo[b]? = some k from h))
theorem bo_X7_rewind : bi_oksB bt_M bt_P 147 ((yX7_rewind, cX7_rewind, 3, none, RX7, 1, 20, [])) bt_X7_rewind [([[], [1178], [1094], [], [1183], [], [], [1178], [1094], [], [], [], []], []), ([[]], []), ([[], [1182], [], [1178], [1086], [], [1183], [], [], [1178], [1092], [], [1183], [], [], [], [], [1178], [1090], [], [1183], [], [1183], []], []), ([], [])] = true := by decide +kernel
theorem bm_X7_rewind : ∀ b k, bt_P 147 b = some k → bi_okk bt_M bt_P 147 ((yX7_rewind, cX7_rewind, 3, none, RX7, 1, 20, [])) k := fun b k h => bi_oksB_ok _ _ bo_X7_rewind k (List.mem_of_getElem? (show bt_X7_rewind[b]? = some k from h))
theorem bo_X7_save : bi_oksB bt_M bt_P 148 ((yX7_save, cX7_save, 4, none, RX7, 2, 40, [])) bt_X7_save [([[], [1183], [], [], [2151, 1010, 2209, 2149, 2150], [], [], []], []), ([[]], []), ([[], [1178], [1090], [], [], [], []], []), ([[], [], [1185]], [])] = true := by decide +kernel
theorem bm_X7_save : ∀ b k, bt_P 148 b = some k → bi_okk bt_M bt_P 148 ((yX7_save, cX7_save, 4, none, RX7, 2, 40, [])) k := fun b k h => bi_oksB_ok _ _ bo_X7_save k (List.mem_of_getElem? (show bt_X7_save[b]? = some k from h))
theorem bo_X7_shelve : bi_oksB bt_M bt_P 149 ((yX7_shelve, cX7_shelve, 2, none, RX7, 1, 20, [])) bt_X7_shelve [([[], [1194], []], []), ([[], [1189], [], [1194], [], [], [], [1192], [], [1194], [], [1183], [], [], [], [1194], [], [], [1194]], []), ([], [])] = true := by decide +kernel
theorem bm_X7_shelve : ∀ b k, bt_P 149 b = some k → bi_okk bt_M bt_P 149 ((yX7_shelve, cX7_shelve, 2, none, RX7, 1, 20, [])) k := fun b k h => bi_oksB_ok _ _ bo_X7_shelve k (List.mem_of_getElem? (show bt_X7_shelve[b]? = some k from h))
theorem bo_X8_collect : bi_oksB bt_M bt_P 150 ((yX8_collect, cX8_collect, 6, none, RX8, 3, 69, [])) bt_X8_collect [([[], [2027], []], []), ([[], [2029], []], []), ([], []), ([[], [], [], [], [], [], [3193, 1004, 3190, 3191, 3192], [3197, 1012, 3194, 3195, 3196], [], [1096], [2171, 1005, 2168, 2169, 2170], [], [], [], [1093], [], [], [], [], []], []), ([[]], []), ([[], [1096], [], [1085], [], [], [2175, 1005, 2172, 2173, 2174], []], []), ([[], [], [3202, 1012, 3199, 3200, 3201]], []), ([[], [1089], [], [], [], []], []), ([[], [], [1085], [3206, 1012, 3203, 3204, 3205]], [])] = true := by decide +kernel
theorem bm_X8_collect : ∀ b k, bt_P 150 b = some k → bi_okk bt_M bt_P 150 ((yX8_collect, cX8_collect, 6, none, RX8, 3, 69, [])) k := fun b k h => bi_oksB_ok _ _ bo_X8_collect k (List.mem_of_getElem? (show bt_X8_collect[b]? = some k from h))
theorem bo_X8_extend : bi_oksB bt_M bt_P 151 ((yX8_extend, cX8_extend, 5, (some .int), RX8, 4, 85, [])) bt_X8_extend [([[], [1083], [], [], [], [1093], []], []), ([[], [], [], [1093], [], [], [2229, 1004, 2226, 2228, 6]], []), ([[], [], [1083], [], [], [1083], [], [1085], [], [1083], [], [], [], [1087], [], [1083], [], [], [], [1089], [], [1083], [], [], [], [1091], [], [1083], [], [], [], [1093], [], [1083], [], [1093], [], [], [], [], [], [], [1083]], [])] = true := by decide +kernel
theorem bm_X8_extend : ∀ b k, bt_P 151 b = some k → bi_okk bt_M bt_P 151 ((yX8_extend, cX8_extend, 5, (some .int), RX8, 4, 85, [])) k := fun b k h => bi_oksB_ok _ _ bo_X8_extend k (List.mem_of_getElem? (show bt_X8_extend[b]? = some k from h))
theorem bo_X8_grow : bi_oksB bt_M bt_P 152 ((yX8_grow, cX8_grow, 3, none, RX8, 3, 63, [])) bt_X8_grow [([[], [2230], [1032, 1002, 2231, 1031], [], [], [], [1085], [], [2234, 1014, 2232, 2233], [1085], [], [], [1087], [], [2234, 1014, 2232, 2233], [1087], [], [], [1089], [], [2234, 1014, 2232, 2233], [1089], [], [], [1091], [], [2234, 1014, 2232, 2233], [1091], [], [], [1093], [], [2234, 1014, 2232, 2233], [1093]], [])] = true := by decide +kernel
theorem bm_X8_grow : ∀ b k, bt_P 152 b = some k → bi_okk bt_M bt_P 152 ((yX8_grow, cX8_grow, 3, none, RX8, 3, 63, [])) k := fun b k h => bi_oksB_ok _ _ bo_X8_grow k (List.mem_of_getElem? (show bt_X8_grow[b]? = some k from h))
theorem bo_X8_init : bi_oksB bt_M bt_P 153 ((yX8_init, cX8_init, 2, none, RX8, 2, 41, [])) bt_X8_init [([[], [1067, 1028, 1029], [], [], [], [], [1082], [1085], [], [], [1082], [1087], [], [], [1082], [1089], [], [], [1082], [1091], [], [], [1082], [1093], [], [1068, 1069, 1005], [], [1070], [1073, 1005, 1071, 1072], [1096]], [])] = true := by decide +kernel
theorem bm_X8_init : ∀ b k, bt_P 153 b = some k → bi_okk bt_M bt_P 153 ((yX8_init, cX8_init, 2, none, RX8, 2, 41, [])) k := fun b k h => bi_oksB_ok _ _ bo_X8_init k (List.mem_of_getElem? (show bt_X8_init[b]? = some k from h))
theorem bo_X8_nodesBehind_0 : bi_okkB bt_M bt_P 154 ((yX8_nodesBehind, cX8_nodesBehind, 9, (some .int), RX8, 2, 41, [])) (bt_X8_nodesBehind.getD 0 bi_kd) [[], [1096], [2171, 1005, 2168, 2169, 2170], [], [], [], [], [], [1093], [], [], [], [], []] [] = true := by decide +kernel
theorem bo_X8_nodesBehind_1 : bi_okkB bt_M bt_P 154 ((yX8_nodesBehind, cX8_nodesBehind, 9, (some .int), RX8, 2, 41, [])) (bt_X8_nodesBehind.getD 1 bi_kd) [[]] [] = true := by decide +kernel
theorem bo_X8_nodesBehind_2 : bi_okkB bt_M bt_P 154 ((yX8_nodesBehind, cX8_nodesBehind, 9, (some .int), RX8, 2, 41, [])) (bt_X8_nodesBehind.getD 2 bi_kd) [[], [1085], [], [], [], [], [], [], [], [1085], [], [], [], [], [], [], [], [], [1085], [], [], [], [], [], [], [], [], [1096], [], [2175, 1005, 2172, 2173, 2174], [], [1096], [], [2175, 1005, 2172, 2173, 2174], [], [], [1096], [], [2175, 1005, 2172, 2173, 2174], [], [], [], [], [1089], [], [], [], []] [] = true := by decide +kernel
theorem bo_X8_nodesBehind_3 : bi_okkB bt_M bt_P 154 ((yX8_nodesBehind, cX8_nodesBehind, 9, (some .int), RX8, 2, 41, [])) (bt_X8_nodesBehind.getD 3 bi_kd) [[]] [] = true := by decide +kernel
theorem bm_X8_nodesBehind : ∀ b k, bt_P 154 b = some k → bi_okk bt_M bt_P 154 ((yX8_nodesBehind, cX8_nodesBehind, 9, (some .int), RX8, 2, 41, [])) k := fun b k h => bi_allk (show bt_X8_nodesBehind[b]? = some k from h) (fun b hb => match b, hb with
  | 0, _ => bi_okkB_ok bo_X8_nodesBehind_0
  | 1, _ => bi_okkB_ok bo_X8_nodesBehind_1
  | 2, _ => bi_okkB_ok bo_X8_nodesBehind_2
  | 3, _ => bi_okkB_ok bo_X8_nodesBehind_3
  | b + 4, hb => absurd hb (by show ¬ b + 4 < 4; omega))
theorem bo_X8_placesBehind : bi_oksB bt_M bt_P 155 ((yX8_placesBehind, cX8_placesBehind, 6, (some .int), RX8, 1, 20, [])) bt_X8_placesBehind [([[], [], [], [], [], [1093], [], [], [], [], []], []), ([[]], []), ([[], [1093], [], [1091], [], [], [], []], []), ([[]], []), ([[], [1089], [], [], [], []], []), ([[]], [])] = true := by decide +kernel
theorem bm_X8_placesBehind : ∀ b k, bt_P 155 b = some k → bi_okk bt_M bt_P 155 ((yX8_placesBehind, cX8_placesBehind, 6, (some .int), RX8, 1, 20, [])) k := fun b k h => bi_oksB_ok _ _ bo_X8_placesBehind k (List.mem_of_getElem? (show bt_X8_placesBehind[b]? = some k from h))
theorem bo_X8_placesInBoth : bi_oksB bt_M bt_P 156 ((yX8_placesInBoth, cX8_placesInBoth, 8, (some .int), RX8, 1, 20, [])) bt_X8_placesInBoth [([[], [], [], [], [], [1093], [], [], [], [], []], []), ([[]], []), ([[], [1093], [], [1091], [], [], [], [], [], []], []), ([[], []], []), ([[]], []), ([[], [1089], [], [], [], []], []), ([[]], [])] = true := by decide +kernel
theorem bm_X8_placesInBoth : ∀ b k, bt_P 156 b = some k → bi_okk bt_M bt_P 156 ((yX8_placesInBoth, cX8_placesInBoth, 8, (some .int), RX8, 1, 20, [])) k := fun b k h => bi_oksB_ok _ _ bo_X8_placesInBoth k (List.mem_of_getElem? (show bt_X8_placesInBoth[b]? = some k from h))
theorem bo_X8_told : bi_oksB bt_M bt_P 157 ((yX8_told, cX8_told, 3, (some .int), RX8, 1, 20, [])) bt_X8_told [([[]], []), ([[], [1085], [], [], [], []], []), ([[], []], []), ([[], [1085], [], [], [], []], []), ([[], [1087], [], []], []), ([], [])] = true := by decide +kernel
theorem bm_X8_told : ∀ b k, bt_P 157 b = some k → bi_okk bt_M bt_P 157 ((yX8_told, cX8_told, 3, (some .int), RX8, 1, 20, [])) k := fun b k h => bi_oksB_ok _ _ bo_X8_told k (List.mem_of_getElem? (show bt_X8_told[b]? = some k from h))
end
section
/-! the tables are as the code has them -/
theorem bo_X9_back : bi_oksB bt_M bt_P 158 ((yX9_back, cX9_back, 4, (some .int), RX9, 3, 68, [])) bt_X9_back [([[], [], [2132, 1001, 2129, 2131, 0], [], [], [], [2146, 1001, 2144, 2145], [], []], []), ([[]], []), ([[], [], [2082], [], [], [3094, 1001, 3091, 3093, 9], []], [])] = true := by decide +kernel
theorem bm_X9_back : ∀ b k, bt_P 158 b = some k → bi_okk bt_M bt_P 158 ((yX9_back, cX9_back, 4, (some .int), RX9, 3, 68, [])) k := fun b k h => bi_oksB_ok _ _ bo_X9_back k (List.mem_of_getElem? (show bt_X9_back[b]? = some k from h))
theorem bo_X9_checkpoint : bi_oksB bt_M bt_P 159 ((yX9_checkpoint, cX9_checkpoint, 4, (some .int), RX9, 5, 104, [])) bt_X9_checkpoint [([[], [], [2132, 1001, 2129, 2131, 0], [], []], []), ([[]], []), ([[], [2046], [1046]], []), ([[]], []), ([[], [2046], [1048], [], [], [], [2163, 1001, 2160, 2162, 3]], []), ([[], [2046], [1048], [], []], []), ([[]], []), ([], [])] = true := by decide +kernel
theorem bm_X9_checkpoint : ∀ b k, bt_P 159 b = some k → bi_okk bt_M bt_P 159 ((yX9_checkpoint, cX9_checkpoint, 4, (some .int), RX9, 5, 104, [])) k := fun b k h => bi_oksB_ok _ _ bo_X9_checkpoint k (List.mem_of_getElem? (show bt_X9_checkpoint[b]? = some k from h))
theorem bo_X9_checkpointed : bi_oksB bt_M bt_P 160 ((yX9_checkpointed, cX9_checkpointed, 3, (some .boolean), RX9, 4, 82, [])) bt_X9_checkpointed [([[], [2048], [], [], [1184], [], [1188]], []), ([[]], []), ([[], [2046], [], [1141], [], [1184], [], [1141], [1095], [], [1188], [], [2167, 1004, 2164, 2165, 2166], [], [], [2179, 1003, 2176, 2177, 2178]], []), ([[]], []), ([[], [2191, 1010, 2188, 2189, 2190], []], [])] = true := by decide +kernel
theorem bm_X9_checkpointed : ∀ b k, bt_P 160 b = some k → bi_okk bt_M bt_P 160 ((yX9_checkpointed, cX9_checkpointed, 3, (some .boolean), RX9, 4, 82, [])) k := fun b k h => bi_oksB_ok _ _ bo_X9_checkpointed k (List.mem_of_getElem? (show bt_X9_checkpointed[b]? = some k from h))
theorem bo_X9_commit : bi_oksB bt_M bt_P 161 ((yX9_commit, cX9_commit, 5, none, RX9, 4, 93, [])) bt_X9_commit [([[], [2050], [], [], [1235], [], [], [1233]], []), ([[]], []), ([[], [2048], [2195, 1010, 4057, 2193, 2194]], []), ([[], [], [2046], [], [1141], [], [1237], [], [2167, 1004, 2164, 2165, 2166], [], [], [2179, 1003, 2176, 2177, 2178]], []), ([], []), ([[], [2048], [], [], [1237], [], [1233]], []), ([[]], []), ([[]], []), ([[4061, 1010, 4058, 4059, 4060], [], [3084, 1011, 4067, 3082, 3083], [], [], [1137], [3037, 1009, 3034, 3035, 3036], [], [], [], [], [4025, 1001, 4022, 4024, 18]], [])] = true := by decide +kernel
theorem bm_X9_commit : ∀ b k, bt_P 161 b = some k → bi_okk bt_M bt_P 161 ((yX9_commit, cX9_commit, 5, none, RX9, 4, 93, [])) k := fun b k h => bi_oksB_ok _ _ bo_X9_commit k (List.mem_of_getElem? (show bt_X9_commit[b]? = some k from h))
theorem bo_X9_crash : bi_oksB bt_M bt_P 162 ((yX9_crash, cX9_crash, 2, (some .boolean), RX9, 2, 40, [])) bt_X9_crash [([[]], []), ([[], []], []), ([[], [1139], [], [], [1046]], []), ([[]], []), ([[], [1139], [], [], [2187, 1003, 3228, 2185, 2186], []], [])] = true := by decide +kernel
theorem bm_X9_crash : ∀ b k, bt_P 162 b = some k → bi_okk bt_M bt_P 162 ((yX9_crash, cX9_crash, 2, (some .boolean), RX9, 2, 40, [])) k := fun b k h => bi_oksB_ok _ _ bo_X9_crash k (List.mem_of_getElem? (show bt_X9_crash[b]? = some k from h))
theorem bo_X9_differ : bi_oksB bt_M bt_P 163 ((yX9_differ, cX9_differ, 5, (some .int), RX9, 6, 90, [])) bt_X9_differ [([[], [], [2132, 1001, 2129, 2131, 0], [], []], []), ([[], [2048], [], [4149, 1010, 4146, 4147, 4148]], []), ([[], [2048], [], [4149, 1010, 4146, 4147, 4148]], []), ([[], []], []), ([], []), ([[], [2046], [1046]], []), ([], []), ([[], [1141], [], [2048], [1193], [], [], [], [2048], [], [3053, 1010, 4150, 3051, 3052], [3193, 1004, 5055, 3191, 3192]], [])] = true := by decide +kernel
theorem bm_X9_differ : ∀ b k, bt_P 163 b = some k → bi_okk bt_M bt_P 163 ((yX9_differ, cX9_differ, 5, (some .int), RX9, 6, 90, [])) k := fun b k h => bi_oksB_ok _ _ bo_X9_differ k (List.mem_of_getElem? (show bt_X9_differ[b]? = some k from h))
theorem bo_X9_fill_0 : bi_okkB bt_M bt_P 164 ((yX9_fill, cX9_fill, 10, (some .int), RX9, 7, 156, [])) (bt_X9_fill.getD 0 bi_kd) [[], [], [2132, 1001, 2129, 2131, 0], [], []] [] = true := by decide +kernel
theorem bo_X9_fill_1 : bi_okkB bt_M bt_P 164 ((yX9_fill, cX9_fill, 10, (some .int), RX9, 7, 156, [])) (bt_X9_fill.getD 1 bi_kd) [[], [2048], [], [], [2136, 1010, 2133, 2134, 2135]] [] = true := by decide +kernel
theorem bo_X9_fill_2 : bi_okkB bt_M bt_P 164 ((yX9_fill, cX9_fill, 10, (some .int), RX9, 7, 156, [])) (bt_X9_fill.getD 2 bi_kd) [[]] [] = true := by decide +kernel
theorem bo_X9_fill_3 : bi_okkB bt_M bt_P 164 ((yX9_fill, cX9_fill, 10, (some .int), RX9, 7, 156, [])) (bt_X9_fill.getD 3 bi_kd) [[], []] [] = true := by decide +kernel
theorem bo_X9_fill_4 : bi_okkB bt_M bt_P 164 ((yX9_fill, cX9_fill, 10, (some .int), RX9, 7, 156, [])) (bt_X9_fill.getD 4 bi_kd) [[], []] [] = true := by decide +kernel
theorem bo_X9_fill_5 : bi_okkB bt_M bt_P 164 ((yX9_fill, cX9_fill, 10, (some .int), RX9, 7, 156, [])) (bt_X9_fill.getD 5 bi_kd) [[], [2048], [], [], [], [], [], [], [2136, 1010, 2133, 2134, 2135]] [] = true := by decide +kernel
theorem bo_X9_fill_6 : bi_okkB bt_M bt_P 164 ((yX9_fill, cX9_fill, 10, (some .int), RX9, 7, 156, [])) (bt_X9_fill.getD 6 bi_kd) [[]] [] = true := by decide +kernel
theorem bo_X9_fill_7 : bi_okkB bt_M bt_P 164 ((yX9_fill, cX9_fill, 10, (some .int), RX9, 7, 156, [])) (bt_X9_fill.getD 7 bi_kd) [[], [], [2139, 1001, 2137, 2138], [], [], []] [] = true := by decide +kernel
theorem bo_X9_fill_8 : bi_okkB bt_M bt_P 164 ((yX9_fill, cX9_fill, 10, (some .int), RX9, 7, 156, [])) (bt_X9_fill.getD 8 bi_kd) [[], []] [] = true := by decide +kernel
theorem bo_X9_fill_9 : bi_okkB bt_M bt_P 164 ((yX9_fill, cX9_fill, 10, (some .int), RX9, 7, 156, [])) (bt_X9_fill.getD 9 bi_kd) [[], [], [], [], [], [], [], [], [2143, 1001, 2140, 2142, 1], [], []] [] = true := by decide +kernel
theorem bo_X9_fill_10 : bi_okkB bt_M bt_P 164 ((yX9_fill, cX9_fill, 10, (some .int), RX9, 7, 156, [])) (bt_X9_fill.getD 10 bi_kd) [[]] [] = true := by decide +kernel
theorem bo_X9_fill_11 : bi_okkB bt_M bt_P 164 ((yX9_fill, cX9_fill, 10, (some .int), RX9, 7, 156, [])) (bt_X9_fill.getD 11 bi_kd) [[]] [] = true := by decide +kernel
theorem bo_X9_fill_12 : bi_okkB bt_M bt_P 164 ((yX9_fill, cX9_fill, 10, (some .int), RX9, 7, 156, [])) (bt_X9_fill.getD 12 bi_kd) [[]] [] = true := by decide +kernel
theorem bo_X9_fill_13 : bi_okkB bt_M bt_P 164 ((yX9_fill, cX9_fill, 10, (some .int), RX9, 7, 156, [])) (bt_X9_fill.getD 13 bi_kd) [] [] = true := by decide +kernel
theorem bo_X9_fill_14 : bi_okkB bt_M bt_P 164 ((yX9_fill, cX9_fill, 10, (some .int), RX9, 7, 156, [])) (bt_X9_fill.getD 14 bi_kd) [[]] [] = true := by decide +kernel
theorem bo_X9_fill_15 : bi_okkB bt_M bt_P 164 ((yX9_fill, cX9_fill, 10, (some .int), RX9, 7, 156, [])) (bt_X9_fill.getD 15 bi_kd) [[]] [] = true := by decide +kernel
theorem bm_X9_fill : ∀ b k, bt_P 164 b = some k → bi_okk bt_M bt_P 164 ((yX9_fill, cX9_fill, 10, (some .int), RX9, 7, 156, [])) k := fun b k h => bi_allk (show bt_X9_fill[b]? = some k from h) (fun b hb => match b, hb with
  | 0, _ => bi_okkB_ok bo_X9_fill_0
  | 1, _ => bi_okkB_ok bo_X9_fill_1
  | 2, _ => bi_okkB_ok bo_X9_fill_2
  | 3, _ => bi_okkB_ok bo_X9_fill_3
  | 4, _ => bi_okkB_ok bo_X9_fill_4
  | 5, _ => bi_okkB_ok bo_X9_fill_5
  | 6, _ => bi_okkB_ok bo_X9_fill_6
  | 7, _ => bi_okkB_ok bo_X9_fill_7
  | 8, _ => bi_okkB_ok bo_X9_fill_8
  | 9, _ => bi_okkB_ok bo_X9_fill_9
  | 10, _ => bi_okkB_ok bo_X9_fill_10
  | 11, _ => bi_okkB_ok bo_X9_fill_11
  | 12, _ => bi_okkB_ok bo_X9_fill_12
  | 13, _ => bi_okkB_ok bo_X9_fill_13
  | 14, _ => bi_okkB_ok bo_X9_fill_14
  | 15, _ => bi_okkB_ok bo_X9_fill_15
  | b + 16, hb => absurd hb (by show ¬ b + 16 < 16; omega))
theorem bo_X9_flush : bi_oksB bt_M bt_P 165 ((yX9_flush, cX9_flush, 3, (some .int), RX9, 6, 127, [])) bt_X9_flush [([[], [], [2132, 1001, 2129, 2131, 0], [], []], []), ([[]], []), ([[], [2046], [1046]], []), ([[], [], [2155, 1001, 2152, 2154, 2]], []), ([[]], []), ([[], [2048], [2159, 1010, 2156, 2157, 2158]], [])] = true := by decide +kernel
theorem bm_X9_flush : ∀ b k, bt_P 165 b = some k → bi_okk bt_M bt_P 165 ((yX9_flush, cX9_flush, 3, (some .int), RX9, 6, 127, [])) k := fun b k h => bi_oksB_ok _ _ bo_X9_flush k (List.mem_of_getElem? (show bt_X9_flush[b]? = some k from h))
theorem bo_X9_flushed : bi_oksB bt_M bt_P 166 ((yX9_flushed, cX9_flushed, 4, (some .boolean), RX9, 5, 104, [])) bt_X9_flushed [([[], [2048], [], [], [2159, 1010, 2156, 2157, 2158], [], [2151, 1010, 2148, 2149, 2150], [], []], []), ([[], [], [2163, 1001, 2160, 2162, 3]], []), ([[], [2151, 1010, 2148, 2149, 2150], []], []), ([[]], []), ([[], [2046], [2183, 1003, 2204, 2181, 2182]], []), ([[]], []), ([[], [], [2208, 1010, 2205, 2206, 2207], []], []), ([[]], [])] = true := by decide +kernel
theorem bm_X9_flushed : ∀ b k, bt_P 166 b = some k → bi_okk bt_M bt_P 166 ((yX9_flushed, cX9_flushed, 4, (some .boolean), RX9, 5, 104, [])) k := fun b k h => bi_oksB_ok _ _ bo_X9_flushed k (List.mem_of_getElem? (show bt_X9_flushed[b]? = some k from h))
theorem bo_X9_force_0 : bi_okkB bt_M bt_P 167 ((yX9_force, cX9_force, 3, (some .int), RX9, 5, 115, [])) (bt_X9_force.getD 0 bi_kd) [[], [], [2132, 1001, 2129, 2131, 0], [], []] [] = true := by decide +kernel
theorem bo_X9_force_1 : bi_okkB bt_M bt_P 167 ((yX9_force, cX9_force, 3, (some .int), RX9, 5, 115, [])) (bt_X9_force.getD 1 bi_kd) [[]] [] = true := by decide +kernel
theorem bo_X9_force_2 : bi_okkB bt_M bt_P 167 ((yX9_force, cX9_force, 3, (some .int), RX9, 5, 115, [])) (bt_X9_force.getD 2 bi_kd) [[], [2046], [1046]] [] = true := by decide +kernel
theorem bo_X9_force_3 : bi_okkB bt_M bt_P 167 ((yX9_force, cX9_force, 3, (some .int), RX9, 5, 115, [])) (bt_X9_force.getD 3 bi_kd) [[]] [] = true := by decide +kernel
theorem bo_X9_force_4 : bi_okkB bt_M bt_P 167 ((yX9_force, cX9_force, 3, (some .int), RX9, 5, 115, [])) (bt_X9_force.getD 4 bi_kd) [[], [2056]] [] = true := by decide +kernel
theorem bo_X9_force_5 : bi_okkB bt_M bt_P 167 ((yX9_force, cX9_force, 3, (some .int), RX9, 5, 115, [])) (bt_X9_force.getD 5 bi_kd) [[], [2056], []] [] = true := by decide +kernel
theorem bo_X9_force_6 : bi_okkB bt_M bt_P 167 ((yX9_force, cX9_force, 3, (some .int), RX9, 5, 115, [])) (bt_X9_force.getD 6 bi_kd) [[]] [] = true := by decide +kernel
theorem bo_X9_force_7 : bi_okkB bt_M bt_P 167 ((yX9_force, cX9_force, 3, (some .int), RX9, 5, 115, [])) (bt_X9_force.getD 7 bi_kd) [[], [2056], []] [] = true := by decide +kernel
theorem bo_X9_force_8 : bi_okkB bt_M bt_P 167 ((yX9_force, cX9_force, 3, (some .int), RX9, 5, 115, [])) (bt_X9_force.getD 8 bi_kd) [[], [], [2163, 1001, 2160, 2162, 3]] [] = true := by decide +kernel
theorem bo_X9_force_9 : bi_okkB bt_M bt_P 167 ((yX9_force, cX9_force, 3, (some .int), RX9, 5, 115, [])) (bt_X9_force.getD 9 bi_kd) [[]] [] = true := by decide +kernel
theorem bo_X9_force_10 : bi_okkB bt_M bt_P 167 ((yX9_force, cX9_force, 3, (some .int), RX9, 5, 115, [])) (bt_X9_force.getD 10 bi_kd) [[], [2046], [2183, 1003, 2204, 2181, 2182]] [] = true := by decide +kernel
theorem bo_X9_force_11 : bi_okkB bt_M bt_P 167 ((yX9_force, cX9_force, 3, (some .int), RX9, 5, 115, [])) (bt_X9_force.getD 11 bi_kd) [[]] [] = true := by decide +kernel
theorem bo_X9_force_12 : bi_okkB bt_M bt_P 167 ((yX9_force, cX9_force, 3, (some .int), RX9, 5, 115, [])) (bt_X9_force.getD 12 bi_kd) [[], [2056]] [] = true := by decide +kernel
theorem bo_X9_force_13 : bi_okkB bt_M bt_P 167 ((yX9_force, cX9_force, 3, (some .int), RX9, 5, 115, [])) (bt_X9_force.getD 13 bi_kd) [[], [], [2048], [3045, 1010, 3054, 3043, 3044], [], [3070, 1009, 3067, 3068, 3069]] [] = true := by decide +kernel
theorem bo_X9_force_14 : bi_okkB bt_M bt_P 167 ((yX9_force, cX9_force, 3, (some .int), RX9, 5, 115, [])) (bt_X9_force.getD 14 bi_kd) [[], [2067]] [] = true := by decide +kernel
theorem bo_X9_force_15 : bi_okkB bt_M bt_P 167 ((yX9_force, cX9_force, 3, (some .int), RX9, 5, 115, [])) (bt_X9_force.getD 15 bi_kd) [[], [2069]] [] = true := by decide +kernel
theorem bo_X9_force_16 : bi_okkB bt_M bt_P 167 ((yX9_force, cX9_force, 3, (some .int), RX9, 5, 115, [])) (bt_X9_force.getD 16 bi_kd) [[], [], [2063], [], [2065], [3070, 1009, 3067, 3068, 3069]] [] = true := by decide +kernel
theorem bo_X9_force_17 : bi_okkB bt_M bt_P 167 ((yX9_force, cX9_force, 3, (some .int), RX9, 5, 115, [])) (bt_X9_force.getD 17 bi_kd) [[], [], [2063], [], [], [2065], [], [], [2073], [], [], [2075], [], [], [2081], [], [], [2082], [], [], [2059], [], [2046], [1044]] [] = true := by decide +kernel
theorem bo_X9_force_18 : bi_okkB bt_M bt_P 167 ((yX9_force, cX9_force, 3, (some .int), RX9, 5, 115, [])) (bt_X9_force.getD 18 bi_kd) [[]] [] = true := by decide +kernel
theorem bo_X9_force_19 : bi_okkB bt_M bt_P 167 ((yX9_force, cX9_force, 3, (some .int), RX9, 5, 115, [])) (bt_X9_force.getD 19 bi_kd) [[]] [] = true := by decide +kernel
theorem bo_X9_force_20 : bi_okkB bt_M bt_P 167 ((yX9_force, cX9_force, 3, (some .int), RX9, 5, 115, [])) (bt_X9_force.getD 20 bi_kd) [[3073, 1001, 3071, 3072], [], [1137], [3080, 1009, 3077, 3078, 3079], [], [2059]] [] = true := by decide +kernel
theorem bm_X9_force : ∀ b k, bt_P 167 b = some k → bi_okk bt_M bt_P 167 ((yX9_force, cX9_force, 3, (some .int), RX9, 5, 115, [])) k := fun b k h => bi_allk (show bt_X9_force[b]? = some k from h) (fun b hb => match b, hb with
  | 0, _ => bi_okkB_ok bo_X9_force_0
  | 1, _ => bi_okkB_ok bo_X9_force_1
  | 2, _ => bi_okkB_ok bo_X9_force_2
  | 3, _ => bi_okkB_ok bo_X9_force_3
  | 4, _ => bi_okkB_ok bo_X9_force_4
  | 5, _ => bi_okkB_ok bo_X9_force_5
  | 6, _ => bi_okkB_ok bo_X9_force_6
  | 7, _ => bi_okkB_ok bo_X9_force_7
  | 8, _ => bi_okkB_ok bo_X9_force_8
  | 9, _ => bi_okkB_ok bo_X9_force_9
  | 10, _ => bi_okkB_ok bo_X9_force_10
  | 11, _ => bi_okkB_ok bo_X9_force_11
  | 12, _ => bi_okkB_ok bo_X9_force_12
  | 13, _ => bi_okkB_ok bo_X9_force_13
  | 14, _ => bi_okkB_ok bo_X9_force_14
  | 15, _ => bi_okkB_ok bo_X9_force_15
  | 16, _ => bi_okkB_ok bo_X9_force_16
  | 17, _ => bi_okkB_ok bo_X9_force_17
  | 18, _ => bi_okkB_ok bo_X9_force_18
  | 19, _ => bi_okkB_ok bo_X9_force_19
  | 20, _ => bi_okkB_ok bo_X9_force_20
  | b + 21, hb => absurd hb (by show ¬ b + 21 < 21; omega))
theorem bo_X9_freeBlocks : bi_oksB bt_M bt_P 168 ((yX9_freeBlocks, cX9_freeBlocks, 5, (some .int), RX9, 2, 41, [])) bt_X9_freeBlocks [([[], [1136], [], [], []], []), ([[], []], []), ([[], [], [], [1044], [], [], [], [2132, 1001, 2129, 2131, 0], [], []], []), ([[], [], [2217, 1009, 2214, 2215, 2216], [], []], []), ([[]], []), ([[]], [])] = true := by decide +kernel
theorem bm_X9_freeBlocks : ∀ b k, bt_P 168 b = some k → bi_okk bt_M bt_P 168 ((yX9_freeBlocks, cX9_freeBlocks, 5, (some .int), RX9, 2, 41, [])) k := fun b k h => bi_oksB_ok _ _ bo_X9_freeBlocks k (List.mem_of_getElem? (show bt_X9_freeBlocks[b]? = some k from h))
theorem bo_X9_group_0 : bi_okkB bt_M bt_P 169 ((yX9_group, cX9_group, 4, (some .int), RX9, 3, 64, [])) (bt_X9_group.getD 0 bi_kd) [[], []] [] = true := by decide +kernel
theorem bo_X9_group_1 : bi_okkB bt_M bt_P 169 ((yX9_group, cX9_group, 4, (some .int), RX9, 3, 64, [])) (bt_X9_group.getD 1 bi_kd) [[], []] [] = true := by decide +kernel
theorem bo_X9_group_2 : bi_okkB bt_M bt_P 169 ((yX9_group, cX9_group, 4, (some .int), RX9, 3, 64, [])) (bt_X9_group.getD 2 bi_kd) [[], []] [] = true := by decide +kernel
theorem bo_X9_group_3 : bi_okkB bt_M bt_P 169 ((yX9_group, cX9_group, 4, (some .int), RX9, 3, 64, [])) (bt_X9_group.getD 3 bi_kd) [[], []] [] = true := by decide +kernel
theorem bo_X9_group_4 : bi_okkB bt_M bt_P 169 ((yX9_group, cX9_group, 4, (some .int), RX9, 3, 64, [])) (bt_X9_group.getD 4 bi_kd) [[]] [] = true := by decide +kernel
theorem bo_X9_group_5 : bi_okkB bt_M bt_P 169 ((yX9_group, cX9_group, 4, (some .int), RX9, 3, 64, [])) (bt_X9_group.getD 5 bi_kd) [[], [1143], []] [] = true := by decide +kernel
theorem bo_X9_group_6 : bi_okkB bt_M bt_P 169 ((yX9_group, cX9_group, 4, (some .int), RX9, 3, 64, [])) (bt_X9_group.getD 6 bi_kd) [[]] [] = true := by decide +kernel
theorem bo_X9_group_7 : bi_okkB bt_M bt_P 169 ((yX9_group, cX9_group, 4, (some .int), RX9, 3, 64, [])) (bt_X9_group.getD 7 bi_kd) [[], [1143], [], [], [1140], [], [1060, 1171, 1009], [], [], [], [1139], [], [], [], [1172, 1173, 1010], [], [], [1141], [], [], [1176, 1010, 1174, 1175], [1224, 1009, 1222, 1223], [], [], [1140], [], [], [], [1060, 1171, 1009], [], [], [], [], [], [1139], [], [], [], [1172, 1173, 1010], [], [], [1141], [], [], [1176, 1010, 1174, 1175], [1224, 1009, 1222, 1223], [], [], [], [1143], [], [], [1143], []] [] = true := by decide +kernel
theorem bm_X9_group : ∀ b k, bt_P 169 b = some k → bi_okk bt_M bt_P 169 ((yX9_group, cX9_group, 4, (some .int), RX9, 3, 64, [])) k := fun b k h => bi_allk (show bt_X9_group[b]? = some k from h) (fun b hb => match b, hb with
  | 0, _ => bi_okkB_ok bo_X9_group_0
  | 1, _ => bi_okkB_ok bo_X9_group_1
  | 2, _ => bi_okkB_ok bo_X9_group_2
  | 3, _ => bi_okkB_ok bo_X9_group_3
  | 4, _ => bi_okkB_ok bo_X9_group_4
  | 5, _ => bi_okkB_ok bo_X9_group_5
  | 6, _ => bi_okkB_ok bo_X9_group_6
  | 7, _ => bi_okkB_ok bo_X9_group_7
  | b + 8, hb => absurd hb (by show ¬ b + 8 < 8; omega))
theorem bo_X9_handOver : bi_oksB bt_M bt_P 170 ((yX9_handOver, cX9_handOver, 2, none, RX9, 3, 66, [])) bt_X9_handOver [([[], [2070]], []), ([[], [3168, 1009, 3165, 3166, 3167]], []), ([[], [], [3218, 1001, 3215, 3217, 15]], []), ([[], [2046], [2183, 1003, 2204, 2181, 2182]], []), ([[], [], [2059], [], [2046], [1044]], []), ([[]], []), ([[]], []), ([[3073, 1001, 3071, 3072], [2070], [], [], [3218, 1001, 3215, 3217, 15]], []), ([], [])] = true := by decide +kernel
theorem bm_X9_handOver : ∀ b k, bt_P 170 b = some k → bi_okk bt_M bt_P 170 ((yX9_handOver, cX9_handOver, 2, none, RX9, 3, 66, [])) k := fun b k h => bi_oksB_ok _ _ bo_X9_handOver k (List.mem_of_getElem? (show bt_X9_handOver[b]? = some k from h))
end
section
/-! the tables are as the code has them -/
theorem bo_X9_init : bi_oksB bt_M bt_P 171 ((yX9_init, cX9_init, 4, none, RX9, 3, 62, [])) bt_X9_init [([[], [1027, 1028, 1029], [], [], [], [], [1032, 1002, 1030, 1031], [1035, 1002, 1033, 1034], [1136], [], [], [], [], [1032, 1002, 1030, 1031], [1035, 1002, 1033, 1034], [1137], [], [], [], [], [1032, 1002, 1030, 1031], [1035, 1002, 1033, 1034], [1138], [], [], [1036, 1037], [1139], [], [1139], [], [1036, 1038, 1003], [], [], [1041, 1003, 1039, 1040], [], [], [1139], [], [1036, 1038, 1003], [], [], [1041, 1003, 1039, 1040], [], [], [], [1060, 1061], [1140], [], [1062, 1063, 1004], [], [1066, 1004, 1064, 1065], [1141], [], [1112, 1113, 1006], [], [1116, 1006, 1114, 1115], [1142]], [])] = true := by decide +kernel
theorem bm_X9_init : ∀ b k, bt_P 171 b = some k → bi_okk bt_M bt_P 171 ((yX9_init, cX9_init, 4, none, RX9, 3, 62, [])) k := fun b k h => bi_oksB_ok _ _ bo_X9_init k (List.mem_of_getElem? (show bt_X9_init[b]? = some k from h))
theorem bo_X9_item : bi_oksB bt_M bt_P 172 ((yX9_item, cX9_item, 5, (some .int), RX9, 6, 90, [])) bt_X9_item [([[], [1142], [], [4013, 1006, 4010, 4011, 4012], [], []], []), ([[]], []), ([[], [], [4099, 1016, 4096, 4097, 4098]], []), ([[]], []), ([[], []], []), ([], []), ([[], [3121], [], [], [], [], [], []], [])] = true := by decide +kernel
theorem bm_X9_item : ∀ b k, bt_P 172 b = some k → bi_okk bt_M bt_P 172 ((yX9_item, cX9_item, 5, (some .int), RX9, 6, 90, [])) k := fun b k h => bi_oksB_ok _ _ bo_X9_item k (List.mem_of_getElem? (show bt_X9_item[b]? = some k from h))
theorem bo_X9_leave : bi_oksB bt_M bt_P 173 ((yX9_leave, cX9_leave, 4, (some .int), RX9, 6, 125, [])) bt_X9_leave [([[], [], [2132, 1001, 2129, 2131, 0], [], [], [], [2146, 1001, 2144, 2145], [], []], []), ([[]], []), ([[], [2048], [3025, 1010, 3022, 3023, 3024]], []), ([[], [2060], []], []), ([[]], []), ([[], [], [3029, 1001, 3026, 3028, 7]], []), ([[]], []), ([[], [2046], [2183, 1003, 2204, 2181, 2182]], []), ([[]], []), ([[], [], [2056], [], [], [2070], [], [2048], [3045, 1010, 3054, 3043, 3044]], [])] = true := by decide +kernel
theorem bm_X9_leave : ∀ b k, bt_P 173 b = some k → bi_okk bt_M bt_P 173 ((yX9_leave, cX9_leave, 4, (some .int), RX9, 6, 125, [])) k := fun b k h => bi_oksB_ok _ _ bo_X9_leave k (List.mem_of_getElem? (show bt_X9_leave[b]? = some k from h))
theorem bo_X9_lost : bi_oksB bt_M bt_P 174 ((yX9_lost, cX9_lost, 5, (some .int), RX9, 6, 90, [])) bt_X9_lost [([[], [], [2132, 1001, 2129, 2131, 0], [], []], []), ([[]], []), ([[], [], [2054], [2033]], []), ([[]], []), ([[], []], []), ([], []), ([[], [1141], [], [2054], [2031], [], [], [], [4091, 1004, 4088, 4089, 4090]], [])] = true := by decide +kernel
theorem bm_X9_lost : ∀ b k, bt_P 174 b = some k → bi_okk bt_M bt_P 174 ((yX9_lost, cX9_lost, 5, (some .int), RX9, 6, 90, [])) k := fun b k h => bi_oksB_ok _ _ bo_X9_lost k (List.mem_of_getElem? (show bt_X9_lost[b]? = some k from h))
theorem bo_X9_message : bi_oksB bt_M bt_P 175 ((yX9_message, cX9_message, 4, (some .int), RX9, 2, 41, [])) bt_X9_message [([[], [1142], [], [4013, 1006, 4010, 4011, 4012], [], []], []), ([[]], []), ([[]], []), ([[], [3102]], []), ([[], [3104]], []), ([[], [3106]], []), ([[], [3110]], []), ([[], [3114]], []), ([[], [3116]], []), ([[], [3117]], []), ([[], [4099, 1016, 4096, 4097, 4098]], []), ([[]], [])] = true := by decide +kernel
theorem bm_X9_message : ∀ b k, bt_P 175 b = some k → bi_okk bt_M bt_P 175 ((yX9_message, cX9_message, 4, (some .int), RX9, 2, 41, [])) k := fun b k h => bi_oksB_ok _ _ bo_X9_message k (List.mem_of_getElem? (show bt_X9_message[b]? = some k from h))
theorem bo_X9_nextEpoch : bi_oksB bt_M bt_P 176 ((yX9_nextEpoch, cX9_nextEpoch, 2, (some .int), RX9, 2, 42, [])) bt_X9_nextEpoch [([[], [], [], [], [], [], [], [], [], [3076, 1002, 3074, 3075], []], [])] = true := by decide +kernel
theorem bm_X9_nextEpoch : ∀ b k, bt_P 176 b = some k → bi_okk bt_M bt_P 176 ((yX9_nextEpoch, cX9_nextEpoch, 2, (some .int), RX9, 2, 42, [])) k := fun b k h => bi_oksB_ok _ _ bo_X9_nextEpoch k (List.mem_of_getElem? (show bt_X9_nextEpoch[b]? = some k from h))
theorem bo_X9_old : bi_oksB bt_M bt_P 177 ((yX9_old, cX9_old, 6, (some .int), RX9, 6, 90, [])) bt_X9_old [([[], [], [2132, 1001, 2129, 2131, 0], [], []], []), ([[], [2048], [], [4149, 1010, 4146, 4147, 4148]], []), ([[], [2048], [], [], [2136, 1010, 2133, 2134, 2135]], []), ([], []), ([[], [2046], [1046]], []), ([], []), ([[], [2048], [], [], [], [2139, 1001, 2137, 2138], [5037, 1010, 5034, 5035, 5036]], [])] = true := by decide +kernel
theorem bm_X9_old : ∀ b k, bt_P 177 b = some k → bi_okk bt_M bt_P 177 ((yX9_old, cX9_old, 6, (some .int), RX9, 6, 90, [])) k := fun b k h => bi_oksB_ok _ _ bo_X9_old k (List.mem_of_getElem? (show bt_X9_old[b]? = some k from h))
theorem bo_X9_onAccept : bi_oksB bt_M bt_P 178 ((yX9_onAccept, cX9_onAccept, 3, none, RX9, 5, 117, [])) bt_X9_onAccept [([[], [], [], [4079, 1009, 4076, 4077, 4078]], []), ([], []), ([[], [], [2075], [], [], [3116], [2077], [], [], [3116], [2079], [], [], [2081], [], [], [4083, 1001, 4080, 4082, 24]], [])] = true := by decide +kernel
theorem bm_X9_onAccept : ∀ b k, bt_P 178 b = some k → bi_okk bt_M bt_P 178 ((yX9_onAccept, cX9_onAccept, 3, none, RX9, 5, 117, [])) k := fun b k h => bi_oksB_ok _ _ bo_X9_onAccept k (List.mem_of_getElem? (show bt_X9_onAccept[b]? = some k from h))
theorem bo_X9_onAck : bi_oksB bt_M bt_P 179 ((yX9_onAck, cX9_onAck, 3, none, RX9, 5, 117, [])) bt_X9_onAck [([[], [], [], [4079, 1009, 4076, 4077, 4078]], []), ([[], [3116], [], [2077]], []), ([], []), ([[], [], [3116], [2077], [], [], [2079], [], [3116], [1035, 1002, 1033, 1034], [2079], [], [], [2081], [], [], [4083, 1001, 4080, 4082, 24]], [])] = true := by decide +kernel
theorem bm_X9_onAck : ∀ b k, bt_P 179 b = some k → bi_okk bt_M bt_P 179 ((yX9_onAck, cX9_onAck, 3, none, RX9, 5, 117, [])) k := fun b k h => bi_oksB_ok _ _ bo_X9_onAck k (List.mem_of_getElem? (show bt_X9_onAck[b]? = some k from h))
theorem bo_X9_onCommon : bi_oksB bt_M bt_P 180 ((yX9_onCommon, cX9_onCommon, 4, none, RX9, 4, 94, [])) bt_X9_onCommon [([[], [2048], [], [3114], [3180, 1010, 4116, 3178, 3179], [], [], [2056], []], []), ([[], [2082]], []), ([[], [3114]], []), ([[]], []), ([[], [2046], [2183, 1003, 2204, 2181, 2182]], []), ([], []), ([[], [1141], [], [2054], [], [2048], [1184], [], [2048], [], [3114], [3184, 1010, 3181, 3182, 3183], [3189, 1004, 3186, 3187, 3188], [], [2048], [], [4132, 1010, 4129, 4130, 4131], [], [], [2056], [], [4033, 1009, 4133, 4031, 4032], [], [], [2082], [], [], [1137], [3037, 1009, 3034, 3035, 3036]], [])] = true := by decide +kernel
theorem bm_X9_onCommon : ∀ b k, bt_P 180 b = some k → bi_okk bt_M bt_P 180 ((yX9_onCommon, cX9_onCommon, 4, none, RX9, 4, 94, [])) k := fun b k h => bi_oksB_ok _ _ bo_X9_onCommon k (List.mem_of_getElem? (show bt_X9_onCommon[b]? = some k from h))
theorem bo_X9_onData_0 : bi_okkB bt_M bt_P 181 ((yX9_onData, cX9_onData, 4, none, RX9, 5, 117, [])) (bt_X9_onData.getD 0 bi_kd) [[], [2050], [], [], [2056]] [] = true := by decide +kernel
theorem bo_X9_onData_1 : bi_okkB bt_M bt_P 181 ((yX9_onData, cX9_onData, 4, none, RX9, 5, 117, [])) (bt_X9_onData.getD 1 bi_kd) [[], [], [3110], [], [3114], [4043, 1011, 4040, 4041, 4042]] [] = true := by decide +kernel
theorem bo_X9_onData_2 : bi_okkB bt_M bt_P 181 ((yX9_onData, cX9_onData, 4, none, RX9, 5, 117, [])) (bt_X9_onData.getD 2 bi_kd) [] [] = true := by decide +kernel
theorem bo_X9_onData_3 : bi_okkB bt_M bt_P 181 ((yX9_onData, cX9_onData, 4, none, RX9, 5, 117, [])) (bt_X9_onData.getD 3 bi_kd) [[], [3116], [], [2000]] [] = true := by decide +kernel
theorem bo_X9_onData_4 : bi_okkB bt_M bt_P 181 ((yX9_onData, cX9_onData, 4, none, RX9, 5, 117, [])) (bt_X9_onData.getD 4 bi_kd) [[], [4052, 1011, 4049, 4050, 4051]] [] = true := by decide +kernel
theorem bo_X9_onData_5 : bi_okkB bt_M bt_P 181 ((yX9_onData, cX9_onData, 4, none, RX9, 5, 117, [])) (bt_X9_onData.getD 5 bi_kd) [[], [], [], [4071, 1001, 4068, 4070, 22]] [] = true := by decide +kernel
theorem bo_X9_onData_6 : bi_okkB bt_M bt_P 181 ((yX9_onData, cX9_onData, 4, none, RX9, 5, 117, [])) (bt_X9_onData.getD 6 bi_kd) [[], [3116], [], [2000]] [] = true := by decide +kernel
theorem bo_X9_onData_7 : bi_okkB bt_M bt_P 181 ((yX9_onData, cX9_onData, 4, none, RX9, 5, 117, [])) (bt_X9_onData.getD 7 bi_kd) [] [] = true := by decide +kernel
theorem bo_X9_onData_8 : bi_okkB bt_M bt_P 181 ((yX9_onData, cX9_onData, 4, none, RX9, 5, 117, [])) (bt_X9_onData.getD 8 bi_kd) [[], [], [2046], [2213, 1001, 2210, 2212, 5], [], [4099, 1016, 4096, 4097, 4098]] [] = true := by decide +kernel
theorem bo_X9_onData_9 : bi_okkB bt_M bt_P 181 ((yX9_onData, cX9_onData, 4, none, RX9, 5, 117, [])) (bt_X9_onData.getD 9 bi_kd) [[], [], [2004], [], [], [2004]] [] = true := by decide +kernel
theorem bo_X9_onData_10 : bi_okkB bt_M bt_P 181 ((yX9_onData, cX9_onData, 4, none, RX9, 5, 117, [])) (bt_X9_onData.getD 10 bi_kd) [[], [2046], [2183, 1003, 2204, 2181, 2182]] [] = true := by decide +kernel
theorem bo_X9_onData_11 : bi_okkB bt_M bt_P 181 ((yX9_onData, cX9_onData, 4, none, RX9, 5, 117, [])) (bt_X9_onData.getD 11 bi_kd) [] [] = true := by decide +kernel
theorem bo_X9_onData_12 : bi_okkB bt_M bt_P 181 ((yX9_onData, cX9_onData, 4, none, RX9, 5, 117, [])) (bt_X9_onData.getD 12 bi_kd) [[], [], [4099, 1016, 4096, 4097, 4098], [4103, 1011, 4100, 4101, 4102], [], [4052, 1011, 4049, 4050, 4051]] [] = true := by decide +kernel
theorem bo_X9_onData_13 : bi_okkB bt_M bt_P 181 ((yX9_onData, cX9_onData, 4, none, RX9, 5, 117, [])) (bt_X9_onData.getD 13 bi_kd) [[], [], [4056, 1001, 4053, 4055, 20]] [] = true := by decide +kernel
theorem bo_X9_onData_14 : bi_okkB bt_M bt_P 181 ((yX9_onData, cX9_onData, 4, none, RX9, 5, 117, [])) (bt_X9_onData.getD 14 bi_kd) [[], [], [], [4071, 1001, 4068, 4070, 22]] [] = true := by decide +kernel
theorem bo_X9_onData_15 : bi_okkB bt_M bt_P 181 ((yX9_onData, cX9_onData, 4, none, RX9, 5, 117, [])) (bt_X9_onData.getD 15 bi_kd) [] [] = true := by decide +kernel
theorem bm_X9_onData : ∀ b k, bt_P 181 b = some k → bi_okk bt_M bt_P 181 ((yX9_onData, cX9_onData, 4, none, RX9, 5, 117, [])) k := fun b k h => bi_allk (show bt_X9_onData[b]? = some k from h) (fun b hb => match b, hb with
  | 0, _ => bi_okkB_ok bo_X9_onData_0
  | 1, _ => bi_okkB_ok bo_X9_onData_1
  | 2, _ => bi_okkB_ok bo_X9_onData_2
  | 3, _ => bi_okkB_ok bo_X9_onData_3
  | 4, _ => bi_okkB_ok bo_X9_onData_4
  | 5, _ => bi_okkB_ok bo_X9_onData_5
  | 6, _ => bi_okkB_ok bo_X9_onData_6
  | 7, _ => bi_okkB_ok bo_X9_onData_7
  | 8, _ => bi_okkB_ok bo_X9_onData_8
  | 9, _ => bi_okkB_ok bo_X9_onData_9
  | 10, _ => bi_okkB_ok bo_X9_onData_10
  | 11, _ => bi_okkB_ok bo_X9_onData_11
  | 12, _ => bi_okkB_ok bo_X9_onData_12
  | 13, _ => bi_okkB_ok bo_X9_onData_13
  | 14, _ => bi_okkB_ok bo_X9_onData_14
  | 15, _ => bi_okkB_ok bo_X9_onData_15
  | b + 16, hb => absurd hb (by show ¬ b + 16 < 16; omega))
theorem bo_X9_onGive : bi_oksB bt_M bt_P 182 ((yX9_onGive, cX9_onGive, 3, none, RX9, 5, 115, [])) bt_X9_onGive [([[], [2056]], []), ([[], [3114], [], [2048], [3045, 1010, 3054, 3043, 3044]], []), ([[], [2046], [2183, 1003, 2204, 2181, 2182]], []), ([], []), ([[], [], [3114], [2063], [], [], [3114], [2073], [], [], [2065], [], [], [], [3070, 1009, 3067, 3068, 3069], [], [], [3116], [], [1137], [3080, 1009, 3077, 3078, 3079], [], [], [], [], [4025, 1001, 4022, 4024, 18]], [])] = true := by decide +kernel
theorem bm_X9_onGive : ∀ b k, bt_P 182 b = some k → bi_okk bt_M bt_P 182 ((yX9_onGive, cX9_onGive, 3, none, RX9, 5, 115, [])) k := fun b k h => bi_oksB_ok _ _ bo_X9_onGive k (List.mem_of_getElem? (show bt_X9_onGive[b]? = some k from h))
theorem bo_X9_onHave : bi_oksB bt_M bt_P 183 ((yX9_onHave, cX9_onHave, 3, none, RX9, 4, 93, [])) bt_X9_onHave [([[], [3160, 1009, 3157, 3158, 3159]], []), ([[], [2065]], []), ([[], [2065], [], [3114]], []), ([[], [2046], [2183, 1003, 2204, 2181, 2182]], []), ([], []), ([[], [], [3114], [2063], [], [], [3114], [2073], [], [], [2065], [], [], [2075], [], [], [2081], [], [], [1137], [3037, 1009, 3034, 3035, 3036]], [])] = true := by decide +kernel
theorem bm_X9_onHave : ∀ b k, bt_P 183 b = some k → bi_okk bt_M bt_P 183 ((yX9_onHave, cX9_onHave, 3, none, RX9, 4, 93, [])) k := fun b k h => bi_oksB_ok _ _ bo_X9_onHave k (List.mem_of_getElem? (show bt_X9_onHave[b]? = some k from h))
theorem bo_X9_onHello_0 : bi_okkB bt_M bt_P 184 ((yX9_onHello, cX9_onHello, 5, none, RX9, 4, 93, [])) (bt_X9_onHello.getD 0 bi_kd) [[], [2056], []] [] = true := by decide +kernel
theorem bo_X9_onHello_1 : bi_okkB bt_M bt_P 184 ((yX9_onHello, cX9_onHello, 5, none, RX9, 4, 93, [])) (bt_X9_onHello.getD 1 bi_kd) [[], [2063], [], [], [2059], []] [] = true := by decide +kernel
theorem bo_X9_onHello_2 : bi_okkB bt_M bt_P 184 ((yX9_onHello, cX9_onHello, 5, none, RX9, 4, 93, [])) (bt_X9_onHello.getD 2 bi_kd) [] [] = true := by decide +kernel
theorem bo_X9_onHello_3 : bi_okkB bt_M bt_P 184 ((yX9_onHello, cX9_onHello, 5, none, RX9, 4, 93, [])) (bt_X9_onHello.getD 3 bi_kd) [[], [], [], []] [] = true := by decide +kernel
theorem bo_X9_onHello_4 : bi_okkB bt_M bt_P 184 ((yX9_onHello, cX9_onHello, 5, none, RX9, 4, 93, [])) (bt_X9_onHello.getD 4 bi_kd) [[], [], [4099, 1016, 4096, 4097, 4098]] [] = true := by decide +kernel
theorem bo_X9_onHello_5 : bi_okkB bt_M bt_P 184 ((yX9_onHello, cX9_onHello, 5, none, RX9, 4, 93, [])) (bt_X9_onHello.getD 5 bi_kd) [[]] [] = true := by decide +kernel
theorem bo_X9_onHello_6 : bi_okkB bt_M bt_P 184 ((yX9_onHello, cX9_onHello, 5, none, RX9, 4, 93, [])) (bt_X9_onHello.getD 6 bi_kd) [[], [2048], [], [3121], [], [], [], [], [3180, 1010, 4116, 3178, 3179]] [] = true := by decide +kernel
theorem bo_X9_onHello_7 : bi_okkB bt_M bt_P 184 ((yX9_onHello, cX9_onHello, 5, none, RX9, 4, 93, [])) (bt_X9_onHello.getD 7 bi_kd) [[], [3121], [], [], [], [], []] [] = true := by decide +kernel
theorem bo_X9_onHello_8 : bi_okkB bt_M bt_P 184 ((yX9_onHello, cX9_onHello, 5, none, RX9, 4, 93, [])) (bt_X9_onHello.getD 8 bi_kd) [[]] [] = true := by decide +kernel
theorem bo_X9_onHello_9 : bi_okkB bt_M bt_P 184 ((yX9_onHello, cX9_onHello, 5, none, RX9, 4, 93, [])) (bt_X9_onHello.getD 9 bi_kd) [[], [2046], [2183, 1003, 2204, 2181, 2182]] [] = true := by decide +kernel
theorem bo_X9_onHello_10 : bi_okkB bt_M bt_P 184 ((yX9_onHello, cX9_onHello, 5, none, RX9, 4, 93, [])) (bt_X9_onHello.getD 10 bi_kd) [] [] = true := by decide +kernel
theorem bo_X9_onHello_11 : bi_okkB bt_M bt_P 184 ((yX9_onHello, cX9_onHello, 5, none, RX9, 4, 93, [])) (bt_X9_onHello.getD 11 bi_kd) [[], [], [2063], [], [], [], [3070, 1009, 3067, 3068, 3069], [], [2065], []] [] = true := by decide +kernel
theorem bo_X9_onHello_12 : bi_okkB bt_M bt_P 184 ((yX9_onHello, cX9_onHello, 5, none, RX9, 4, 93, [])) (bt_X9_onHello.getD 12 bi_kd) [[], [], [2065]] [] = true := by decide +kernel
theorem bo_X9_onHello_13 : bi_okkB bt_M bt_P 184 ((yX9_onHello, cX9_onHello, 5, none, RX9, 4, 93, [])) (bt_X9_onHello.getD 13 bi_kd) [[], [], [2073], [], [], [2075], [], [], [2081], [], [], [1137], [3037, 1009, 3034, 3035, 3036], [], [], [], [], [4025, 1001, 4022, 4024, 18]] [] = true := by decide +kernel
theorem bm_X9_onHello : ∀ b k, bt_P 184 b = some k → bi_okk bt_M bt_P 184 ((yX9_onHello, cX9_onHello, 5, none, RX9, 4, 93, [])) k := fun b k h => bi_allk (show bt_X9_onHello[b]? = some k from h) (fun b hb => match b, hb with
  | 0, _ => bi_okkB_ok bo_X9_onHello_0
  | 1, _ => bi_okkB_ok bo_X9_onHello_1
  | 2, _ => bi_okkB_ok bo_X9_onHello_2
  | 3, _ => bi_okkB_ok bo_X9_onHello_3
  | 4, _ => bi_okkB_ok bo_X9_onHello_4
  | 5, _ => bi_okkB_ok bo_X9_onHello_5
  | 6, _ => bi_okkB_ok bo_X9_onHello_6
  | 7, _ => bi_okkB_ok bo_X9_onHello_7
  | 8, _ => bi_okkB_ok bo_X9_onHello_8
  | 9, _ => bi_okkB_ok bo_X9_onHello_9
  | 10, _ => bi_okkB_ok bo_X9_onHello_10
  | 11, _ => bi_okkB_ok bo_X9_onHello_11
  | 12, _ => bi_okkB_ok bo_X9_onHello_12
  | 13, _ => bi_okkB_ok bo_X9_onHello_13
  | b + 14, hb => absurd hb (by show ¬ b + 14 < 14; omega))
end
section
/-! the tables are as the code has them -/
theorem bo_X9_onLack : bi_oksB bt_M bt_P 185 ((yX9_onLack, cX9_onLack, 3, none, RX9, 5, 117, [])) bt_X9_onLack [([[], [3160, 1009, 3157, 3158, 3159]], []), ([[], [2065]], []), ([[], [2075]], []), ([], []), ([[], [], [3114], [], [2065]], []), ([[], [2048], [], [3114], [3180, 1010, 4116, 3178, 3179]], []), ([[], [3114]], []), ([[]], []), ([[2073], [], [], [3172, 1001, 3169, 3171, 12]], [])] = true := by decide +kernel
theorem bm_X9_onLack : ∀ b k, bt_P 185 b = some k → bi_okk bt_M bt_P 185 ((yX9_onLack, cX9_onLack, 3, none, RX9, 5, 117, [])) k := fun b k h => bi_oksB_ok _ _ bo_X9_onLack k (List.mem_of_getElem? (show bt_X9_onLack[b]? = some k from h))
theorem bo_X9_onOffer_0 : bi_okkB bt_M bt_P 186 ((yX9_onOffer, cX9_onOffer, 4, none, RX9, 5, 117, [])) (bt_X9_onOffer.getD 0 bi_kd) [[], [2048], [3045, 1010, 3054, 3043, 3044], [], [], [2056]] [] = true := by decide +kernel
theorem bo_X9_onOffer_1 : bi_okkB bt_M bt_P 186 ((yX9_onOffer, cX9_onOffer, 4, none, RX9, 5, 117, [])) (bt_X9_onOffer.getD 1 bi_kd) [[], [3114], []] [] = true := by decide +kernel
theorem bo_X9_onOffer_2 : bi_okkB bt_M bt_P 186 ((yX9_onOffer, cX9_onOffer, 4, none, RX9, 5, 117, [])) (bt_X9_onOffer.getD 2 bi_kd) [] [] = true := by decide +kernel
theorem bo_X9_onOffer_3 : bi_okkB bt_M bt_P 186 ((yX9_onOffer, cX9_onOffer, 4, none, RX9, 5, 117, [])) (bt_X9_onOffer.getD 3 bi_kd) [[], [3114], []] [] = true := by decide +kernel
theorem bo_X9_onOffer_4 : bi_okkB bt_M bt_P 186 ((yX9_onOffer, cX9_onOffer, 4, none, RX9, 5, 117, [])) (bt_X9_onOffer.getD 4 bi_kd) [[], [], [], [], [3114], [4025, 1001, 4022, 4024, 18]] [] = true := by decide +kernel
theorem bo_X9_onOffer_5 : bi_okkB bt_M bt_P 186 ((yX9_onOffer, cX9_onOffer, 4, none, RX9, 5, 117, [])) (bt_X9_onOffer.getD 5 bi_kd) [[], [3110]] [] = true := by decide +kernel
theorem bo_X9_onOffer_6 : bi_okkB bt_M bt_P 186 ((yX9_onOffer, cX9_onOffer, 4, none, RX9, 5, 117, [])) (bt_X9_onOffer.getD 6 bi_kd) [[], [3110], []] [] = true := by decide +kernel
theorem bo_X9_onOffer_7 : bi_okkB bt_M bt_P 186 ((yX9_onOffer, cX9_onOffer, 4, none, RX9, 5, 117, [])) (bt_X9_onOffer.getD 7 bi_kd) [[], [], [], [], [4025, 1001, 4022, 4024, 18]] [] = true := by decide +kernel
theorem bo_X9_onOffer_8 : bi_okkB bt_M bt_P 186 ((yX9_onOffer, cX9_onOffer, 4, none, RX9, 5, 117, [])) (bt_X9_onOffer.getD 8 bi_kd) [[], [2050], [], [3110], [], [3114], [4043, 1011, 4040, 4041, 4042]] [] = true := by decide +kernel
theorem bo_X9_onOffer_9 : bi_okkB bt_M bt_P 186 ((yX9_onOffer, cX9_onOffer, 4, none, RX9, 5, 117, [])) (bt_X9_onOffer.getD 9 bi_kd) [[], [2046], [2183, 1003, 2204, 2181, 2182]] [] = true := by decide +kernel
theorem bo_X9_onOffer_10 : bi_okkB bt_M bt_P 186 ((yX9_onOffer, cX9_onOffer, 4, none, RX9, 5, 117, [])) (bt_X9_onOffer.getD 10 bi_kd) [] [] = true := by decide +kernel
theorem bo_X9_onOffer_11 : bi_okkB bt_M bt_P 186 ((yX9_onOffer, cX9_onOffer, 4, none, RX9, 5, 117, [])) (bt_X9_onOffer.getD 11 bi_kd) [[], [2050], [], [4047, 1011, 4044, 4045, 4046]] [] = true := by decide +kernel
theorem bo_X9_onOffer_12 : bi_okkB bt_M bt_P 186 ((yX9_onOffer, cX9_onOffer, 4, none, RX9, 5, 117, [])) (bt_X9_onOffer.getD 12 bi_kd) [[], [2050], [4052, 1011, 4049, 4050, 4051]] [] = true := by decide +kernel
theorem bo_X9_onOffer_13 : bi_okkB bt_M bt_P 186 ((yX9_onOffer, cX9_onOffer, 4, none, RX9, 5, 117, [])) (bt_X9_onOffer.getD 13 bi_kd) [[], [], [4056, 1001, 4053, 4055, 20]] [] = true := by decide +kernel
theorem bo_X9_onOffer_14 : bi_okkB bt_M bt_P 186 ((yX9_onOffer, cX9_onOffer, 4, none, RX9, 5, 117, [])) (bt_X9_onOffer.getD 14 bi_kd) [[], [], [], [4071, 1001, 4068, 4070, 22]] [] = true := by decide +kernel
theorem bo_X9_onOffer_15 : bi_okkB bt_M bt_P 186 ((yX9_onOffer, cX9_onOffer, 4, none, RX9, 5, 117, [])) (bt_X9_onOffer.getD 15 bi_kd) [] [] = true := by decide +kernel
theorem bm_X9_onOffer : ∀ b k, bt_P 186 b = some k → bi_okk bt_M bt_P 186 ((yX9_onOffer, cX9_onOffer, 4, none, RX9, 5, 117, [])) k := fun b k h => bi_allk (show bt_X9_onOffer[b]? = some k from h) (fun b hb => match b, hb with
  | 0, _ => bi_okkB_ok bo_X9_onOffer_0
  | 1, _ => bi_okkB_ok bo_X9_onOffer_1
  | 2, _ => bi_okkB_ok bo_X9_onOffer_2
  | 3, _ => bi_okkB_ok bo_X9_onOffer_3
  | 4, _ => bi_okkB_ok bo_X9_onOffer_4
  | 5, _ => bi_okkB_ok bo_X9_onOffer_5
  | 6, _ => bi_okkB_ok bo_X9_onOffer_6
  | 7, _ => bi_okkB_ok bo_X9_onOffer_7
  | 8, _ => bi_okkB_ok bo_X9_onOffer_8
  | 9, _ => bi_okkB_ok bo_X9_onOffer_9
  | 10, _ => bi_okkB_ok bo_X9_onOffer_10
  | 11, _ => bi_okkB_ok bo_X9_onOffer_11
  | 12, _ => bi_okkB_ok bo_X9_onOffer_12
  | 13, _ => bi_okkB_ok bo_X9_onOffer_13
  | 14, _ => bi_okkB_ok bo_X9_onOffer_14
  | 15, _ => bi_okkB_ok bo_X9_onOffer_15
  | b + 16, hb => absurd hb (by show ¬ b + 16 < 16; omega))
theorem bo_X9_pass : bi_oksB bt_M bt_P 187 ((yX9_pass, cX9_pass, 4, (some .int), RX9, 7, 162, [])) bt_X9_pass [([[], [1142], [], [4013, 1006, 4010, 4011, 4012], [], []], []), ([[]], []), ([[], []], []), ([[]], []), ([[], []], []), ([[], [1142], [], [4017, 1006, 4014, 4015, 4016]], []), ([[]], []), ([[], [], [4021, 1001, 4018, 4020, 17]], []), ([[]], [])] = true := by decide +kernel
theorem bm_X9_pass : ∀ b k, bt_P 187 b = some k → bi_okk bt_M bt_P 187 ((yX9_pass, cX9_pass, 4, (some .int), RX9, 7, 162, [])) k := fun b k h => bi_oksB_ok _ _ bo_X9_pass k (List.mem_of_getElem? (show bt_X9_pass[b]? = some k from h))
theorem bo_X9_period : bi_oksB bt_M bt_P 188 ((yX9_period, cX9_period, 2, (some .boolean), RX9, 1, 20, [])) bt_X9_period [([[]], []), ([[], []], []), ([[]], []), ([[], [], [1145], []], [])] = true := by decide +kernel
theorem bm_X9_period : ∀ b k, bt_P 188 b = some k → bi_okk bt_M bt_P 188 ((yX9_period, cX9_period, 2, (some .boolean), RX9, 1, 20, [])) k := fun b k h => bi_oksB_ok _ _ bo_X9_period k (List.mem_of_getElem? (show bt_X9_period[b]? = some k from h))
theorem bo_X9_power : bi_oksB bt_M bt_P 189 ((yX9_power, cX9_power, 3, (some .boolean), RX9, 1, 20, [])) bt_X9_power [([[]], []), ([[], []], []), ([[], []], []), ([[], [3223]], []), ([[]], []), ([[], [1139], [], [], [], [1050], []], [])] = true := by decide +kernel
theorem bm_X9_power : ∀ b k, bt_P 189 b = some k → bi_okk bt_M bt_P 189 ((yX9_power, cX9_power, 3, (some .boolean), RX9, 1, 20, [])) k := fun b k h => bi_oksB_ok _ _ bo_X9_power k (List.mem_of_getElem? (show bt_X9_power[b]? = some k from h))
theorem bo_X9_read : bi_oksB bt_M bt_P 190 ((yX9_read, cX9_read, 5, (some .int), RX9, 6, 90, [])) bt_X9_read [([[], [], [2132, 1001, 2129, 2131, 0], [], []], []), ([[], [2048], [], [], [2136, 1010, 2133, 2134, 2135]], []), ([], []), ([[], [2046], [1046]], []), ([], []), ([[], [2048], [], [], [2139, 1001, 2137, 2138], [5025, 1010, 5022, 5023, 5024]], [])] = true := by decide +kernel
theorem bm_X9_read : ∀ b k, bt_P 190 b = some k → bi_okk bt_M bt_P 190 ((yX9_read, cX9_read, 5, (some .int), RX9, 6, 90, [])) k := fun b k h => bi_oksB_ok _ _ bo_X9_read k (List.mem_of_getElem? (show bt_X9_read[b]? = some k from h))
theorem bo_X9_receive_0 : bi_okkB bt_M bt_P 191 ((yX9_receive, cX9_receive, 3, none, RX9, 6, 140, [])) (bt_X9_receive.getD 0 bi_kd) [[], [], [3104], [], [], [], [], [2132, 1001, 2129, 2131, 0], [], []] [] = true := by decide +kernel
theorem bo_X9_receive_1 : bi_okkB bt_M bt_P 191 ((yX9_receive, cX9_receive, 3, none, RX9, 6, 140, [])) (bt_X9_receive.getD 1 bi_kd) [[], [2046], [1046]] [] = true := by decide +kernel
theorem bo_X9_receive_2 : bi_okkB bt_M bt_P 191 ((yX9_receive, cX9_receive, 3, none, RX9, 6, 140, [])) (bt_X9_receive.getD 2 bi_kd) [] [] = true := by decide +kernel
theorem bo_X9_receive_3 : bi_okkB bt_M bt_P 191 ((yX9_receive, cX9_receive, 3, none, RX9, 6, 140, [])) (bt_X9_receive.getD 3 bi_kd) [[], [3106], [], [2059]] [] = true := by decide +kernel
theorem bo_X9_receive_4 : bi_okkB bt_M bt_P 191 ((yX9_receive, cX9_receive, 3, none, RX9, 6, 140, [])) (bt_X9_receive.getD 4 bi_kd) [[], [3102], []] [] = true := by decide +kernel
theorem bo_X9_receive_5 : bi_okkB bt_M bt_P 191 ((yX9_receive, cX9_receive, 3, none, RX9, 6, 140, [])) (bt_X9_receive.getD 5 bi_kd) [[], [3102], []] [] = true := by decide +kernel
theorem bo_X9_receive_6 : bi_okkB bt_M bt_P 191 ((yX9_receive, cX9_receive, 3, none, RX9, 6, 140, [])) (bt_X9_receive.getD 6 bi_kd) [[], [3102], []] [] = true := by decide +kernel
theorem bo_X9_receive_7 : bi_okkB bt_M bt_P 191 ((yX9_receive, cX9_receive, 3, none, RX9, 6, 140, [])) (bt_X9_receive.getD 7 bi_kd) [[], [], [], [], [4025, 1001, 4022, 4024, 18]] [] = true := by decide +kernel
theorem bo_X9_receive_8 : bi_okkB bt_M bt_P 191 ((yX9_receive, cX9_receive, 3, none, RX9, 6, 140, [])) (bt_X9_receive.getD 8 bi_kd) [] [] = true := by decide +kernel
theorem bo_X9_receive_9 : bi_okkB bt_M bt_P 191 ((yX9_receive, cX9_receive, 3, none, RX9, 6, 140, [])) (bt_X9_receive.getD 9 bi_kd) [[], [3106], [], [2059]] [] = true := by decide +kernel
theorem bo_X9_receive_10 : bi_okkB bt_M bt_P 191 ((yX9_receive, cX9_receive, 3, none, RX9, 6, 140, [])) (bt_X9_receive.getD 10 bi_kd) [[], [2046], [2183, 1003, 2204, 2181, 2182]] [] = true := by decide +kernel
theorem bo_X9_receive_11 : bi_okkB bt_M bt_P 191 ((yX9_receive, cX9_receive, 3, none, RX9, 6, 140, [])) (bt_X9_receive.getD 11 bi_kd) [] [] = true := by decide +kernel
theorem bo_X9_receive_12 : bi_okkB bt_M bt_P 191 ((yX9_receive, cX9_receive, 3, none, RX9, 6, 140, [])) (bt_X9_receive.getD 12 bi_kd) [[], [], [3106], [4029, 1009, 4026, 4027, 4028]] [] = true := by decide +kernel
theorem bo_X9_receive_13 : bi_okkB bt_M bt_P 191 ((yX9_receive, cX9_receive, 3, none, RX9, 6, 140, [])) (bt_X9_receive.getD 13 bi_kd) [[], [3102]] [] = true := by decide +kernel
theorem bo_X9_receive_14 : bi_okkB bt_M bt_P 191 ((yX9_receive, cX9_receive, 3, none, RX9, 6, 140, [])) (bt_X9_receive.getD 14 bi_kd) [[], [], [], [4039, 1001, 4036, 4038, 19]] [] = true := by decide +kernel
theorem bo_X9_receive_15 : bi_okkB bt_M bt_P 191 ((yX9_receive, cX9_receive, 3, none, RX9, 6, 140, [])) (bt_X9_receive.getD 15 bi_kd) [[], [], [], [4075, 1001, 4072, 4074, 23]] [] = true := by decide +kernel
theorem bo_X9_receive_16 : bi_okkB bt_M bt_P 191 ((yX9_receive, cX9_receive, 3, none, RX9, 6, 140, [])) (bt_X9_receive.getD 16 bi_kd) [[], [], [], [4095, 1001, 4092, 4094, 26]] [] = true := by decide +kernel
theorem bo_X9_receive_17 : bi_okkB bt_M bt_P 191 ((yX9_receive, cX9_receive, 3, none, RX9, 6, 140, [])) (bt_X9_receive.getD 17 bi_kd) [[], [], [], [4107, 1001, 4104, 4106, 27]] [] = true := by decide +kernel
theorem bo_X9_receive_18 : bi_okkB bt_M bt_P 191 ((yX9_receive, cX9_receive, 3, none, RX9, 6, 140, [])) (bt_X9_receive.getD 18 bi_kd) [[], [], [], [4111, 1001, 4108, 4110, 28]] [] = true := by decide +kernel
theorem bo_X9_receive_19 : bi_okkB bt_M bt_P 191 ((yX9_receive, cX9_receive, 3, none, RX9, 6, 140, [])) (bt_X9_receive.getD 19 bi_kd) [[], [], [], [4115, 1001, 4112, 4114, 29]] [] = true := by decide +kernel
theorem bo_X9_receive_20 : bi_okkB bt_M bt_P 191 ((yX9_receive, cX9_receive, 3, none, RX9, 6, 140, [])) (bt_X9_receive.getD 20 bi_kd) [[], [], [], [4120, 1001, 4117, 4119, 30]] [] = true := by decide +kernel
theorem bo_X9_receive_21 : bi_okkB bt_M bt_P 191 ((yX9_receive, cX9_receive, 3, none, RX9, 6, 140, [])) (bt_X9_receive.getD 21 bi_kd) [[], [], [], [4124, 1001, 4121, 4123, 31]] [] = true := by decide +kernel
theorem bo_X9_receive_22 : bi_okkB bt_M bt_P 191 ((yX9_receive, cX9_receive, 3, none, RX9, 6, 140, [])) (bt_X9_receive.getD 22 bi_kd) [[], [], [], [4128, 1001, 4125, 4127, 32]] [] = true := by decide +kernel
theorem bo_X9_receive_23 : bi_okkB bt_M bt_P 191 ((yX9_receive, cX9_receive, 3, none, RX9, 6, 140, [])) (bt_X9_receive.getD 23 bi_kd) [] [] = true := by decide +kernel
theorem bm_X9_receive : ∀ b k, bt_P 191 b = some k → bi_okk bt_M bt_P 191 ((yX9_receive, cX9_receive, 3, none, RX9, 6, 140, [])) k := fun b k h => bi_allk (show bt_X9_receive[b]? = some k from h) (fun b hb => match b, hb with
  | 0, _ => bi_okkB_ok bo_X9_receive_0
  | 1, _ => bi_okkB_ok bo_X9_receive_1
  | 2, _ => bi_okkB_ok bo_X9_receive_2
  | 3, _ => bi_okkB_ok bo_X9_receive_3
  | 4, _ => bi_okkB_ok bo_X9_receive_4
  | 5, _ => bi_okkB_ok bo_X9_receive_5
  | 6, _ => bi_okkB_ok bo_X9_receive_6
  | 7, _ => bi_okkB_ok bo_X9_receive_7
  | 8, _ => bi_okkB_ok bo_X9_receive_8
  | 9, _ => bi_okkB_ok bo_X9_receive_9
  | 10, _ => bi_okkB_ok bo_X9_receive_10
  | 11, _ => bi_okkB_ok bo_X9_receive_11
  | 12, _ => bi_okkB_ok bo_X9_receive_12
  | 13, _ => bi_okkB_ok bo_X9_receive_13
  | 14, _ => bi_okkB_ok bo_X9_receive_14
  | 15, _ => bi_okkB_ok bo_X9_receive_15
  | 16, _ => bi_okkB_ok bo_X9_receive_16
  | 17, _ => bi_okkB_ok bo_X9_receive_17
  | 18, _ => bi_okkB_ok bo_X9_receive_18
  | 19, _ => bi_okkB_ok bo_X9_receive_19
  | 20, _ => bi_okkB_ok bo_X9_receive_20
  | 21, _ => bi_okkB_ok bo_X9_receive_21
  | 22, _ => bi_okkB_ok bo_X9_receive_22
  | 23, _ => bi_okkB_ok bo_X9_receive_23
  | b + 24, hb => absurd hb (by show ¬ b + 24 < 24; omega))
theorem bo_X9_refusalOf : bi_oksB bt_M bt_P 192 ((yX9_refusalOf, cX9_refusalOf, 2, (some .int), RX9, 1, 20, [])) bt_X9_refusalOf [([[]], []), ([[]], []), ([[], [2046], [1046]], []), ([[]], []), ([[], [2056], []], []), ([[]], []), ([[]], []), ([], [])] = true := by decide +kernel
theorem bm_X9_refusalOf : ∀ b k, bt_P 192 b = some k → bi_okk bt_M bt_P 192 ((yX9_refusalOf, cX9_refusalOf, 2, (some .int), RX9, 1, 20, [])) k := fun b k h => bi_oksB_ok _ _ bo_X9_refusalOf k (List.mem_of_getElem? (show bt_X9_refusalOf[b]? = some k from h))
theorem bo_X9_send : bi_oksB bt_M bt_P 193 ((yX9_send, cX9_send, 4, none, RX9, 2, 44, [])) bt_X9_send [([[], [1142], [3095, 3096, 1016], [], [], [], [], [], [3099, 1016, 3097, 3098], [3144, 1006, 3141, 3142, 3143]], [])] = true := by decide +kernel
theorem bm_X9_send : ∀ b k, bt_P 193 b = some k → bi_okk bt_M bt_P 193 ((yX9_send, cX9_send, 4, none, RX9, 2, 44, [])) k := fun b k h => bi_oksB_ok _ _ bo_X9_send k (List.mem_of_getElem? (show bt_X9_send[b]? = some k from h))
theorem bo_X9_sendData_0 : bi_okkB bt_M bt_P 194 ((yX9_sendData, cX9_sendData, 9, none, RX9, 2, 44, [])) (bt_X9_sendData.getD 0 bi_kd) [[3095, 3096, 1016], [], [], [], [], [2073], [], [2065], [3099, 1016, 3097, 3098], [], [], [], [3116], [], [], [], [], [], [], [], [2052], [2033], [], [], [1032, 1002, 1030, 1031], [1035, 1002, 1033, 1034], [], [], [], [], [], [1082], [3121], [], []] [] = true := by decide +kernel
theorem bo_X9_sendData_1 : bi_okkB bt_M bt_P 194 ((yX9_sendData, cX9_sendData, 9, none, RX9, 2, 44, [])) (bt_X9_sendData.getD 1 bi_kd) [[], []] [] = true := by decide +kernel
theorem bo_X9_sendData_2 : bi_okkB bt_M bt_P 194 ((yX9_sendData, cX9_sendData, 9, none, RX9, 2, 44, [])) (bt_X9_sendData.getD 2 bi_kd) [[], [2052], [2031], [], [], [], [], [], [], []] [] = true := by decide +kernel
theorem bo_X9_sendData_3 : bi_okkB bt_M bt_P 194 ((yX9_sendData, cX9_sendData, 9, none, RX9, 2, 44, [])) (bt_X9_sendData.getD 3 bi_kd) [[], []] [] = true := by decide +kernel
theorem bo_X9_sendData_4 : bi_okkB bt_M bt_P 194 ((yX9_sendData, cX9_sendData, 9, none, RX9, 2, 44, [])) (bt_X9_sendData.getD 4 bi_kd) [[], [3121], [], [], [], [], [], [], [1141], [], [], [4091, 1004, 4088, 4089, 4090], [], []] [] = true := by decide +kernel
theorem bo_X9_sendData_5 : bi_okkB bt_M bt_P 194 ((yX9_sendData, cX9_sendData, 9, none, RX9, 2, 44, [])) (bt_X9_sendData.getD 5 bi_kd) [[]] [] = true := by decide +kernel
theorem bo_X9_sendData_6 : bi_okkB bt_M bt_P 194 ((yX9_sendData, cX9_sendData, 9, none, RX9, 2, 44, [])) (bt_X9_sendData.getD 6 bi_kd) [[], [1142], [], [3144, 1006, 3141, 3142, 3143]] [] = true := by decide +kernel
theorem bm_X9_sendData : ∀ b k, bt_P 194 b = some k → bi_okk bt_M bt_P 194 ((yX9_sendData, cX9_sendData, 9, none, RX9, 2, 44, [])) k := fun b k h => bi_allk (show bt_X9_sendData[b]? = some k from h) (fun b hb => match b, hb with
  | 0, _ => bi_okkB_ok bo_X9_sendData_0
  | 1, _ => bi_okkB_ok bo_X9_sendData_1
  | 2, _ => bi_okkB_ok bo_X9_sendData_2
  | 3, _ => bi_okkB_ok bo_X9_sendData_3
  | 4, _ => bi_okkB_ok bo_X9_sendData_4
  | 5, _ => bi_okkB_ok bo_X9_sendData_5
  | 6, _ => bi_okkB_ok bo_X9_sendData_6
  | b + 7, hb => absurd hb (by show ¬ b + 7 < 7; omega))
theorem bo_X9_sendForward : bi_oksB bt_M bt_P 195 ((yX9_sendForward, cX9_sendForward, 2, none, RX9, 5, 117, [])) bt_X9_sendForward [([[], [2065]], []), ([[], [3168, 1009, 3165, 3166, 3167]], []), ([[], [], [3172, 1001, 3169, 3171, 12]], []), ([[], [2048], [3045, 1010, 3054, 3043, 3044], [], [2063]], []), ([[], [2046], [2183, 1003, 2204, 2181, 2182]], []), ([[], [], [2048], [3045, 1010, 3054, 3043, 3044], [2065], [], [], [2063], [2073], [], [], [3172, 1001, 3169, 3171, 12]], []), ([[], [2056], []], []), ([[], [], [3214, 1001, 3211, 3213, 14]], []), ([], [])] = true := by decide +kernel
theorem bm_X9_sendForward : ∀ b k, bt_P 195 b = some k → bi_okk bt_M bt_P 195 ((yX9_sendForward, cX9_sendForward, 2, none, RX9, 5, 117, [])) k := fun b k h => bi_oksB_ok _ _ bo_X9_sendForward k (List.mem_of_getElem? (show bt_X9_sendForward[b]? = some k from h))
theorem bo_X9_sendGive : bi_oksB bt_M bt_P 196 ((yX9_sendGive, cX9_sendGive, 3, none, RX9, 2, 44, [])) bt_X9_sendGive [([[], [], [2081], [3095, 3096, 1016], [], [], [], [], [], [2048], [3045, 1010, 3054, 3043, 3044], [3099, 1016, 3097, 3098], [], [], [], [2070], [3116], [], [1142], [], [3144, 1006, 3141, 3142, 3143]], [])] = true := by decide +kernel
theorem bm_X9_sendGive : ∀ b k, bt_P 196 b = some k → bi_okk bt_M bt_P 196 ((yX9_sendGive, cX9_sendGive, 3, none, RX9, 2, 44, [])) k := fun b k h => bi_oksB_ok _ _ bo_X9_sendGive k (List.mem_of_getElem? (show bt_X9_sendGive[b]? = some k from h))
theorem bo_X9_sendHello : bi_oksB bt_M bt_P 197 ((yX9_sendHello, cX9_sendHello, 5, none, RX9, 2, 44, [])) bt_X9_sendHello [([[], [], [2081], [3095, 3096, 1016], [], [], [], [], [], [3099, 1016, 3097, 3098], [], [], [2048], [1196], [], [], [], [], [], [1082], [3121], [], []], []), ([[], []], []), ([[], [3121], [], [], [], [], [2048], [1191], [], [], [], [], [], [], [], []], []), ([[], [1142], [], [3144, 1006, 3141, 3142, 3143]], [])] = true := by decide +kernel
theorem bm_X9_sendHello : ∀ b k, bt_P 197 b = some k → bi_okk bt_M bt_P 197 ((yX9_sendHello, cX9_sendHello, 5, none, RX9, 2, 44, [])) k := fun b k h => bi_oksB_ok _ _ bo_X9_sendHello k (List.mem_of_getElem? (show bt_X9_sendHello[b]? = some k from h))
end
section
/-! the tables are as the code has them -/
theorem bo_X9_sendOffer : bi_oksB bt_M bt_P 198 ((yX9_sendOffer, cX9_sendOffer, 4, none, RX9, 4, 94, [])) bt_X9_sendOffer [([[], [], [2075], [], [], [2081], [], [2048], [], [2065], [3176, 1010, 3173, 3174, 3175], [], [], [1141], [], [2052], [], [], [2048], [], [2073], [3184, 1010, 3181, 3182, 3183], [3189, 1004, 3186, 3187, 3188], [3095, 3096, 1016], [], [], [], [], [2073], [], [2065], [3099, 1016, 3097, 3098], [], [], [], [2052], [2033], [3116], [], [], [1141], [1095], [], [], [3117], [], [], [3119], [], [1142], [], [3144, 1006, 3141, 3142, 3143]], [])] = true := by decide +kernel
theorem bm_X9_sendOffer : ∀ b k, bt_P 198 b = some k → bi_okk bt_M bt_P 198 ((yX9_sendOffer, cX9_sendOffer, 4, none, RX9, 4, 94, [])) k := fun b k h => bi_oksB_ok _ _ bo_X9_sendOffer k (List.mem_of_getElem? (show bt_X9_sendOffer[b]? = some k from h))
theorem bo_X9_sendOn : bi_oksB bt_M bt_P 199 ((yX9_sendOn, cX9_sendOn, 4, none, RX9, 4, 94, [])) bt_X9_sendOn [([[], [1141], [], [2052], [], [2048], [], [2065], [3176, 1010, 3173, 3174, 3175], [], [2048], [], [2073], [3184, 1010, 3181, 3182, 3183], [3189, 1004, 3186, 3187, 3188], [], [2077], [], [1138], [], [], [2052], [2033], [], [], [], [], [], [], [1032, 1002, 1030, 1031], [], [], [2079], []], []), ([[], []], []), ([[], [], [], [4087, 1001, 4084, 4086, 25], [], [], [2079], [], [], [2079], []], []), ([], [])] = true := by decide +kernel
theorem bm_X9_sendOn : ∀ b k, bt_P 199 b = some k → bi_okk bt_M bt_P 199 ((yX9_sendOn, cX9_sendOn, 4, none, RX9, 4, 94, [])) k := fun b k h => bi_oksB_ok _ _ bo_X9_sendOn k (List.mem_of_getElem? (show bt_X9_sendOn[b]? = some k from h))
theorem bo_X9_sendProgress : bi_oksB bt_M bt_P 200 ((yX9_sendProgress, cX9_sendProgress, 4, none, RX9, 2, 44, [])) bt_X9_sendProgress [([[3095, 3096, 1016], [], [], [], [], [2050], [1233], [], [2050], [1235], [3099, 1016, 3097, 3098], [], [], [], [2050], [2000], [3116], [], [1142], [], [3144, 1006, 3141, 3142, 3143]], [])] = true := by decide +kernel
theorem bm_X9_sendProgress : ∀ b k, bt_P 200 b = some k → bi_okk bt_M bt_P 200 ((yX9_sendProgress, cX9_sendProgress, 4, none, RX9, 2, 44, [])) k := fun b k h => bi_oksB_ok _ _ bo_X9_sendProgress k (List.mem_of_getElem? (show bt_X9_sendProgress[b]? = some k from h))
theorem bo_X9_snap : bi_oksB bt_M bt_P 201 ((yX9_snap, cX9_snap, 5, (some .int), RX9, 2, 41, [])) bt_X9_snap [([[], [], [2132, 1001, 2129, 2131, 0], [], []], []), ([[], [2048], [], [4149, 1010, 4146, 4147, 4148]], []), ([[]], []), ([[], []], []), ([[]], []), ([[]], []), ([[], [2048], [1191], [], []], []), ([[], [2048], [], [3053, 1010, 4150, 3051, 3052]], []), ([], [])] = true := by decide +kernel
theorem bm_X9_snap : ∀ b k, bt_P 201 b = some k → bi_okk bt_M bt_P 201 ((yX9_snap, cX9_snap, 5, (some .int), RX9, 2, 41, [])) k := fun b k h => bi_oksB_ok _ _ bo_X9_snap k (List.mem_of_getElem? (show bt_X9_snap[b]? = some k from h))
theorem bo_X9_snapshot : bi_oksB bt_M bt_P 202 ((yX9_snapshot, cX9_snapshot, 4, (some .int), RX9, 6, 125, [])) bt_X9_snapshot [([[], [], [2132, 1001, 2129, 2131, 0], [], [], [], [2146, 1001, 2144, 2145], [], []], []), ([[]], []), ([[], [2048], [3025, 1010, 3022, 3023, 3024]], []), ([[]], []), ([[], [2060], []], []), ([[]], []), ([[], [], [3029, 1001, 3026, 3028, 7]], []), ([[], [2048], [3045, 1010, 3054, 3043, 3044]], []), ([[]], []), ([], [])] = true := by decide +kernel
theorem bm_X9_snapshot : ∀ b k, bt_P 202 b = some k → bi_okk bt_M bt_P 202 ((yX9_snapshot, cX9_snapshot, 4, (some .int), RX9, 6, 125, [])) k := fun b k h => bi_oksB_ok _ _ bo_X9_snapshot k (List.mem_of_getElem? (show bt_X9_snapshot[b]? = some k from h))
theorem bo_X9_spotOf : bi_oksB bt_M bt_P 203 ((yX9_spotOf, cX9_spotOf, 2, (some .int), RX9, 1, 20, [])) bt_X9_spotOf [([[], [], [], [], []], [])] = true := by decide +kernel
theorem bm_X9_spotOf : ∀ b k, bt_P 203 b = some k → bi_okk bt_M bt_P 203 ((yX9_spotOf, cX9_spotOf, 2, (some .int), RX9, 1, 20, [])) k := fun b k h => bi_oksB_ok _ _ bo_X9_spotOf k (List.mem_of_getElem? (show bt_X9_spotOf[b]? = some k from h))
theorem bo_X9_state_0 : bi_okkB bt_M bt_P 204 ((yX9_state, cX9_state, 4, (some .int), RX9, 2, 41, [])) (bt_X9_state.getD 0 bi_kd) [[], [], [2132, 1001, 2129, 2131, 0], [], []] [] = true := by decide +kernel
theorem bo_X9_state_1 : bi_okkB bt_M bt_P 204 ((yX9_state, cX9_state, 4, (some .int), RX9, 2, 41, [])) (bt_X9_state.getD 1 bi_kd) [[]] [] = true := by decide +kernel
theorem bo_X9_state_2 : bi_okkB bt_M bt_P 204 ((yX9_state, cX9_state, 4, (some .int), RX9, 2, 41, [])) (bt_X9_state.getD 2 bi_kd) [[]] [] = true := by decide +kernel
theorem bo_X9_state_3 : bi_okkB bt_M bt_P 204 ((yX9_state, cX9_state, 4, (some .int), RX9, 2, 41, [])) (bt_X9_state.getD 3 bi_kd) [[], [2056]] [] = true := by decide +kernel
theorem bo_X9_state_4 : bi_okkB bt_M bt_P 204 ((yX9_state, cX9_state, 4, (some .int), RX9, 2, 41, [])) (bt_X9_state.getD 4 bi_kd) [[], [2059]] [] = true := by decide +kernel
theorem bo_X9_state_5 : bi_okkB bt_M bt_P 204 ((yX9_state, cX9_state, 4, (some .int), RX9, 2, 41, [])) (bt_X9_state.getD 5 bi_kd) [[], [1141], [1095], [], [2048], [1184], []] [] = true := by decide +kernel
theorem bo_X9_state_6 : bi_okkB bt_M bt_P 204 ((yX9_state, cX9_state, 4, (some .int), RX9, 2, 41, [])) (bt_X9_state.getD 6 bi_kd) [[], [1141], [1095], [], [2048], [1186], []] [] = true := by decide +kernel
theorem bo_X9_state_7 : bi_okkB bt_M bt_P 204 ((yX9_state, cX9_state, 4, (some .int), RX9, 2, 41, [])) (bt_X9_state.getD 7 bi_kd) [[], [1141], [1095], [], [2048], [1188], []] [] = true := by decide +kernel
theorem bo_X9_state_8 : bi_okkB bt_M bt_P 204 ((yX9_state, cX9_state, 4, (some .int), RX9, 2, 41, [])) (bt_X9_state.getD 8 bi_kd) [[], [2048], [1196]] [] = true := by decide +kernel
theorem bo_X9_state_9 : bi_okkB bt_M bt_P 204 ((yX9_state, cX9_state, 4, (some .int), RX9, 2, 41, [])) (bt_X9_state.getD 9 bi_kd) [[], [2048], [3045, 1010, 3054, 3043, 3044]] [] = true := by decide +kernel
theorem bo_X9_state_10 : bi_okkB bt_M bt_P 204 ((yX9_state, cX9_state, 4, (some .int), RX9, 2, 41, [])) (bt_X9_state.getD 10 bi_kd) [[], [2063]] [] = true := by decide +kernel
theorem bo_X9_state_11 : bi_okkB bt_M bt_P 204 ((yX9_state, cX9_state, 4, (some .int), RX9, 2, 41, [])) (bt_X9_state.getD 11 bi_kd) [[], [2065]] [] = true := by decide +kernel
theorem bo_X9_state_12 : bi_okkB bt_M bt_P 204 ((yX9_state, cX9_state, 4, (some .int), RX9, 2, 41, [])) (bt_X9_state.getD 12 bi_kd) [[], [2067]] [] = true := by decide +kernel
theorem bo_X9_state_13 : bi_okkB bt_M bt_P 204 ((yX9_state, cX9_state, 4, (some .int), RX9, 2, 41, [])) (bt_X9_state.getD 13 bi_kd) [[], [2069]] [] = true := by decide +kernel
theorem bo_X9_state_14 : bi_okkB bt_M bt_P 204 ((yX9_state, cX9_state, 4, (some .int), RX9, 2, 41, [])) (bt_X9_state.getD 14 bi_kd) [[], [2070]] [] = true := by decide +kernel
theorem bo_X9_state_15 : bi_okkB bt_M bt_P 204 ((yX9_state, cX9_state, 4, (some .int), RX9, 2, 41, [])) (bt_X9_state.getD 15 bi_kd) [[], [2073]] [] = true := by decide +kernel
theorem bo_X9_state_16 : bi_okkB bt_M bt_P 204 ((yX9_state, cX9_state, 4, (some .int), RX9, 2, 41, [])) (bt_X9_state.getD 16 bi_kd) [[], [2075]] [] = true := by decide +kernel
theorem bo_X9_state_17 : bi_okkB bt_M bt_P 204 ((yX9_state, cX9_state, 4, (some .int), RX9, 2, 41, [])) (bt_X9_state.getD 17 bi_kd) [[], [2077]] [] = true := by decide +kernel
theorem bo_X9_state_18 : bi_okkB bt_M bt_P 204 ((yX9_state, cX9_state, 4, (some .int), RX9, 2, 41, [])) (bt_X9_state.getD 18 bi_kd) [[], [2079]] [] = true := by decide +kernel
theorem bo_X9_state_19 : bi_okkB bt_M bt_P 204 ((yX9_state, cX9_state, 4, (some .int), RX9, 2, 41, [])) (bt_X9_state.getD 19 bi_kd) [[], [2081]] [] = true := by decide +kernel
theorem bo_X9_state_20 : bi_okkB bt_M bt_P 204 ((yX9_state, cX9_state, 4, (some .int), RX9, 2, 41, [])) (bt_X9_state.getD 20 bi_kd) [[], [2082]] [] = true := by decide +kernel
theorem bo_X9_state_21 : bi_okkB bt_M bt_P 204 ((yX9_state, cX9_state, 4, (some .int), RX9, 2, 41, [])) (bt_X9_state.getD 21 bi_kd) [[]] [] = true := by decide +kernel
theorem bo_X9_state_22 : bi_okkB bt_M bt_P 204 ((yX9_state, cX9_state, 4, (some .int), RX9, 2, 41, [])) (bt_X9_state.getD 22 bi_kd) [[]] [] = true := by decide +kernel
theorem bo_X9_state_23 : bi_okkB bt_M bt_P 204 ((yX9_state, cX9_state, 4, (some .int), RX9, 2, 41, [])) (bt_X9_state.getD 23 bi_kd) [] [] = true := by decide +kernel
theorem bo_X9_state_24 : bi_okkB bt_M bt_P 204 ((yX9_state, cX9_state, 4, (some .int), RX9, 2, 41, [])) (bt_X9_state.getD 24 bi_kd) [[], [2050], [2000]] [] = true := by decide +kernel
theorem bo_X9_state_25 : bi_okkB bt_M bt_P 204 ((yX9_state, cX9_state, 4, (some .int), RX9, 2, 41, [])) (bt_X9_state.getD 25 bi_kd) [[], [2050], [2003]] [] = true := by decide +kernel
theorem bo_X9_state_26 : bi_okkB bt_M bt_P 204 ((yX9_state, cX9_state, 4, (some .int), RX9, 2, 41, [])) (bt_X9_state.getD 26 bi_kd) [[], [2050], [1235]] [] = true := by decide +kernel
theorem bo_X9_state_27 : bi_okkB bt_M bt_P 204 ((yX9_state, cX9_state, 4, (some .int), RX9, 2, 41, [])) (bt_X9_state.getD 27 bi_kd) [[], [2050], [2004]] [] = true := by decide +kernel
theorem bo_X9_state_28 : bi_okkB bt_M bt_P 204 ((yX9_state, cX9_state, 4, (some .int), RX9, 2, 41, [])) (bt_X9_state.getD 28 bi_kd) [[], [2054], [2033]] [] = true := by decide +kernel
theorem bo_X9_state_29 : bi_okkB bt_M bt_P 204 ((yX9_state, cX9_state, 4, (some .int), RX9, 2, 41, [])) (bt_X9_state.getD 29 bi_kd) [[], [2217, 1009, 2214, 2215, 2216]] [] = true := by decide +kernel
theorem bo_X9_state_30 : bi_okkB bt_M bt_P 204 ((yX9_state, cX9_state, 4, (some .int), RX9, 2, 41, [])) (bt_X9_state.getD 30 bi_kd) [[], [2060]] [] = true := by decide +kernel
theorem bo_X9_state_31 : bi_okkB bt_M bt_P 204 ((yX9_state, cX9_state, 4, (some .int), RX9, 2, 41, [])) (bt_X9_state.getD 31 bi_kd) [[]] [] = true := by decide +kernel
theorem bm_X9_state : ∀ b k, bt_P 204 b = some k → bi_okk bt_M bt_P 204 ((yX9_state, cX9_state, 4, (some .int), RX9, 2, 41, [])) k := fun b k h => bi_allk (show bt_X9_state[b]? = some k from h) (fun b hb => match b, hb with
  | 0, _ => bi_okkB_ok bo_X9_state_0
  | 1, _ => bi_okkB_ok bo_X9_state_1
  | 2, _ => bi_okkB_ok bo_X9_state_2
  | 3, _ => bi_okkB_ok bo_X9_state_3
  | 4, _ => bi_okkB_ok bo_X9_state_4
  | 5, _ => bi_okkB_ok bo_X9_state_5
  | 6, _ => bi_okkB_ok bo_X9_state_6
  | 7, _ => bi_okkB_ok bo_X9_state_7
  | 8, _ => bi_okkB_ok bo_X9_state_8
  | 9, _ => bi_okkB_ok bo_X9_state_9
  | 10, _ => bi_okkB_ok bo_X9_state_10
  | 11, _ => bi_okkB_ok bo_X9_state_11
  | 12, _ => bi_okkB_ok bo_X9_state_12
  | 13, _ => bi_okkB_ok bo_X9_state_13
  | 14, _ => bi_okkB_ok bo_X9_state_14
  | 15, _ => bi_okkB_ok bo_X9_state_15
  | 16, _ => bi_okkB_ok bo_X9_state_16
  | 17, _ => bi_okkB_ok bo_X9_state_17
  | 18, _ => bi_okkB_ok bo_X9_state_18
  | 19, _ => bi_okkB_ok bo_X9_state_19
  | 20, _ => bi_okkB_ok bo_X9_state_20
  | 21, _ => bi_okkB_ok bo_X9_state_21
  | 22, _ => bi_okkB_ok bo_X9_state_22
  | 23, _ => bi_okkB_ok bo_X9_state_23
  | 24, _ => bi_okkB_ok bo_X9_state_24
  | 25, _ => bi_okkB_ok bo_X9_state_25
  | 26, _ => bi_okkB_ok bo_X9_state_26
  | 27, _ => bi_okkB_ok bo_X9_state_27
  | 28, _ => bi_okkB_ok bo_X9_state_28
  | 29, _ => bi_okkB_ok bo_X9_state_29
  | 30, _ => bi_okkB_ok bo_X9_state_30
  | 31, _ => bi_okkB_ok bo_X9_state_31
  | b + 32, hb => absurd hb (by show ¬ b + 32 < 32; omega))
theorem bo_X9_stay : bi_oksB bt_M bt_P 205 ((yX9_stay, cX9_stay, 4, (some .int), RX9, 3, 60, [])) bt_X9_stay [([[], [], [2132, 1001, 2129, 2131, 0], [], [], [], [2146, 1001, 2144, 2145], [], []], []), ([[]], []), ([[], [2070]], []), ([[]], []), ([[], [2046], [2183, 1003, 2204, 2181, 2182]], []), ([[]], []), ([[], [], [2056], []], [])] = true := by decide +kernel
theorem bm_X9_stay : ∀ b k, bt_P 205 b = some k → bi_okk bt_M bt_P 205 ((yX9_stay, cX9_stay, 4, (some .int), RX9, 3, 60, [])) k := fun b k h => bi_oksB_ok _ _ bo_X9_stay k (List.mem_of_getElem? (show bt_X9_stay[b]? = some k from h))
theorem bo_X9_storeOf : bi_oksB bt_M bt_P 206 ((yX9_storeOf, cX9_storeOf, 2, (some (.object "TwinVaults$Store")), RX9, 1, 20, [])) bt_X9_storeOf [([[]], []), ([[], []], []), ([[]], []), ([[], [1140], [], []], []), ([], [])] = true := by decide +kernel
theorem bm_X9_storeOf : ∀ b k, bt_P 206 b = some k → bi_okk bt_M bt_P 206 ((yX9_storeOf, cX9_storeOf, 2, (some (.object "TwinVaults$Store")), RX9, 1, 20, [])) k := fun b k h => bi_oksB_ok _ _ bo_X9_storeOf k (List.mem_of_getElem? (show bt_X9_storeOf[b]? = some k from h))
theorem bo_X9_sum : bi_oksB bt_M bt_P 207 ((yX9_sum, cX9_sum, 7, (some .int), RX9, 6, 90, [])) bt_X9_sum [([[], [], [2132, 1001, 2129, 2131, 0], [], []], []), ([[], [2048], [], [], [2136, 1010, 2133, 2134, 2135]], []), ([], []), ([[], [2046], [1046]], []), ([], []), ([[], [], [2139, 1001, 2137, 2138], [], [], [], [], []], []), ([[], [], [2048], [1181]], []), ([[], [], [], [], [2048], [], [], [], [5025, 1010, 5022, 5023, 5024], [], [], []], []), ([[]], [])] = true := by decide +kernel
theorem bm_X9_sum : ∀ b k, bt_P 207 b = some k → bi_okk bt_M bt_P 207 ((yX9_sum, cX9_sum, 7, (some .int), RX9, 6, 90, [])) k := fun b k h => bi_oksB_ok _ _ bo_X9_sum k (List.mem_of_getElem? (show bt_X9_sum[b]? = some k from h))
theorem bo_X9_tick : bi_oksB bt_M bt_P 208 ((yX9_tick, cX9_tick, 3, (some .int), RX9, 7, 159, [])) bt_X9_tick [([[], [], [1144], [], [], [1144], [], []], []), ([[], []], []), ([[], [], [2132, 1001, 2129, 2131, 0], [], []], []), ([[], [2046], [1046]], []), ([[], [], [3156, 1001, 3153, 3155, 10]], []), ([[]], []), ([[], [1144]], [])] = true := by decide +kernel
theorem bm_X9_tick : ∀ b k, bt_P 208 b = some k → bi_okk bt_M bt_P 208 ((yX9_tick, cX9_tick, 3, (some .int), RX9, 7, 159, [])) k := fun b k h => bi_oksB_ok _ _ bo_X9_tick k (List.mem_of_getElem? (show bt_X9_tick[b]? = some k from h))
theorem bo_X9_tickOf : bi_oksB bt_M bt_P 209 ((yX9_tickOf, cX9_tickOf, 2, none, RX9, 6, 138, [])) bt_X9_tickOf [([[], [2056], []], []), ([[], [1145]], []), ([[], [1144], [], [1145], []], []), ([[], [2048], [3025, 1010, 3022, 3023, 3024]], []), ([[], [2060], []], []), ([[], [], [3029, 1001, 3026, 3028, 7]], []), ([], []), ([[], [3160, 1009, 3157, 3158, 3159]], []), ([[], [], [3164, 1001, 3161, 3163, 11]], []), ([[], [2056], []], []), ([[], [2082]], []), ([[], [3168, 1009, 3165, 3166, 3167]], []), ([[], [], [3094, 1001, 3091, 3093, 9]], []), ([], [])] = true := by decide +kernel
theorem bm_X9_tickOf : ∀ b k, bt_P 209 b = some k → bi_okk bt_M bt_P 209 ((yX9_tickOf, cX9_tickOf, 2, none, RX9, 6, 138, [])) k := fun b k h => bi_oksB_ok _ _ bo_X9_tickOf k (List.mem_of_getElem? (show bt_X9_tickOf[b]? = some k from h))
theorem bo_X9_tookSnapshot : bi_oksB bt_M bt_P 210 ((yX9_tookSnapshot, cX9_tookSnapshot, 2, (some .boolean), RX9, 5, 104, [])) bt_X9_tookSnapshot [([[], [], [2163, 1001, 2160, 2162, 3]], []), ([[], [2046], [2183, 1003, 2204, 2181, 2182]], []), ([[]], []), ([[], [], [2060], [], [], [2060], [], [2048], [], [], [2059], [], [], [2060], [], [3033, 1010, 3030, 3031, 3032], [], [], [1137], [3037, 1009, 3034, 3035, 3036], []], [])] = true := by decide +kernel
theorem bm_X9_tookSnapshot : ∀ b k, bt_P 210 b = some k → bi_okk bt_M bt_P 210 ((yX9_tookSnapshot, cX9_tookSnapshot, 2, (some .boolean), RX9, 5, 104, [])) k := fun b k h => bi_oksB_ok _ _ bo_X9_tookSnapshot k (List.mem_of_getElem? (show bt_X9_tookSnapshot[b]? = some k from h))
theorem bo_X9_total_0 : bi_okkB bt_M bt_P 211 ((yX9_total, cX9_total, 2, (some .int), RX9, 4, 87, [])) (bt_X9_total.getD 0 bi_kd) [[]] [] = true := by decide +kernel
theorem bo_X9_total_1 : bi_okkB bt_M bt_P 211 ((yX9_total, cX9_total, 2, (some .int), RX9, 4, 87, [])) (bt_X9_total.getD 1 bi_kd) [[], [1144]] [] = true := by decide +kernel
theorem bo_X9_total_2 : bi_okkB bt_M bt_P 211 ((yX9_total, cX9_total, 2, (some .int), RX9, 4, 87, [])) (bt_X9_total.getD 2 bi_kd) [[], [1143]] [] = true := by decide +kernel
theorem bo_X9_total_3 : bi_okkB bt_M bt_P 211 ((yX9_total, cX9_total, 2, (some .int), RX9, 4, 87, [])) (bt_X9_total.getD 3 bi_kd) [[], [1141], [1084]] [] = true := by decide +kernel
theorem bo_X9_total_4 : bi_okkB bt_M bt_P 211 ((yX9_total, cX9_total, 2, (some .int), RX9, 4, 87, [])) (bt_X9_total.getD 4 bi_kd) [[], [1142], [1122]] [] = true := by decide +kernel
theorem bo_X9_total_5 : bi_okkB bt_M bt_P 211 ((yX9_total, cX9_total, 2, (some .int), RX9, 4, 87, [])) (bt_X9_total.getD 5 bi_kd) [[], [1142], [1124]] [] = true := by decide +kernel
theorem bo_X9_total_6 : bi_okkB bt_M bt_P 211 ((yX9_total, cX9_total, 2, (some .int), RX9, 4, 87, [])) (bt_X9_total.getD 6 bi_kd) [[], [1142], [1126]] [] = true := by decide +kernel
end
section
/-! the tables are as the code has them -/
theorem bo_X9_total_7 : bi_okkB bt_M bt_P 211 ((yX9_total, cX9_total, 2, (some .int), RX9, 4, 87, [])) (bt_X9_total.getD 7 bi_kd) [[], [], [1139], [], [], [], [], [], [4158, 1001, 4155, 4157, 33]] [] = true := by decide +kernel
theorem bo_X9_total_8 : bi_okkB bt_M bt_P 211 ((yX9_total, cX9_total, 2, (some .int), RX9, 4, 87, [])) (bt_X9_total.getD 8 bi_kd) [[], [], [1139], [], [], [], [], [], [4158, 1001, 4155, 4157, 33]] [] = true := by decide +kernel
theorem bo_X9_total_9 : bi_okkB bt_M bt_P 211 ((yX9_total, cX9_total, 2, (some .int), RX9, 4, 87, [])) (bt_X9_total.getD 9 bi_kd) [[]] [] = true := by decide +kernel
theorem bm_X9_total : ∀ b k, bt_P 211 b = some k → bi_okk bt_M bt_P 211 ((yX9_total, cX9_total, 2, (some .int), RX9, 4, 87, [])) k := fun b k h => bi_allk (show bt_X9_total[b]? = some k from h) (fun b hb => match b, hb with
  | 0, _ => bi_okkB_ok bo_X9_total_0
  | 1, _ => bi_okkB_ok bo_X9_total_1
  | 2, _ => bi_okkB_ok bo_X9_total_2
  | 3, _ => bi_okkB_ok bo_X9_total_3
  | 4, _ => bi_okkB_ok bo_X9_total_4
  | 5, _ => bi_okkB_ok bo_X9_total_5
  | 6, _ => bi_okkB_ok bo_X9_total_6
  | 7, _ => bi_okkB_ok bo_X9_total_7
  | 8, _ => bi_okkB_ok bo_X9_total_8
  | 9, _ => bi_okkB_ok bo_X9_total_9
  | b + 10, hb => absurd hb (by show ¬ b + 10 < 10; omega))
theorem bo_X9_totalOf : bi_oksB bt_M bt_P 212 ((yX9_totalOf, cX9_totalOf, 3, (some .int), RX9, 3, 65, [])) bt_X9_totalOf [([[]], []), ([[], [1046]], []), ([[]], []), ([[]], []), ([], []), ([[], [1048]], []), ([[], [], [2213, 1001, 2210, 2212, 5]], []), ([[], [1050]], [])] = true := by decide +kernel
theorem bm_X9_totalOf : ∀ b k, bt_P 212 b = some k → bi_okk bt_M bt_P 212 ((yX9_totalOf, cX9_totalOf, 3, (some .int), RX9, 3, 65, [])) k := fun b k h => bi_oksB_ok _ _ bo_X9_totalOf k (List.mem_of_getElem? (show bt_X9_totalOf[b]? = some k from h))
theorem bo_X9_up : bi_oksB bt_M bt_P 213 ((yX9_up, cX9_up, 5, (some .int), RX9, 4, 87, [])) bt_X9_up [([[]], []), ([[], []], []), ([[]], []), ([[], [1139], [], [], [1046]], []), ([[]], []), ([[], [1139], [], [], [], [1046], [], [], [], []], []), ([[], []], []), ([[], [], [], [], [], [], [2132, 1001, 2129, 2131, 0], [], []], []), ([[], [], [3236, 1009, 3233, 3234, 3235], [], []], []), ([[]], []), ([[]], [])] = true := by decide +kernel
theorem bm_X9_up : ∀ b k, bt_P 213 b = some k → bi_okk bt_M bt_P 213 ((yX9_up, cX9_up, 5, (some .int), RX9, 4, 87, [])) k := fun b k h => bi_oksB_ok _ _ bo_X9_up k (List.mem_of_getElem? (show bt_X9_up[b]? = some k from h))
theorem bo_X9_write : bi_oksB bt_M bt_P 214 ((yX9_write, cX9_write, 7, (some .int), RX9, 7, 156, [])) bt_X9_write [([[], [], [2132, 1001, 2129, 2131, 0], [], []], []), ([[], [2048], [], [], [2136, 1010, 2133, 2134, 2135]], []), ([[]], []), ([[], [], [], [], [2139, 1001, 2137, 2138], [], [2143, 1001, 2140, 2142, 1], [], []], []), ([[], [2048], [2151, 1010, 2148, 2149, 2150]], []), ([[]], []), ([], [])] = true := by decide +kernel
theorem bm_X9_write : ∀ b k, bt_P 214 b = some k → bi_okk bt_M bt_P 214 ((yX9_write, cX9_write, 7, (some .int), RX9, 7, 156, [])) k := fun b k h => bi_oksB_ok _ _ bo_X9_write k (List.mem_of_getElem? (show bt_X9_write[b]? = some k from h))
theorem bo_X9_writeOne : bi_oksB bt_M bt_P 215 ((yX9_writeOne, cX9_writeOne, 5, (some .int), RX9, 6, 132, [])) bt_X9_writeOne [([[], [], [2146, 1001, 2144, 2145], [], []], []), ([[]], []), ([[], [1141], [1084], [2147]], []), ([[]], []), ([[], [2048], [2151, 1010, 2148, 2149, 2150], []], []), ([[], [], [2155, 1001, 2152, 2154, 2]], []), ([[]], []), ([[], [], [2046], [2213, 1001, 2210, 2212, 5], []], []), ([[]], []), ([[], [2048], [], [], [2221, 1010, 2218, 2219, 2220], []], [])] = true := by decide +kernel
theorem bm_X9_writeOne : ∀ b k, bt_P 215 b = some k → bi_okk bt_M bt_P 215 ((yX9_writeOne, cX9_writeOne, 5, (some .int), RX9, 6, 132, [])) k := fun b k h => bi_oksB_ok _ _ bo_X9_writeOne k (List.mem_of_getElem? (show bt_X9_writeOne[b]? = some k from h))
theorem bo_L_cell : bi_oksB bt_M bt_P 216 ((yL_cell, cL_cell, 2, (some .int), RL, 1, 20, [])) bt_L_cell [([[], [], []], []), ([[], [], []], []), ([[]], []), ([], [])] = true := by decide +kernel
theorem bm_L_cell : ∀ b k, bt_P 216 b = some k → bi_okk bt_M bt_P 216 ((yL_cell, cL_cell, 2, (some .int), RL, 1, 20, [])) k := fun b k h => bi_oksB_ok _ _ bo_L_cell k (List.mem_of_getElem? (show bt_L_cell[b]? = some k from h))
theorem bo_L_differ : bi_oksB bt_M bt_P 217 ((yL_differ, cL_differ, 6, (some .int), RL, 7, 114, [(0, 12, 15, 13), (0, 12, 19, 18)])) bt_L_differ [([[], [], [], [], [], []], [5053, 1001, 5050, 5051, 5052, 4165, 5000]), ([[], []], []), ([[]], []), ([[]], []), ([[]], [])] = true := by decide +kernel
theorem bm_L_differ : ∀ b k, bt_P 217 b = some k → bi_okk bt_M bt_P 217 ((yL_differ, cL_differ, 6, (some .int), RL, 7, 114, [(0, 12, 15, 13), (0, 12, 19, 18)])) k := fun b k h => bi_oksB_ok _ _ bo_L_differ k (List.mem_of_getElem? (show bt_L_differ[b]? = some k from h))
theorem bo_L_item : bi_oksB bt_M bt_P 218 ((yL_item, cL_item, 6, (some .int), RL, 7, 114, [(0, 12, 15, 13)])) bt_L_item [([[], [], [], [], [], []], [4169, 1001, 4166, 4167, 4168, 4165]), ([[], []], []), ([[]], []), ([[]], [])] = true := by decide +kernel
theorem bm_L_item : ∀ b k, bt_P 218 b = some k → bi_okk bt_M bt_P 218 ((yL_item, cL_item, 6, (some .int), RL, 7, 114, [(0, 12, 15, 13)])) k := fun b k h => bi_oksB_ok _ _ bo_L_item k (List.mem_of_getElem? (show bt_L_item[b]? = some k from h))
theorem bo_L_lost : bi_oksB bt_M bt_P 219 ((yL_lost, cL_lost, 6, (some .int), RL, 7, 114, [(0, 12, 15, 13)])) bt_L_lost [([[], [], [], [], [], []], [5062, 1001, 5059, 5060, 5061, 4165]), ([[], []], []), ([[]], []), ([[]], [])] = true := by decide +kernel
theorem bm_L_lost : ∀ b k, bt_P 219 b = some k → bi_okk bt_M bt_P 219 ((yL_lost, cL_lost, 6, (some .int), RL, 7, 114, [(0, 12, 15, 13)])) k := fun b k h => bi_oksB_ok _ _ bo_L_lost k (List.mem_of_getElem? (show bt_L_lost[b]? = some k from h))
theorem bo_L_old : bi_oksB bt_M bt_P 220 ((yL_old, cL_old, 7, (some .int), RL, 7, 115, [(0, 14, 17, 13), (0, 14, 21, 18)])) bt_L_old [([[], [], [], [], [], [], []], [5032, 1001, 5029, 5030, 5031, 4165, 5000]), ([[], []], []), ([[]], []), ([[]], []), ([[]], [])] = true := by decide +kernel
theorem bm_L_old : ∀ b k, bt_P 220 b = some k → bi_okk bt_M bt_P 220 ((yL_old, cL_old, 7, (some .int), RL, 7, 115, [(0, 14, 17, 13), (0, 14, 21, 18)])) k := fun b k h => bi_oksB_ok _ _ bo_L_old k (List.mem_of_getElem? (show bt_L_old[b]? = some k from h))
theorem bo_L_read : bi_oksB bt_M bt_P 221 ((yL_read, cL_read, 6, (some .int), RL, 7, 114, [(0, 12, 15, 13), (0, 12, 19, 18)])) bt_L_read [([[], [], [], [], [], []], [5004, 1001, 5001, 5002, 5003, 4165, 5000]), ([[], []], []), ([[]], []), ([[]], []), ([[]], [])] = true := by decide +kernel
theorem bm_L_read : ∀ b k, bt_P 221 b = some k → bi_okk bt_M bt_P 221 ((yL_read, cL_read, 6, (some .int), RL, 7, 114, [(0, 12, 15, 13), (0, 12, 19, 18)])) k := fun b k h => bi_oksB_ok _ _ bo_L_read k (List.mem_of_getElem? (show bt_L_read[b]? = some k from h))
theorem bo_L_sum : bi_oksB bt_M bt_P 222 ((yL_sum, cL_sum, 5, (some .int), RL, 7, 116, [(0, 10, 13, 13), (0, 10, 17, 18)])) bt_L_sum [([[], [], [], [], []], [5045, 1001, 5042, 5043, 5044, 4165, 5000]), ([[], []], []), ([[]], []), ([[]], []), ([[]], [])] = true := by decide +kernel
theorem bm_L_sum : ∀ b k, bt_P 222 b = some k → bi_okk bt_M bt_P 222 ((yL_sum, cL_sum, 5, (some .int), RL, 7, 116, [(0, 10, 13, 13), (0, 10, 17, 18)])) k := fun b k h => bi_oksB_ok _ _ bo_L_sum k (List.mem_of_getElem? (show bt_L_sum[b]? = some k from h))
theorem bo_L_law_0 : bi_okkB bt_M bt_P 223 ((yL_law, cL_law, 7, (some .boolean), RL, 8, 185, [])) (bt_L_law.getD 0 bi_kd) [[1022, 1023, 1001], [], [], [], [4161, 1000, 4159, 4160], [], [], [4161, 1000, 4159, 4160], [], [], [4161, 1000, 4159, 4160], [1026, 1001, 1024, 1025], [], [5068, 5069, 1007], [], [], [], [4161, 1000, 4159, 4160], [], [], [4161, 1000, 4159, 4160], [], [], [4161, 1000, 4159, 4160], [5072, 1007, 5070, 5071], [], [], [7219], [], [], []] [] = true := by decide +kernel
theorem bo_L_law_1 : bi_okkB bt_M bt_P 223 ((yL_law, cL_law, 7, (some .boolean), RL, 8, 185, [])) (bt_L_law.getD 1 bi_kd) [[], [], [], [], []] [] = true := by decide +kernel
theorem bo_L_law_2 : bi_okkB bt_M bt_P 223 ((yL_law, cL_law, 7, (some .boolean), RL, 8, 185, [])) (bt_L_law.getD 2 bi_kd) [[], [], [], [], []] [] = true := by decide +kernel
theorem bo_L_law_3 : bi_okkB bt_M bt_P 223 ((yL_law, cL_law, 7, (some .boolean), RL, 8, 185, [])) (bt_L_law.getD 3 bi_kd) [[], [], [], [], [], [], [], [], [], [], [], [1170, 1001, 1167, 1168, 1169], [], [], [], [], [], [], [], [], [], [], [], [6008, 1007, 6005, 6006, 6007]] [] = true := by decide +kernel
theorem bo_L_law_4 : bi_okkB bt_M bt_P 223 ((yL_law, cL_law, 7, (some .boolean), RL, 8, 185, [])) (bt_L_law.getD 4 bi_kd) [[]] [] = true := by decide +kernel
end
section
/-! the tables are as the code has them -/
theorem bo_L_law_5 : bi_okkB bt_M bt_P 223 ((yL_law, cL_law, 7, (some .boolean), RL, 8, 185, [])) (bt_L_law.getD 5 bi_kd) [[], [], [], [], [], [], [], [], [], [], [], [], [], [], [], [], [], [], [], [], [], [2128, 1001, 2125, 2126, 2127], [], [], [], [], [], [], [], [], [], [], [], [], [], [], [], [], [], [], [], [], [], [6141, 1007, 6138, 6139, 6140]] [] = true := by decide +kernel
theorem bo_L_law_6 : bi_okkB bt_M bt_P 223 ((yL_law, cL_law, 7, (some .boolean), RL, 8, 185, [])) (bt_L_law.getD 6 bi_kd) [[]] [] = true := by decide +kernel
theorem bo_L_law_7 : bi_okkB bt_M bt_P 223 ((yL_law, cL_law, 7, (some .boolean), RL, 8, 185, [])) (bt_L_law.getD 7 bi_kd) [[], [], [], [], [], [], [], [], [], [], [], [], [], [], [], [], [], [], [], [], [], [], [], [], [], [], [3009, 1001, 3006, 3007, 3008], [], [], [], [], [], [], [], [], [], [], [], [], [], [], [], [], [], [], [], [], [], [], [], [], [], [], [6203, 1007, 6200, 6201, 6202]] [] = true := by decide +kernel
theorem bo_L_law_8 : bi_okkB bt_M bt_P 223 ((yL_law, cL_law, 7, (some .boolean), RL, 8, 185, [])) (bt_L_law.getD 8 bi_kd) [[]] [] = true := by decide +kernel
end
section
/-! the tables are as the code has them -/
theorem bo_L_law_9 : bi_okkB bt_M bt_P 223 ((yL_law, cL_law, 7, (some .boolean), RL, 8, 185, [])) (bt_L_law.getD 9 bi_kd) [[], [], [], [], [], [], [3013, 1001, 3010, 3011, 3012], [], [], [], [], [], [], [6207, 1007, 6204, 6205, 6206]] [] = true := by decide +kernel
theorem bo_L_law_10 : bi_okkB bt_M bt_P 223 ((yL_law, cL_law, 7, (some .boolean), RL, 8, 185, [])) (bt_L_law.getD 10 bi_kd) [[]] [] = true := by decide +kernel
theorem bo_L_law_11 : bi_okkB bt_M bt_P 223 ((yL_law, cL_law, 7, (some .boolean), RL, 8, 185, [])) (bt_L_law.getD 11 bi_kd) [[], [], [], [], [], [], [3017, 1001, 3014, 3015, 3016], [], [], [], [], [], [], [6211, 1007, 6208, 6209, 6210]] [] = true := by decide +kernel
theorem bo_L_law_12 : bi_okkB bt_M bt_P 223 ((yL_law, cL_law, 7, (some .boolean), RL, 8, 185, [])) (bt_L_law.getD 12 bi_kd) [[]] [] = true := by decide +kernel
theorem bo_L_law_13 : bi_okkB bt_M bt_P 223 ((yL_law, cL_law, 7, (some .boolean), RL, 8, 185, [])) (bt_L_law.getD 13 bi_kd) [[], [], [], [], [], [], [3021, 1001, 3018, 3019, 3020], [], [], [], [], [], [], [6215, 1007, 6212, 6213, 6214]] [] = true := by decide +kernel
theorem bo_L_law_14 : bi_okkB bt_M bt_P 223 ((yL_law, cL_law, 7, (some .boolean), RL, 8, 185, [])) (bt_L_law.getD 14 bi_kd) [[]] [] = true := by decide +kernel
theorem bo_L_law_15 : bi_okkB bt_M bt_P 223 ((yL_law, cL_law, 7, (some .boolean), RL, 8, 185, [])) (bt_L_law.getD 15 bi_kd) [[], [], [], [], [], [], [3058, 1001, 3055, 3056, 3057], [], [], [], [], [], [], [7016, 1007, 7013, 7014, 7015]] [] = true := by decide +kernel
theorem bo_L_law_16 : bi_okkB bt_M bt_P 223 ((yL_law, cL_law, 7, (some .boolean), RL, 8, 185, [])) (bt_L_law.getD 16 bi_kd) [[]] [] = true := by decide +kernel
theorem bo_L_law_17 : bi_okkB bt_M bt_P 223 ((yL_law, cL_law, 7, (some .boolean), RL, 8, 185, [])) (bt_L_law.getD 17 bi_kd) [[], [], [], [], [], [], [3062, 1001, 3059, 3060, 3061], [], [], [], [], [], [], [7020, 1007, 7017, 7018, 7019]] [] = true := by decide +kernel
theorem bo_L_law_18 : bi_okkB bt_M bt_P 223 ((yL_law, cL_law, 7, (some .boolean), RL, 8, 185, [])) (bt_L_law.getD 18 bi_kd) [[]] [] = true := by decide +kernel
theorem bo_L_law_19 : bi_okkB bt_M bt_P 223 ((yL_law, cL_law, 7, (some .boolean), RL, 8, 185, [])) (bt_L_law.getD 19 bi_kd) [[], [], [], [], [], [], [3066, 1001, 3063, 3064, 3065], [], [], [], [], [], [], [7024, 1007, 7021, 7022, 7023]] [] = true := by decide +kernel
theorem bo_L_law_20 : bi_okkB bt_M bt_P 223 ((yL_law, cL_law, 7, (some .boolean), RL, 8, 185, [])) (bt_L_law.getD 20 bi_kd) [[]] [] = true := by decide +kernel
theorem bo_L_law_21 : bi_okkB bt_M bt_P 223 ((yL_law, cL_law, 7, (some .boolean), RL, 8, 185, [])) (bt_L_law.getD 21 bi_kd) [[], [], [], [], [], [], [3090, 1001, 3087, 3088, 3089], [], [], [], [], [], [], [7039, 1007, 7036, 7037, 7038]] [] = true := by decide +kernel
end
section
/-! the tables are as the code has them -/
theorem bo_L_law_22 : bi_okkB bt_M bt_P 223 ((yL_law, cL_law, 7, (some .boolean), RL, 8, 185, [])) (bt_L_law.getD 22 bi_kd) [[]] [] = true := by decide +kernel
theorem bo_L_law_23 : bi_okkB bt_M bt_P 223 ((yL_law, cL_law, 7, (some .boolean), RL, 8, 185, [])) (bt_L_law.getD 23 bi_kd) [[], [], [], [], [], [], [3148, 1001, 3145, 3146, 3147], [], [], [], [], [], [], [7051, 1007, 7048, 7049, 7050]] [] = true := by decide +kernel
theorem bo_L_law_24 : bi_okkB bt_M bt_P 223 ((yL_law, cL_law, 7, (some .boolean), RL, 8, 185, [])) (bt_L_law.getD 24 bi_kd) [[]] [] = true := by decide +kernel
theorem bo_L_law_25 : bi_okkB bt_M bt_P 223 ((yL_law, cL_law, 7, (some .boolean), RL, 8, 185, [])) (bt_L_law.getD 25 bi_kd) [[], [3152, 1001, 3149, 3150, 3151], [], [7055, 1007, 7052, 7053, 7054]] [] = true := by decide +kernel
theorem bo_L_law_26 : bi_okkB bt_M bt_P 223 ((yL_law, cL_law, 7, (some .boolean), RL, 8, 185, [])) (bt_L_law.getD 26 bi_kd) [[]] [] = true := by decide +kernel
theorem bo_L_law_27 : bi_okkB bt_M bt_P 223 ((yL_law, cL_law, 7, (some .boolean), RL, 8, 185, [])) (bt_L_law.getD 27 bi_kd) [[], [], [], [], [], [], [], [], [], [], [], [3222, 1001, 3219, 3220, 3221], [], [], [], [], [], [], [], [], [], [], [], [7083, 1007, 7080, 7081, 7082]] [] = true := by decide +kernel
theorem bo_L_law_28 : bi_okkB bt_M bt_P 223 ((yL_law, cL_law, 7, (some .boolean), RL, 8, 185, [])) (bt_L_law.getD 28 bi_kd) [[]] [] = true := by decide +kernel
theorem bo_L_law_29 : bi_okkB bt_M bt_P 223 ((yL_law, cL_law, 7, (some .boolean), RL, 8, 185, [])) (bt_L_law.getD 29 bi_kd) [[], [], [], [], [], [], [3227, 1001, 3224, 3225, 3226], [], [], [], [], [], [], [7091, 1007, 7088, 7089, 7090]] [] = true := by decide +kernel
theorem bo_L_law_30 : bi_okkB bt_M bt_P 223 ((yL_law, cL_law, 7, (some .boolean), RL, 8, 185, [])) (bt_L_law.getD 30 bi_kd) [[]] [] = true := by decide +kernel
theorem bo_L_law_31 : bi_okkB bt_M bt_P 223 ((yL_law, cL_law, 7, (some .boolean), RL, 8, 185, [])) (bt_L_law.getD 31 bi_kd) [[], [], [], [], [], [], [3232, 1001, 3229, 3230, 3231], [], [], [], [], [], [], [7095, 1007, 7092, 7093, 7094]] [] = true := by decide +kernel
theorem bo_L_law_32 : bi_okkB bt_M bt_P 223 ((yL_law, cL_law, 7, (some .boolean), RL, 8, 185, [])) (bt_L_law.getD 32 bi_kd) [[]] [] = true := by decide +kernel
theorem bo_L_law_33 : bi_okkB bt_M bt_P 223 ((yL_law, cL_law, 7, (some .boolean), RL, 8, 185, [])) (bt_L_law.getD 33 bi_kd) [[], [], [], [], [], [], [], [], [], [], [], [4009, 1001, 4006, 4007, 4008], [], [], [], [], [], [], [], [], [], [], [], [7099, 1007, 7096, 7097, 7098]] [] = true := by decide +kernel
theorem bo_L_law_34 : bi_okkB bt_M bt_P 223 ((yL_law, cL_law, 7, (some .boolean), RL, 8, 185, [])) (bt_L_law.getD 34 bi_kd) [[]] [] = true := by decide +kernel
end
section
/-! the tables are as the code has them -/
theorem bo_L_law_35 : bi_okkB bt_M bt_P 223 ((yL_law, cL_law, 7, (some .boolean), RL, 8, 185, [])) (bt_L_law.getD 35 bi_kd) [[], [], [], [], [], [], [], [], [], [], [], [4137, 1001, 4134, 4135, 4136], [], [], [], [], [], [], [], [], [], [], [], [7174, 1007, 7171, 7172, 7173]] [] = true := by decide +kernel
theorem bo_L_law_36 : bi_okkB bt_M bt_P 223 ((yL_law, cL_law, 7, (some .boolean), RL, 8, 185, [])) (bt_L_law.getD 36 bi_kd) [[]] [] = true := by decide +kernel
theorem bo_L_law_37 : bi_okkB bt_M bt_P 223 ((yL_law, cL_law, 7, (some .boolean), RL, 8, 185, [])) (bt_L_law.getD 37 bi_kd) [[], [], [], [], [], [], [], [], [], [], [], [], [], [], [], [], [], [4164, 1000, 4162, 4163], [], [], [], [], [], [], [], [], [], [], [], [], [], [], [], [], [], [7178, 1007, 7175, 7176, 7177], [], [], [5067, 1007, 5064, 5065, 5066], []] [] = true := by decide +kernel
theorem bo_L_law_38 : bi_okkB bt_M bt_P 223 ((yL_law, cL_law, 7, (some .boolean), RL, 8, 185, [])) (bt_L_law.getD 38 bi_kd) [[]] [] = true := by decide +kernel
theorem bo_L_law_39 : bi_okkB bt_M bt_P 223 ((yL_law, cL_law, 7, (some .boolean), RL, 8, 185, [])) (bt_L_law.getD 39 bi_kd) [[]] [] = true := by decide +kernel
theorem bo_L_law_40 : bi_okkB bt_M bt_P 223 ((yL_law, cL_law, 7, (some .boolean), RL, 8, 185, [])) (bt_L_law.getD 40 bi_kd) [[], [], [], [], [], []] [] = true := by decide +kernel
theorem bo_L_law_41 : bi_okkB bt_M bt_P 223 ((yL_law, cL_law, 7, (some .boolean), RL, 8, 185, [])) (bt_L_law.getD 41 bi_kd) [[]] [] = true := by decide +kernel
theorem bo_L_law_42 : bi_okkB bt_M bt_P 223 ((yL_law, cL_law, 7, (some .boolean), RL, 8, 185, [])) (bt_L_law.getD 42 bi_kd) [] [] = true := by decide +kernel
end
section
/-! the tables are as the code has them -/
theorem bo_L_law_43 : bi_okkB bt_M bt_P 223 ((yL_law, cL_law, 7, (some .boolean), RL, 8, 185, [])) (bt_L_law.getD 43 bi_kd) [[], [], [], [], [], [], [], [], [], [], [], [], [], [], [], [], [], [4239, 1000, 4237, 4238], [], [], [], [], [], [], [], [], [], [], [], [], [], [], [], [], [], [7186, 1007, 7183, 7184, 7185], [], [], [5067, 1007, 5064, 5065, 5066], []] [] = true := by decide +kernel
theorem bo_L_law_44 : bi_okkB bt_M bt_P 223 ((yL_law, cL_law, 7, (some .boolean), RL, 8, 185, [])) (bt_L_law.getD 44 bi_kd) [[]] [] = true := by decide +kernel
theorem bo_L_law_45 : bi_okkB bt_M bt_P 223 ((yL_law, cL_law, 7, (some .boolean), RL, 8, 185, [])) (bt_L_law.getD 45 bi_kd) [[]] [] = true := by decide +kernel
theorem bo_L_law_46 : bi_okkB bt_M bt_P 223 ((yL_law, cL_law, 7, (some .boolean), RL, 8, 185, [])) (bt_L_law.getD 46 bi_kd) [[], [], [], [], [], []] [] = true := by decide +kernel
theorem bo_L_law_47 : bi_okkB bt_M bt_P 223 ((yL_law, cL_law, 7, (some .boolean), RL, 8, 185, [])) (bt_L_law.getD 47 bi_kd) [[]] [] = true := by decide +kernel
theorem bo_L_law_48 : bi_okkB bt_M bt_P 223 ((yL_law, cL_law, 7, (some .boolean), RL, 8, 185, [])) (bt_L_law.getD 48 bi_kd) [] [] = true := by decide +kernel
theorem bo_L_law_49 : bi_okkB bt_M bt_P 223 ((yL_law, cL_law, 7, (some .boolean), RL, 8, 185, [])) (bt_L_law.getD 49 bi_kd) [[], [], [], [], [], [], [], [], [], [], [], [], [], [], [], [], [], [], [], [], [], [], [5028, 1000, 5026, 5027], [], [], [], [], [], [], [], [], [], [], [], [], [], [], [], [], [], [], [], [], [], [], [7190, 1007, 7187, 7188, 7189], [], [], [5067, 1007, 5064, 5065, 5066], []] [] = true := by decide +kernel
theorem bo_L_law_50 : bi_okkB bt_M bt_P 223 ((yL_law, cL_law, 7, (some .boolean), RL, 8, 185, [])) (bt_L_law.getD 50 bi_kd) [[]] [] = true := by decide +kernel
theorem bo_L_law_51 : bi_okkB bt_M bt_P 223 ((yL_law, cL_law, 7, (some .boolean), RL, 8, 185, [])) (bt_L_law.getD 51 bi_kd) [[]] [] = true := by decide +kernel
theorem bo_L_law_52 : bi_okkB bt_M bt_P 223 ((yL_law, cL_law, 7, (some .boolean), RL, 8, 185, [])) (bt_L_law.getD 52 bi_kd) [[], [], [], [], [], []] [] = true := by decide +kernel
end
section
/-! the tables are as the code has them -/
theorem bo_L_law_53 : bi_okkB bt_M bt_P 223 ((yL_law, cL_law, 7, (some .boolean), RL, 8, 185, [])) (bt_L_law.getD 53 bi_kd) [[]] [] = true := by decide +kernel
theorem bo_L_law_54 : bi_okkB bt_M bt_P 223 ((yL_law, cL_law, 7, (some .boolean), RL, 8, 185, [])) (bt_L_law.getD 54 bi_kd) [] [] = true := by decide +kernel
theorem bo_L_law_55 : bi_okkB bt_M bt_P 223 ((yL_law, cL_law, 7, (some .boolean), RL, 8, 185, [])) (bt_L_law.getD 55 bi_kd) [[], [], [], [], [], [], [], [], [], [], [], [], [5041, 1000, 5039, 5040], [], [], [], [], [], [], [], [], [], [], [], [], [7194, 1007, 7191, 7192, 7193], [], [], [5067, 1007, 5064, 5065, 5066], []] [] = true := by decide +kernel
theorem bo_L_law_56 : bi_okkB bt_M bt_P 223 ((yL_law, cL_law, 7, (some .boolean), RL, 8, 185, [])) (bt_L_law.getD 56 bi_kd) [[]] [] = true := by decide +kernel
theorem bo_L_law_57 : bi_okkB bt_M bt_P 223 ((yL_law, cL_law, 7, (some .boolean), RL, 8, 185, [])) (bt_L_law.getD 57 bi_kd) [[]] [] = true := by decide +kernel
theorem bo_L_law_58 : bi_okkB bt_M bt_P 223 ((yL_law, cL_law, 7, (some .boolean), RL, 8, 185, [])) (bt_L_law.getD 58 bi_kd) [[], [], [], [], [], []] [] = true := by decide +kernel
theorem bo_L_law_59 : bi_okkB bt_M bt_P 223 ((yL_law, cL_law, 7, (some .boolean), RL, 8, 185, [])) (bt_L_law.getD 59 bi_kd) [[]] [] = true := by decide +kernel
theorem bo_L_law_60 : bi_okkB bt_M bt_P 223 ((yL_law, cL_law, 7, (some .boolean), RL, 8, 185, [])) (bt_L_law.getD 60 bi_kd) [] [] = true := by decide +kernel
theorem bo_L_law_61 : bi_okkB bt_M bt_P 223 ((yL_law, cL_law, 7, (some .boolean), RL, 8, 185, [])) (bt_L_law.getD 61 bi_kd) [[], [], [], [], [], [], [], [], [], [], [], [], [], [], [], [], [], [5049, 1000, 5047, 5048], [], [], [], [], [], [], [], [], [], [], [], [], [], [], [], [], [], [7198, 1007, 7195, 7196, 7197], [], [], [5067, 1007, 5064, 5065, 5066], []] [] = true := by decide +kernel
theorem bo_L_law_62 : bi_okkB bt_M bt_P 223 ((yL_law, cL_law, 7, (some .boolean), RL, 8, 185, [])) (bt_L_law.getD 62 bi_kd) [[]] [] = true := by decide +kernel
theorem bo_L_law_63 : bi_okkB bt_M bt_P 223 ((yL_law, cL_law, 7, (some .boolean), RL, 8, 185, [])) (bt_L_law.getD 63 bi_kd) [[]] [] = true := by decide +kernel
theorem bo_L_law_64 : bi_okkB bt_M bt_P 223 ((yL_law, cL_law, 7, (some .boolean), RL, 8, 185, [])) (bt_L_law.getD 64 bi_kd) [[], [], [], [], [], []] [] = true := by decide +kernel
theorem bo_L_law_65 : bi_okkB bt_M bt_P 223 ((yL_law, cL_law, 7, (some .boolean), RL, 8, 185, [])) (bt_L_law.getD 65 bi_kd) [[]] [] = true := by decide +kernel
theorem bo_L_law_66 : bi_okkB bt_M bt_P 223 ((yL_law, cL_law, 7, (some .boolean), RL, 8, 185, [])) (bt_L_law.getD 66 bi_kd) [] [] = true := by decide +kernel
end
section
/-! the tables are as the code has them -/
theorem bo_L_law_67 : bi_okkB bt_M bt_P 223 ((yL_law, cL_law, 7, (some .boolean), RL, 8, 185, [])) (bt_L_law.getD 67 bi_kd) [[], [], [], [], [], [], [], [], [], [], [], [4141, 1001, 4138, 4139, 4140], [], [], [], [], [], [], [], [], [], [], [], [7206, 1007, 7203, 7204, 7205]] [] = true := by decide +kernel
theorem bo_L_law_68 : bi_okkB bt_M bt_P 223 ((yL_law, cL_law, 7, (some .boolean), RL, 8, 185, [])) (bt_L_law.getD 68 bi_kd) [[]] [] = true := by decide +kernel
theorem bo_L_law_69 : bi_okkB bt_M bt_P 223 ((yL_law, cL_law, 7, (some .boolean), RL, 8, 185, [])) (bt_L_law.getD 69 bi_kd) [[], [], [], [], [], [], [], [], [], [], [], [], [], [], [], [], [4145, 1001, 4142, 4143, 4144], [], [], [], [], [], [], [], [], [], [], [], [], [], [], [], [], [7210, 1007, 7207, 7208, 7209]] [] = true := by decide +kernel
theorem bo_L_law_70 : bi_okkB bt_M bt_P 223 ((yL_law, cL_law, 7, (some .boolean), RL, 8, 185, [])) (bt_L_law.getD 70 bi_kd) [[]] [] = true := by decide +kernel
theorem bo_L_law_71 : bi_okkB bt_M bt_P 223 ((yL_law, cL_law, 7, (some .boolean), RL, 8, 185, [])) (bt_L_law.getD 71 bi_kd) [[], [], [], [], [], [], [], [], [], [], [], [], [], [], [], [], [], [5058, 1000, 5056, 5057], [], [], [], [], [], [], [], [], [], [], [], [], [], [], [], [], [], [7214, 1007, 7211, 7212, 7213], [], [], [5067, 1007, 5064, 5065, 5066], []] [] = true := by decide +kernel
theorem bo_L_law_72 : bi_okkB bt_M bt_P 223 ((yL_law, cL_law, 7, (some .boolean), RL, 8, 185, [])) (bt_L_law.getD 72 bi_kd) [[]] [] = true := by decide +kernel
theorem bo_L_law_73 : bi_okkB bt_M bt_P 223 ((yL_law, cL_law, 7, (some .boolean), RL, 8, 185, [])) (bt_L_law.getD 73 bi_kd) [[]] [] = true := by decide +kernel
theorem bo_L_law_74 : bi_okkB bt_M bt_P 223 ((yL_law, cL_law, 7, (some .boolean), RL, 8, 185, [])) (bt_L_law.getD 74 bi_kd) [[], [], [], [], [], []] [] = true := by decide +kernel
end
section
/-! the tables are as the code has them -/
theorem bo_L_law_75 : bi_okkB bt_M bt_P 223 ((yL_law, cL_law, 7, (some .boolean), RL, 8, 185, [])) (bt_L_law.getD 75 bi_kd) [[]] [] = true := by decide +kernel
theorem bo_L_law_76 : bi_okkB bt_M bt_P 223 ((yL_law, cL_law, 7, (some .boolean), RL, 8, 185, [])) (bt_L_law.getD 76 bi_kd) [] [] = true := by decide +kernel
theorem bo_L_law_77 : bi_okkB bt_M bt_P 223 ((yL_law, cL_law, 7, (some .boolean), RL, 8, 185, [])) (bt_L_law.getD 77 bi_kd) [[], [], [], [], [], [], [4154, 1001, 4151, 4152, 4153], [], [], [], [], [], [], [7218, 1007, 7215, 7216, 7217]] [] = true := by decide +kernel
theorem bo_L_law_78 : bi_okkB bt_M bt_P 223 ((yL_law, cL_law, 7, (some .boolean), RL, 8, 185, [])) (bt_L_law.getD 78 bi_kd) [[]] [] = true := by decide +kernel
theorem bo_L_law_79 : bi_okkB bt_M bt_P 223 ((yL_law, cL_law, 7, (some .boolean), RL, 8, 185, [])) (bt_L_law.getD 79 bi_kd) [[]] [] = true := by decide +kernel
theorem bo_L_law_80 : bi_okkB bt_M bt_P 223 ((yL_law, cL_law, 7, (some .boolean), RL, 8, 185, [])) (bt_L_law.getD 80 bi_kd) [[]] [] = true := by decide +kernel
theorem bm_L_law : ∀ b k, bt_P 223 b = some k → bi_okk bt_M bt_P 223 ((yL_law, cL_law, 7, (some .boolean), RL, 8, 185, [])) k := fun b k h => bi_allk (show bt_L_law[b]? = some k from h) (fun b hb => match b, hb with
  | 0, _ => bi_okkB_ok bo_L_law_0
  | 1, _ => bi_okkB_ok bo_L_law_1
  | 2, _ => bi_okkB_ok bo_L_law_2
  | 3, _ => bi_okkB_ok bo_L_law_3
  | 4, _ => bi_okkB_ok bo_L_law_4
  | 5, _ => bi_okkB_ok bo_L_law_5
  | 6, _ => bi_okkB_ok bo_L_law_6
  | 7, _ => bi_okkB_ok bo_L_law_7
  | 8, _ => bi_okkB_ok bo_L_law_8
  | 9, _ => bi_okkB_ok bo_L_law_9
  | 10, _ => bi_okkB_ok bo_L_law_10
  | 11, _ => bi_okkB_ok bo_L_law_11
  | 12, _ => bi_okkB_ok bo_L_law_12
  | 13, _ => bi_okkB_ok bo_L_law_13
  | 14, _ => bi_okkB_ok bo_L_law_14
  | 15, _ => bi_okkB_ok bo_L_law_15
  | 16, _ => bi_okkB_ok bo_L_law_16
  | 17, _ => bi_okkB_ok bo_L_law_17
  | 18, _ => bi_okkB_ok bo_L_law_18
  | 19, _ => bi_okkB_ok bo_L_law_19
  | 20, _ => bi_okkB_ok bo_L_law_20
  | 21, _ => bi_okkB_ok bo_L_law_21
  | 22, _ => bi_okkB_ok bo_L_law_22
  | 23, _ => bi_okkB_ok bo_L_law_23
  | 24, _ => bi_okkB_ok bo_L_law_24
  | 25, _ => bi_okkB_ok bo_L_law_25
  | 26, _ => bi_okkB_ok bo_L_law_26
  | 27, _ => bi_okkB_ok bo_L_law_27
  | 28, _ => bi_okkB_ok bo_L_law_28
  | 29, _ => bi_okkB_ok bo_L_law_29
  | 30, _ => bi_okkB_ok bo_L_law_30
  | 31, _ => bi_okkB_ok bo_L_law_31
  | 32, _ => bi_okkB_ok bo_L_law_32
  | 33, _ => bi_okkB_ok bo_L_law_33
  | 34, _ => bi_okkB_ok bo_L_law_34
  | 35, _ => bi_okkB_ok bo_L_law_35
  | 36, _ => bi_okkB_ok bo_L_law_36
  | 37, _ => bi_okkB_ok bo_L_law_37
  | 38, _ => bi_okkB_ok bo_L_law_38
  | 39, _ => bi_okkB_ok bo_L_law_39
  | 40, _ => bi_okkB_ok bo_L_law_40
  | 41, _ => bi_okkB_ok bo_L_law_41
  | 42, _ => bi_okkB_ok bo_L_law_42
  | 43, _ => bi_okkB_ok bo_L_law_43
  | 44, _ => bi_okkB_ok bo_L_law_44
  | 45, _ => bi_okkB_ok bo_L_law_45
  | 46, _ => bi_okkB_ok bo_L_law_46
  | 47, _ => bi_okkB_ok bo_L_law_47
  | 48, _ => bi_okkB_ok bo_L_law_48
  | 49, _ => bi_okkB_ok bo_L_law_49
  | 50, _ => bi_okkB_ok bo_L_law_50
  | 51, _ => bi_okkB_ok bo_L_law_51
  | 52, _ => bi_okkB_ok bo_L_law_52
  | 53, _ => bi_okkB_ok bo_L_law_53
  | 54, _ => bi_okkB_ok bo_L_law_54
  | 55, _ => bi_okkB_ok bo_L_law_55
  | 56, _ => bi_okkB_ok bo_L_law_56
  | 57, _ => bi_okkB_ok bo_L_law_57
  | 58, _ => bi_okkB_ok bo_L_law_58
  | 59, _ => bi_okkB_ok bo_L_law_59
  | 60, _ => bi_okkB_ok bo_L_law_60
  | 61, _ => bi_okkB_ok bo_L_law_61
  | 62, _ => bi_okkB_ok bo_L_law_62
  | 63, _ => bi_okkB_ok bo_L_law_63
  | 64, _ => bi_okkB_ok bo_L_law_64
  | 65, _ => bi_okkB_ok bo_L_law_65
  | 66, _ => bi_okkB_ok bo_L_law_66
  | 67, _ => bi_okkB_ok bo_L_law_67
  | 68, _ => bi_okkB_ok bo_L_law_68
  | 69, _ => bi_okkB_ok bo_L_law_69
  | 70, _ => bi_okkB_ok bo_L_law_70
  | 71, _ => bi_okkB_ok bo_L_law_71
  | 72, _ => bi_okkB_ok bo_L_law_72
  | 73, _ => bi_okkB_ok bo_L_law_73
  | 74, _ => bi_okkB_ok bo_L_law_74
  | 75, _ => bi_okkB_ok bo_L_law_75
  | 76, _ => bi_okkB_ok bo_L_law_76
  | 77, _ => bi_okkB_ok bo_L_law_77
  | 78, _ => bi_okkB_ok bo_L_law_78
  | 79, _ => bi_okkB_ok bo_L_law_79
  | 80, _ => bi_okkB_ok bo_L_law_80
  | b + 81, hb => absurd hb (by show ¬ b + 81 < 81; omega))
end
section
/-! all methods -/
theorem bt_ok : ∀ mi q, bt_M mi = some q → bi_okm bt_M bt_P mi q := fun mi q h => match mi, h with
  | 0, h => by cases h; exact ⟨by decide +kernel, rfl, rfl, bm_J7_copyOf_59c91⟩
  | 1, h => by cases h; exact ⟨by decide +kernel, rfl, rfl, bm_J9_floorMod_7cf53⟩
  | 2, h => by cases h; exact ⟨by decide +kernel, rfl, rfl, bm_J9_max_7cf53⟩
  | 3, h => by cases h; exact ⟨by decide +kernel, rfl, rfl, bm_J9_min_7cf53⟩
  | 4, h => by cases h; exact ⟨by decide +kernel, rfl, rfl, bm_X0_add⟩
  | 5, h => by cases h; exact ⟨by decide +kernel, rfl, rfl, bm_X0_at⟩
  | 6, h => by cases h; exact ⟨by decide +kernel, rfl, rfl, bm_X0_drop⟩
  | 7, h => by cases h; exact ⟨by decide +kernel, rfl, rfl, bm_X0_init⟩
  | 8, h => by cases h; exact ⟨by decide +kernel, rfl, rfl, bm_X10_init⟩
  | 9, h => by cases h; exact ⟨by decide +kernel, rfl, rfl, bm_X11_drop⟩
  | 10, h => by cases h; exact ⟨by decide +kernel, rfl, rfl, bm_X11_find⟩
  | 11, h => by cases h; exact ⟨by decide +kernel, rfl, rfl, bm_X11_hasAll⟩
  | 12, h => by cases h; exact ⟨by decide +kernel, rfl, rfl, bm_X11_init⟩
  | 13, h => by cases h; exact ⟨by decide +kernel, rfl, rfl, bm_X11_isPinned⟩
  | 14, h => by cases h; exact ⟨by decide +kernel, rfl, rfl, bm_X11_latest⟩
  | 15, h => by cases h; exact ⟨by decide +kernel, rfl, rfl, bm_X11_latestLine⟩
  | 16, h => by cases h; exact ⟨by decide +kernel, rfl, rfl, bm_X11_snaps⟩
  | 17, h => by cases h; exact ⟨by decide +kernel, rfl, rfl, bm_X11_stagesNothing⟩
  | 18, h => by cases h; exact ⟨by decide +kernel, rfl, rfl, bm_X11_thins⟩
  | 19, h => by cases h; exact ⟨by decide +kernel, rfl, rfl, bm_X12_accepted⟩
  | 20, h => by cases h; exact ⟨by decide +kernel, rfl, rfl, bm_X12_acknowledged⟩
  | 21, h => by cases h; exact ⟨by decide +kernel, rfl, rfl, bm_X12_act⟩
  | 22, h => by cases h; exact ⟨by decide +kernel, rfl, rfl, bm_X12_acts⟩
  | 23, h => by cases h; exact ⟨by decide +kernel, rfl, rfl, bm_X12_after⟩
  | 24, h => by cases h; exact ⟨by decide +kernel, rfl, rfl, bm_X12_against⟩
  | 25, h => by cases h; exact ⟨by decide +kernel, rfl, rfl, bm_X12_back⟩
  | 26, h => by cases h; exact ⟨by decide +kernel, rfl, rfl, bm_X12_begins⟩
  | 27, h => by cases h; exact ⟨by decide +kernel, rfl, rfl, bm_X12_checkpoint⟩
  | 28, h => by cases h; exact ⟨by decide +kernel, rfl, rfl, bm_X12_checks⟩
  | 29, h => by cases h; exact ⟨by decide +kernel, rfl, rfl, bm_X12_copies⟩
  | 30, h => by cases h; exact ⟨by decide +kernel, rfl, rfl, bm_X12_crash⟩
  | 31, h => by cases h; exact ⟨by decide +kernel, rfl, rfl, bm_X12_cut⟩
  | 32, h => by cases h; exact ⟨by decide +kernel, rfl, rfl, bm_X12_data⟩
  | 33, h => by cases h; exact ⟨by decide +kernel, rfl, rfl, bm_X12_differ⟩
  | 34, h => by cases h; exact ⟨by decide +kernel, rfl, rfl, bm_X12_different⟩
  | 35, h => by cases h; exact ⟨by decide +kernel, rfl, rfl, bm_X12_fails⟩
  | 36, h => by cases h; exact ⟨by decide +kernel, rfl, rfl, bm_X12_fill⟩
  | 37, h => by cases h; exact ⟨by decide +kernel, rfl, rfl, bm_X12_flies⟩
  | 38, h => by cases h; exact ⟨by decide +kernel, rfl, rfl, bm_X12_flush⟩
  | 39, h => by cases h; exact ⟨by decide +kernel, rfl, rfl, bm_X12_flushes⟩
  | 40, h => by cases h; exact ⟨by decide +kernel, rfl, rfl, bm_X12_follows⟩
  | 41, h => by cases h; exact ⟨by decide +kernel, rfl, rfl, bm_X12_force⟩
  | 42, h => by cases h; exact ⟨by decide +kernel, rfl, rfl, bm_X12_free⟩
  | 43, h => by cases h; exact ⟨by decide +kernel, rfl, rfl, bm_X12_given⟩
  | 44, h => by cases h; exact ⟨by decide +kernel, rfl, rfl, bm_X12_goesBack⟩
  | 45, h => by cases h; exact ⟨by decide +kernel, rfl, rfl, bm_X12_goesDown⟩
  | 46, h => by cases h; exact ⟨by decide +kernel, rfl, rfl, bm_X12_greeted⟩
  | 47, h => by cases h; exact ⟨by decide +kernel, rfl, rfl, bm_X12_group⟩
  | 48, h => by cases h; exact ⟨by decide +kernel, rfl, rfl, bm_X12_had⟩
  | 49, h => by cases h; exact ⟨by decide +kernel, rfl, rfl, bm_X12_init⟩
  | 50, h => by cases h; exact ⟨by decide +kernel, rfl, rfl, bm_X12_isPlace⟩
  | 51, h => by cases h; exact ⟨by decide +kernel, rfl, rfl, bm_X12_isSite⟩
  | 52, h => by cases h; exact ⟨by decide +kernel, rfl, rfl, bm_X12_isTaken⟩
  | 53, h => by cases h; exact ⟨by decide +kernel, rfl, rfl, bm_X12_item⟩
  | 54, h => by cases h; exact ⟨by decide +kernel, rfl, rfl, bm_X12_know⟩
  | 55, h => by cases h; exact ⟨by decide +kernel, rfl, rfl, bm_X12_lacked⟩
  | 56, h => by cases h; exact ⟨by decide +kernel, rfl, rfl, bm_X12_leave⟩
  | 57, h => by cases h; exact ⟨by decide +kernel, rfl, rfl, bm_X12_lineOf⟩
  | 58, h => by cases h; exact ⟨by decide +kernel, rfl, rfl, bm_X12_lost⟩
  | 59, h => by cases h; exact ⟨by decide +kernel, rfl, rfl, bm_X12_message⟩
  | 60, h => by cases h; exact ⟨by decide +kernel, rfl, rfl, bm_X12_needs⟩
  | 61, h => by cases h; exact ⟨by decide +kernel, rfl, rfl, bm_X12_nodes⟩
  | 62, h => by cases h; exact ⟨by decide +kernel, rfl, rfl, bm_X12_of⟩
  | 63, h => by cases h; exact ⟨by decide +kernel, rfl, rfl, bm_X12_offered⟩
  | 64, h => by cases h; exact ⟨by decide +kernel, rfl, rfl, bm_X12_offers⟩
  | 65, h => by cases h; exact ⟨by decide +kernel, rfl, rfl, bm_X12_old⟩
  | 66, h => by cases h; exact ⟨by decide +kernel, rfl, rfl, bm_X12_other⟩
  | 67, h => by cases h; exact ⟨by decide +kernel, rfl, rfl, bm_X12_pass⟩
  | 68, h => by cases h; exact ⟨by decide +kernel, rfl, rfl, bm_X12_path⟩
  | 69, h => by cases h; exact ⟨by decide +kernel, rfl, rfl, bm_X12_period⟩
  | 70, h => by cases h; exact ⟨by decide +kernel, rfl, rfl, bm_X12_piece⟩
  | 71, h => by cases h; exact ⟨by decide +kernel, rfl, rfl, bm_X12_power⟩
  | 72, h => by cases h; exact ⟨by decide +kernel, rfl, rfl, bm_X12_read⟩
  | 73, h => by cases h; exact ⟨by decide +kernel, rfl, rfl, bm_X12_receive⟩
  | 74, h => by cases h; exact ⟨by decide +kernel, rfl, rfl, bm_X12_send⟩
  | 75, h => by cases h; exact ⟨by decide +kernel, rfl, rfl, bm_X12_sendsOn⟩
  | 76, h => by cases h; exact ⟨by decide +kernel, rfl, rfl, bm_X12_snap⟩
  | 77, h => by cases h; exact ⟨by decide +kernel, rfl, rfl, bm_X12_snapshot⟩
  | 78, h => by cases h; exact ⟨by decide +kernel, rfl, rfl, bm_X12_span⟩
  | 79, h => by cases h; exact ⟨by decide +kernel, rfl, rfl, bm_X12_spanOf⟩
  | 80, h => by cases h; exact ⟨by decide +kernel, rfl, rfl, bm_X12_staged⟩
  | 81, h => by cases h; exact ⟨by decide +kernel, rfl, rfl, bm_X12_stagesJust⟩
  | 82, h => by cases h; exact ⟨by decide +kernel, rfl, rfl, bm_X12_state⟩
  | 83, h => by cases h; exact ⟨by decide +kernel, rfl, rfl, bm_X12_stay⟩
  | 84, h => by cases h; exact ⟨by decide +kernel, rfl, rfl, bm_X12_sum⟩
  | 85, h => by cases h; exact ⟨by decide +kernel, rfl, rfl, bm_X12_takes⟩
  | 86, h => by cases h; exact ⟨by decide +kernel, rfl, rfl, bm_X12_thrown⟩
  | 87, h => by cases h; exact ⟨by decide +kernel, rfl, rfl, bm_X12_tick⟩
  | 88, h => by cases h; exact ⟨by decide +kernel, rfl, rfl, bm_X12_ticks⟩
  | 89, h => by cases h; exact ⟨by decide +kernel, rfl, rfl, bm_X12_total⟩
  | 90, h => by cases h; exact ⟨by decide +kernel, rfl, rfl, bm_X12_up⟩
  | 91, h => by cases h; exact ⟨by decide +kernel, rfl, rfl, bm_X12_write⟩
  | 92, h => by cases h; exact ⟨by decide +kernel, rfl, rfl, bm_X12_writes⟩
  | 93, h => by cases h; exact ⟨by decide +kernel, rfl, rfl, bm_X1_begin⟩
  | 94, h => by cases h; exact ⟨by decide +kernel, rfl, rfl, bm_X1_init⟩
  | 95, h => by cases h; exact ⟨by decide +kernel, rfl, rfl, bm_X1_mark⟩
  | 96, h => by cases h; exact ⟨by decide +kernel, rfl, rfl, bm_X2_init⟩
  | 97, h => by cases h; exact ⟨by decide +kernel, rfl, rfl, bm_X2_itemCount⟩
  | 98, h => by cases h; exact ⟨by decide +kernel, rfl, rfl, bm_X3_add⟩
  | 99, h => by cases h; exact ⟨by decide +kernel, rfl, rfl, bm_X3_begin⟩
  | 100, h => by cases h; exact ⟨by decide +kernel, rfl, rfl, bm_X3_init⟩
  | 101, h => by cases h; exact ⟨by decide +kernel, rfl, rfl, bm_X3_sink⟩
  | 102, h => by cases h; exact ⟨by decide +kernel, rfl, rfl, bm_X3_sort⟩
  | 103, h => by cases h; exact ⟨by decide +kernel, rfl, rfl, bm_X4_act⟩
  | 104, h => by cases h; exact ⟨by decide +kernel, rfl, rfl, bm_X4_act_⟩
  | 105, h => by cases h; exact ⟨by decide +kernel, rfl, rfl, bm_X4_fail⟩
  | 106, h => by cases h; exact ⟨by decide +kernel, rfl, rfl, bm_X4_init⟩
  | 107, h => by cases h; exact ⟨by decide +kernel, rfl, rfl, bm_X5_add⟩
  | 108, h => by cases h; exact ⟨by decide +kernel, rfl, rfl, bm_X5_begin⟩
  | 109, h => by cases h; exact ⟨by decide +kernel, rfl, rfl, bm_X5_clear⟩
  | 110, h => by cases h; exact ⟨by decide +kernel, rfl, rfl, bm_X5_hasAll⟩
  | 111, h => by cases h; exact ⟨by decide +kernel, rfl, rfl, bm_X5_init⟩
  | 112, h => by cases h; exact ⟨by decide +kernel, rfl, rfl, bm_X5_isOf⟩
  | 113, h => by cases h; exact ⟨by decide +kernel, rfl, rfl, bm_X6_beginEpoch⟩
  | 114, h => by cases h; exact ⟨by decide +kernel, rfl, rfl, bm_X6_blocks⟩
  | 115, h => by cases h; exact ⟨by decide +kernel, rfl, rfl, bm_X6_forgetOther⟩
  | 116, h => by cases h; exact ⟨by decide +kernel, rfl, rfl, bm_X6_hold⟩
  | 117, h => by cases h; exact ⟨by decide +kernel, rfl, rfl, bm_X6_init⟩
  | 118, h => by cases h; exact ⟨by decide +kernel, rfl, rfl, bm_X6_isPinned⟩
  | 119, h => by cases h; exact ⟨by decide +kernel, rfl, rfl, bm_X6_isSource⟩
  | 120, h => by cases h; exact ⟨by decide +kernel, rfl, rfl, bm_X6_learnEpoch⟩
  | 121, h => by cases h; exact ⟨by decide +kernel, rfl, rfl, bm_X6_sends⟩
  | 122, h => by cases h; exact ⟨by decide +kernel, rfl, rfl, bm_X6_thin⟩
  | 123, h => by cases h; exact ⟨by decide +kernel, rfl, rfl, bm_X6_waitedEnough⟩
  | 124, h => by cases h; exact ⟨by decide +kernel, rfl, rfl, bm_X6_wake⟩
  | 125, h => by cases h; exact ⟨by decide +kernel, rfl, rfl, bm_X7_adopt⟩
  | 126, h => by cases h; exact ⟨by decide +kernel, rfl, rfl, bm_X7_advance⟩
  | 127, h => by cases h; exact ⟨by decide +kernel, rfl, rfl, bm_X7_drop⟩
  | 128, h => by cases h; exact ⟨by decide +kernel, rfl, rfl, bm_X7_find⟩
  | 129, h => by cases h; exact ⟨by decide +kernel, rfl, rfl, bm_X7_hasPlace⟩
  | 130, h => by cases h; exact ⟨by decide +kernel, rfl, rfl, bm_X7_hasSnapshot⟩
  | 131, h => by cases h; exact ⟨by decide +kernel, rfl, rfl, bm_X7_init⟩
  | 132, h => by cases h; exact ⟨by decide +kernel, rfl, rfl, bm_X7_journal⟩
  | 133, h => by cases h; exact ⟨by decide +kernel, rfl, rfl, bm_X7_keepNow⟩
  | 134, h => by cases h; exact ⟨by decide +kernel, rfl, rfl, bm_X7_latest⟩
  | 135, h => by cases h; exact ⟨by decide +kernel, rfl, rfl, bm_X7_latestLength⟩
  | 136, h => by cases h; exact ⟨by decide +kernel, rfl, rfl, bm_X7_latestLine⟩
  | 137, h => by cases h; exact ⟨by decide +kernel, rfl, rfl, bm_X7_lengthOf⟩
  | 138, h => by cases h; exact ⟨by decide +kernel, rfl, rfl, bm_X7_lengthOfId⟩
  | 139, h => by cases h; exact ⟨by decide +kernel, rfl, rfl, bm_X7_lineOf⟩
  | 140, h => by cases h; exact ⟨by decide +kernel, rfl, rfl, bm_X7_losePending⟩
  | 141, h => by cases h; exact ⟨by decide +kernel, rfl, rfl, bm_X7_nowIsLatest⟩
  | 142, h => by cases h; exact ⟨by decide +kernel, rfl, rfl, bm_X7_numberAt⟩
  | 143, h => by cases h; exact ⟨by decide +kernel, rfl, rfl, bm_X7_oldNumberAt⟩
  | 144, h => by cases h; exact ⟨by decide +kernel, rfl, rfl, bm_X7_pending⟩
  | 145, h => by cases h; exact ⟨by decide +kernel, rfl, rfl, bm_X7_put⟩
  | 146, h => by cases h; exact ⟨by decide +kernel, rfl, rfl, bm_X7_returnTo⟩
  | 147, h => by cases h; exact ⟨by decide +kernel, rfl, rfl, bm_X7_rewind⟩
  | 148, h => by cases h; exact ⟨by decide +kernel, rfl, rfl, bm_X7_save⟩
  | 149, h => by cases h; exact ⟨by decide +kernel, rfl, rfl, bm_X7_shelve⟩
  | 150, h => by cases h; exact ⟨by decide +kernel, rfl, rfl, bm_X8_collect⟩
  | 151, h => by cases h; exact ⟨by decide +kernel, rfl, rfl, bm_X8_extend⟩
  | 152, h => by cases h; exact ⟨by decide +kernel, rfl, rfl, bm_X8_grow⟩
  | 153, h => by cases h; exact ⟨by decide +kernel, rfl, rfl, bm_X8_init⟩
  | 154, h => by cases h; exact ⟨by decide +kernel, rfl, rfl, bm_X8_nodesBehind⟩
  | 155, h => by cases h; exact ⟨by decide +kernel, rfl, rfl, bm_X8_placesBehind⟩
  | 156, h => by cases h; exact ⟨by decide +kernel, rfl, rfl, bm_X8_placesInBoth⟩
  | 157, h => by cases h; exact ⟨by decide +kernel, rfl, rfl, bm_X8_told⟩
  | 158, h => by cases h; exact ⟨by decide +kernel, rfl, rfl, bm_X9_back⟩
  | 159, h => by cases h; exact ⟨by decide +kernel, rfl, rfl, bm_X9_checkpoint⟩
  | 160, h => by cases h; exact ⟨by decide +kernel, rfl, rfl, bm_X9_checkpointed⟩
  | 161, h => by cases h; exact ⟨by decide +kernel, rfl, rfl, bm_X9_commit⟩
  | 162, h => by cases h; exact ⟨by decide +kernel, rfl, rfl, bm_X9_crash⟩
  | 163, h => by cases h; exact ⟨by decide +kernel, rfl, rfl, bm_X9_differ⟩
  | 164, h => by cases h; exact ⟨by decide +kernel, rfl, rfl, bm_X9_fill⟩
  | 165, h => by cases h; exact ⟨by decide +kernel, rfl, rfl, bm_X9_flush⟩
  | 166, h => by cases h; exact ⟨by decide +kernel, rfl, rfl, bm_X9_flushed⟩
  | 167, h => by cases h; exact ⟨by decide +kernel, rfl, rfl, bm_X9_force⟩
  | 168, h => by cases h; exact ⟨by decide +kernel, rfl, rfl, bm_X9_freeBlocks⟩
  | 169, h => by cases h; exact ⟨by decide +kernel, rfl, rfl, bm_X9_group⟩
  | 170, h => by cases h; exact ⟨by decide +kernel, rfl, rfl, bm_X9_handOver⟩
  | 171, h => by cases h; exact ⟨by decide +kernel, rfl, rfl, bm_X9_init⟩
  | 172, h => by cases h; exact ⟨by decide +kernel, rfl, rfl, bm_X9_item⟩
  | 173, h => by cases h; exact ⟨by decide +kernel, rfl, rfl, bm_X9_leave⟩
  | 174, h => by cases h; exact ⟨by decide +kernel, rfl, rfl, bm_X9_lost⟩
  | 175, h => by cases h; exact ⟨by decide +kernel, rfl, rfl, bm_X9_message⟩
  | 176, h => by cases h; exact ⟨by decide +kernel, rfl, rfl, bm_X9_nextEpoch⟩
  | 177, h => by cases h; exact ⟨by decide +kernel, rfl, rfl, bm_X9_old⟩
  | 178, h => by cases h; exact ⟨by decide +kernel, rfl, rfl, bm_X9_onAccept⟩
  | 179, h => by cases h; exact ⟨by decide +kernel, rfl, rfl, bm_X9_onAck⟩
  | 180, h => by cases h; exact ⟨by decide +kernel, rfl, rfl, bm_X9_onCommon⟩
  | 181, h => by cases h; exact ⟨by decide +kernel, rfl, rfl, bm_X9_onData⟩
  | 182, h => by cases h; exact ⟨by decide +kernel, rfl, rfl, bm_X9_onGive⟩
  | 183, h => by cases h; exact ⟨by decide +kernel, rfl, rfl, bm_X9_onHave⟩
  | 184, h => by cases h; exact ⟨by decide +kernel, rfl, rfl, bm_X9_onHello⟩
  | 185, h => by cases h; exact ⟨by decide +kernel, rfl, rfl, bm_X9_onLack⟩
  | 186, h => by cases h; exact ⟨by decide +kernel, rfl, rfl, bm_X9_onOffer⟩
  | 187, h => by cases h; exact ⟨by decide +kernel, rfl, rfl, bm_X9_pass⟩
  | 188, h => by cases h; exact ⟨by decide +kernel, rfl, rfl, bm_X9_period⟩
  | 189, h => by cases h; exact ⟨by decide +kernel, rfl, rfl, bm_X9_power⟩
  | 190, h => by cases h; exact ⟨by decide +kernel, rfl, rfl, bm_X9_read⟩
  | 191, h => by cases h; exact ⟨by decide +kernel, rfl, rfl, bm_X9_receive⟩
  | 192, h => by cases h; exact ⟨by decide +kernel, rfl, rfl, bm_X9_refusalOf⟩
  | 193, h => by cases h; exact ⟨by decide +kernel, rfl, rfl, bm_X9_send⟩
  | 194, h => by cases h; exact ⟨by decide +kernel, rfl, rfl, bm_X9_sendData⟩
  | 195, h => by cases h; exact ⟨by decide +kernel, rfl, rfl, bm_X9_sendForward⟩
  | 196, h => by cases h; exact ⟨by decide +kernel, rfl, rfl, bm_X9_sendGive⟩
  | 197, h => by cases h; exact ⟨by decide +kernel, rfl, rfl, bm_X9_sendHello⟩
  | 198, h => by cases h; exact ⟨by decide +kernel, rfl, rfl, bm_X9_sendOffer⟩
  | 199, h => by cases h; exact ⟨by decide +kernel, rfl, rfl, bm_X9_sendOn⟩
  | 200, h => by cases h; exact ⟨by decide +kernel, rfl, rfl, bm_X9_sendProgress⟩
  | 201, h => by cases h; exact ⟨by decide +kernel, rfl, rfl, bm_X9_snap⟩
  | 202, h => by cases h; exact ⟨by decide +kernel, rfl, rfl, bm_X9_snapshot⟩
  | 203, h => by cases h; exact ⟨by decide +kernel, rfl, rfl, bm_X9_spotOf⟩
  | 204, h => by cases h; exact ⟨by decide +kernel, rfl, rfl, bm_X9_state⟩
  | 205, h => by cases h; exact ⟨by decide +kernel, rfl, rfl, bm_X9_stay⟩
  | 206, h => by cases h; exact ⟨by decide +kernel, rfl, rfl, bm_X9_storeOf⟩
  | 207, h => by cases h; exact ⟨by decide +kernel, rfl, rfl, bm_X9_sum⟩
  | 208, h => by cases h; exact ⟨by decide +kernel, rfl, rfl, bm_X9_tick⟩
  | 209, h => by cases h; exact ⟨by decide +kernel, rfl, rfl, bm_X9_tickOf⟩
  | 210, h => by cases h; exact ⟨by decide +kernel, rfl, rfl, bm_X9_tookSnapshot⟩
  | 211, h => by cases h; exact ⟨by decide +kernel, rfl, rfl, bm_X9_total⟩
  | 212, h => by cases h; exact ⟨by decide +kernel, rfl, rfl, bm_X9_totalOf⟩
  | 213, h => by cases h; exact ⟨by decide +kernel, rfl, rfl, bm_X9_up⟩
  | 214, h => by cases h; exact ⟨by decide +kernel, rfl, rfl, bm_X9_write⟩
  | 215, h => by cases h; exact ⟨by decide +kernel, rfl, rfl, bm_X9_writeOne⟩
  | 216, h => by cases h; exact ⟨by decide +kernel, rfl, rfl, bm_L_cell⟩
  | 217, h => by cases h; exact ⟨by decide +kernel, rfl, rfl, bm_L_differ⟩
  | 218, h => by cases h; exact ⟨by decide +kernel, rfl, rfl, bm_L_item⟩
  | 219, h => by cases h; exact ⟨by decide +kernel, rfl, rfl, bm_L_lost⟩
  | 220, h => by cases h; exact ⟨by decide +kernel, rfl, rfl, bm_L_old⟩
  | 221, h => by cases h; exact ⟨by decide +kernel, rfl, rfl, bm_L_read⟩
  | 222, h => by cases h; exact ⟨by decide +kernel, rfl, rfl, bm_L_sum⟩
  | 223, h => by cases h; exact ⟨by decide +kernel, rfl, rfl, bm_L_law⟩
  | mi + 224, h => by simp [bt_M, bt_Ms] at h
end
