-- ===== PART A: goes FIRST, ahead of the names: the tables' words, and 'selects' of the private methods out of them =====
/-- a private method of a class that the tables say can be made, by its rows of tables_1 -/
def lw_okq (q : MethodName × Nat) : Prop := (q.1.cls ≠ "java/lang/invoke/MethodHandle" ∧ q.1.cls ≠ "java/lang/invoke/VarHandle") ∧ Cond.instantiable q.1.cls q.2 ∈ tables_1 ∧ Cond.privateMethod q.1 ∈ tables_1 ∧ Cond.instanceMethod q.1 ∈ tables_1
theorem lw_p0 : lw_okq (⟨"ProphecyShop", "openShop", "()I"⟩, 13) := ⟨⟨by decide +kernel, by decide +kernel⟩, List.mem_of_getElem? (i := 34) (by decide +kernel), List.mem_of_getElem? (i := 467) (by decide +kernel), List.mem_of_getElem? (i := 468) (by decide +kernel)⟩
theorem lw_p1 : lw_okq (⟨"ProphecyShop$SetupReader", "readShop", "(LProphecyShop$Setup;)V"⟩, 6) := ⟨⟨by decide +kernel, by decide +kernel⟩, List.mem_of_getElem? (i := 56) (by decide +kernel), List.mem_of_getElem? (i := 503) (by decide +kernel), List.mem_of_getElem? (i := 504) (by decide +kernel)⟩
theorem lw_p2 : lw_okq (⟨"ProphecyShop$SetupReader", "readNames", "(Ljava/lang/String;LProphecyShop$Names;)V"⟩, 6) := ⟨⟨by decide +kernel, by decide +kernel⟩, List.mem_of_getElem? (i := 56) (by decide +kernel), List.mem_of_getElem? (i := 555) (by decide +kernel), List.mem_of_getElem? (i := 556) (by decide +kernel)⟩
theorem lw_p3 : lw_okq (⟨"ProphecyShop$SetupReader", "readCustomers", "(LProphecyShop$Setup;)V"⟩, 6) := ⟨⟨by decide +kernel, by decide +kernel⟩, List.mem_of_getElem? (i := 56) (by decide +kernel), List.mem_of_getElem? (i := 596) (by decide +kernel), List.mem_of_getElem? (i := 597) (by decide +kernel)⟩
theorem lw_p4 : lw_okq (⟨"ProphecyShop$SetupReader", "readOwls", "(LProphecyShop$Setup;)V"⟩, 6) := ⟨⟨by decide +kernel, by decide +kernel⟩, List.mem_of_getElem? (i := 56) (by decide +kernel), List.mem_of_getElem? (i := 606) (by decide +kernel), List.mem_of_getElem? (i := 607) (by decide +kernel)⟩
theorem lw_p5 : lw_okq (⟨"ProphecyShop$Script", "closeRepeat", "()V"⟩, 11) := ⟨⟨by decide +kernel, by decide +kernel⟩, List.mem_of_getElem? (i := 92) (by decide +kernel), List.mem_of_getElem? (i := 705) (by decide +kernel), List.mem_of_getElem? (i := 706) (by decide +kernel)⟩
theorem lw_p6 : lw_okq (⟨"ProphecyShop$Script", "addStep", "(I)LProphecyShop$Step;"⟩, 11) := ⟨⟨by decide +kernel, by decide +kernel⟩, List.mem_of_getElem? (i := 92) (by decide +kernel), List.mem_of_getElem? (i := 712) (by decide +kernel), List.mem_of_getElem? (i := 713) (by decide +kernel)⟩
theorem lw_p7 : lw_okq (⟨"ProphecyShop$Script", "stepAt", "(I)LProphecyShop$Step;"⟩, 11) := ⟨⟨by decide +kernel, by decide +kernel⟩, List.mem_of_getElem? (i := 92) (by decide +kernel), List.mem_of_getElem? (i := 716) (by decide +kernel), List.mem_of_getElem? (i := 717) (by decide +kernel)⟩
theorem lw_p8 : lw_okq (⟨"ProphecyShop$Script", "readCommand", "(LProphecyShop$Setup;)V"⟩, 11) := ⟨⟨by decide +kernel, by decide +kernel⟩, List.mem_of_getElem? (i := 92) (by decide +kernel), List.mem_of_getElem? (i := 720) (by decide +kernel), List.mem_of_getElem? (i := 721) (by decide +kernel)⟩
theorem lw_p9 : lw_okq (⟨"ProphecyShop$Script", "addCommand", "(Ljava/lang/String;I)LProphecyShop$Step;"⟩, 11) := ⟨⟨by decide +kernel, by decide +kernel⟩, List.mem_of_getElem? (i := 92) (by decide +kernel), List.mem_of_getElem? (i := 728) (by decide +kernel), List.mem_of_getElem? (i := 729) (by decide +kernel)⟩
theorem lw_p10 : lw_okq (⟨"ProphecyShop$Script", "readSell", "(LProphecyShop$Step;LProphecyShop$Setup;)V"⟩, 11) := ⟨⟨by decide +kernel, by decide +kernel⟩, List.mem_of_getElem? (i := 92) (by decide +kernel), List.mem_of_getElem? (i := 735) (by decide +kernel), List.mem_of_getElem? (i := 736) (by decide +kernel)⟩
theorem lw_p11 : lw_okq (⟨"ProphecyShop$Script", "takeProphecyKind", "()I"⟩, 11) := ⟨⟨by decide +kernel, by decide +kernel⟩, List.mem_of_getElem? (i := 92) (by decide +kernel), List.mem_of_getElem? (i := 745) (by decide +kernel), List.mem_of_getElem? (i := 746) (by decide +kernel)⟩
theorem lw_p12 : lw_okq (⟨"ProphecyShop$Script", "readHappen", "(LProphecyShop$Step;LProphecyShop$Setup;)V"⟩, 11) := ⟨⟨by decide +kernel, by decide +kernel⟩, List.mem_of_getElem? (i := 92) (by decide +kernel), List.mem_of_getElem? (i := 759) (by decide +kernel), List.mem_of_getElem? (i := 760) (by decide +kernel)⟩
theorem lw_p13 : lw_okq (⟨"ProphecyShop$Script", "openRepeat", "()V"⟩, 11) := ⟨⟨by decide +kernel, by decide +kernel⟩, List.mem_of_getElem? (i := 92) (by decide +kernel), List.mem_of_getElem? (i := 766) (by decide +kernel), List.mem_of_getElem? (i := 767) (by decide +kernel)⟩
theorem lw_p14 : lw_okq (⟨"ProphecyShop$History", "forgetOldest", "()V"⟩, 2) := ⟨⟨by decide +kernel, by decide +kernel⟩, List.mem_of_getElem? (i := 396) (by decide +kernel), List.mem_of_getElem? (i := 777) (by decide +kernel), List.mem_of_getElem? (i := 778) (by decide +kernel)⟩
theorem lw_p15 : lw_okq (⟨"ProphecyShop$Shop", "addCoins", "(II)V"⟩, 15) := ⟨⟨by decide +kernel, by decide +kernel⟩, List.mem_of_getElem? (i := 254) (by decide +kernel), List.mem_of_getElem? (i := 845) (by decide +kernel), List.mem_of_getElem? (i := 846) (by decide +kernel)⟩
def lw_privs_1 : List (MethodName × Nat) := [(⟨"ProphecyShop", "openShop", "()I"⟩, 13), (⟨"ProphecyShop$SetupReader", "readShop", "(LProphecyShop$Setup;)V"⟩, 6), (⟨"ProphecyShop$SetupReader", "readNames", "(Ljava/lang/String;LProphecyShop$Names;)V"⟩, 6), (⟨"ProphecyShop$SetupReader", "readCustomers", "(LProphecyShop$Setup;)V"⟩, 6), (⟨"ProphecyShop$SetupReader", "readOwls", "(LProphecyShop$Setup;)V"⟩, 6), (⟨"ProphecyShop$Script", "closeRepeat", "()V"⟩, 11), (⟨"ProphecyShop$Script", "addStep", "(I)LProphecyShop$Step;"⟩, 11), (⟨"ProphecyShop$Script", "stepAt", "(I)LProphecyShop$Step;"⟩, 11), (⟨"ProphecyShop$Script", "readCommand", "(LProphecyShop$Setup;)V"⟩, 11), (⟨"ProphecyShop$Script", "addCommand", "(Ljava/lang/String;I)LProphecyShop$Step;"⟩, 11), (⟨"ProphecyShop$Script", "readSell", "(LProphecyShop$Step;LProphecyShop$Setup;)V"⟩, 11), (⟨"ProphecyShop$Script", "takeProphecyKind", "()I"⟩, 11), (⟨"ProphecyShop$Script", "readHappen", "(LProphecyShop$Step;LProphecyShop$Setup;)V"⟩, 11), (⟨"ProphecyShop$Script", "openRepeat", "()V"⟩, 11), (⟨"ProphecyShop$History", "forgetOldest", "()V"⟩, 2), (⟨"ProphecyShop$Shop", "addCoins", "(II)V"⟩, 15)]
theorem lw_r1 : ∀ q ∈ lw_privs_1, lw_okq q := List.forall_mem_cons.mpr ⟨lw_p0, List.forall_mem_cons.mpr ⟨lw_p1, List.forall_mem_cons.mpr ⟨lw_p2, List.forall_mem_cons.mpr ⟨lw_p3, List.forall_mem_cons.mpr ⟨lw_p4, List.forall_mem_cons.mpr ⟨lw_p5, List.forall_mem_cons.mpr ⟨lw_p6, List.forall_mem_cons.mpr ⟨lw_p7, List.forall_mem_cons.mpr ⟨lw_p8, List.forall_mem_cons.mpr ⟨lw_p9, List.forall_mem_cons.mpr ⟨lw_p10, List.forall_mem_cons.mpr ⟨lw_p11, List.forall_mem_cons.mpr ⟨lw_p12, List.forall_mem_cons.mpr ⟨lw_p13, List.forall_mem_cons.mpr ⟨lw_p14, List.forall_mem_cons.mpr ⟨lw_p15, fun _ h => absurd h List.not_mem_nil⟩⟩⟩⟩⟩⟩⟩⟩⟩⟩⟩⟩⟩⟩⟩⟩
theorem lw_p16 : lw_okq (⟨"ProphecyShop$Shop", "decideOverdue", "()V"⟩, 15) := ⟨⟨by decide +kernel, by decide +kernel⟩, List.mem_of_getElem? (i := 254) (by decide +kernel), List.mem_of_getElem? (i := 869) (by decide +kernel), List.mem_of_getElem? (i := 870) (by decide +kernel)⟩
theorem lw_p17 : lw_okq (⟨"ProphecyShop$Shop", "moveOwls", "()V"⟩, 15) := ⟨⟨by decide +kernel, by decide +kernel⟩, List.mem_of_getElem? (i := 254) (by decide +kernel), List.mem_of_getElem? (i := 877) (by decide +kernel), List.mem_of_getElem? (i := 878) (by decide +kernel)⟩
theorem lw_p18 : lw_okq (⟨"ProphecyShop$Shop", "handleFirstRequest", "()Z"⟩, 15) := ⟨⟨by decide +kernel, by decide +kernel⟩, List.mem_of_getElem? (i := 254) (by decide +kernel), List.mem_of_getElem? (i := 889) (by decide +kernel), List.mem_of_getElem? (i := 890) (by decide +kernel)⟩
theorem lw_p19 : lw_okq (⟨"ProphecyShop$Shop", "firstIdleOwl", "()I"⟩, 15) := ⟨⟨by decide +kernel, by decide +kernel⟩, List.mem_of_getElem? (i := 254) (by decide +kernel), List.mem_of_getElem? (i := 909) (by decide +kernel), List.mem_of_getElem? (i := 910) (by decide +kernel)⟩
theorem lw_p20 : lw_okq (⟨"ProphecyShop$Shop", "pay", "(LProphecyShop$Prophecy;I)V"⟩, 15) := ⟨⟨by decide +kernel, by decide +kernel⟩, List.mem_of_getElem? (i := 254) (by decide +kernel), List.mem_of_getElem? (i := 917) (by decide +kernel), List.mem_of_getElem? (i := 918) (by decide +kernel)⟩
theorem lw_p21 : lw_okq (⟨"ProphecyShop$Shop", "removeFirstRequest", "()V"⟩, 15) := ⟨⟨by decide +kernel, by decide +kernel⟩, List.mem_of_getElem? (i := 254) (by decide +kernel), List.mem_of_getElem? (i := 929) (by decide +kernel), List.mem_of_getElem? (i := 930) (by decide +kernel)⟩
theorem lw_p22 : lw_okq (⟨"java/lang/Throwable", "fillInStackTrace", "(I)Ljava/lang/Throwable;"⟩, 6) := ⟨⟨by decide +kernel, by decide +kernel⟩, List.mem_of_getElem? (i := 1256) (by decide +kernel), List.mem_of_getElem? (i := 1254) (by decide +kernel), List.mem_of_getElem? (i := 1255) (by decide +kernel)⟩
theorem lw_p23 : lw_okq (⟨"ProphecyShop", "prophecyWith", "(I)LProphecyShop$Prophecy;"⟩, 13) := ⟨⟨by decide +kernel, by decide +kernel⟩, List.mem_of_getElem? (i := 34) (by decide +kernel), List.mem_of_getElem? (i := 1444) (by decide +kernel), List.mem_of_getElem? (i := 1445) (by decide +kernel)⟩
theorem lw_p24 : lw_okq (⟨"ProphecyShop", "sellAny", "(IIIIIII)I"⟩, 13) := ⟨⟨by decide +kernel, by decide +kernel⟩, List.mem_of_getElem? (i := 34) (by decide +kernel), List.mem_of_getElem? (i := 1600) (by decide +kernel), List.mem_of_getElem? (i := 1601) (by decide +kernel)⟩
theorem lw_p25 : lw_okq (⟨"ProphecyShopModel", "takesText", "(Ljava/lang/String;)V"⟩, 29) := ⟨⟨by decide +kernel, by decide +kernel⟩, List.mem_of_getElem? (i := 1691) (by decide +kernel), List.mem_of_getElem? (i := 1698) (by decide +kernel), List.mem_of_getElem? (i := 1699) (by decide +kernel)⟩
theorem lw_p26 : lw_okq (⟨"ProphecyShopModel", "starts", "()V"⟩, 29) := ⟨⟨by decide +kernel, by decide +kernel⟩, List.mem_of_getElem? (i := 1691) (by decide +kernel), List.mem_of_getElem? (i := 1704) (by decide +kernel), List.mem_of_getElem? (i := 1705) (by decide +kernel)⟩
theorem lw_p27 : lw_okq (⟨"ProphecyShopModel", "reads", "()V"⟩, 29) := ⟨⟨by decide +kernel, by decide +kernel⟩, List.mem_of_getElem? (i := 1691) (by decide +kernel), List.mem_of_getElem? (i := 1708) (by decide +kernel), List.mem_of_getElem? (i := 1709) (by decide +kernel)⟩
theorem lw_p28 : lw_okq (⟨"ProphecyShopModel", "seen", "(I)I"⟩, 29) := ⟨⟨by decide +kernel, by decide +kernel⟩, List.mem_of_getElem? (i := 1691) (by decide +kernel), List.mem_of_getElem? (i := 1712) (by decide +kernel), List.mem_of_getElem? (i := 1713) (by decide +kernel)⟩
theorem lw_p29 : lw_okq (⟨"ProphecyShopModel", "readsSetup", "()V"⟩, 29) := ⟨⟨by decide +kernel, by decide +kernel⟩, List.mem_of_getElem? (i := 1691) (by decide +kernel), List.mem_of_getElem? (i := 1721) (by decide +kernel), List.mem_of_getElem? (i := 1722) (by decide +kernel)⟩
theorem lw_p30 : lw_okq (⟨"ProphecyShopModel", "isWord", "(Ljava/lang/String;)Z"⟩, 29) := ⟨⟨by decide +kernel, by decide +kernel⟩, List.mem_of_getElem? (i := 1691) (by decide +kernel), List.mem_of_getElem? (i := 1726) (by decide +kernel), List.mem_of_getElem? (i := 1727) (by decide +kernel)⟩
theorem lw_p31 : lw_okq (⟨"ProphecyShopModel", "must", "(ZI)Z"⟩, 29) := ⟨⟨by decide +kernel, by decide +kernel⟩, List.mem_of_getElem? (i := 1691) (by decide +kernel), List.mem_of_getElem? (i := 1730) (by decide +kernel), List.mem_of_getElem? (i := 1731) (by decide +kernel)⟩
def lw_privs_2 : List (MethodName × Nat) := [(⟨"ProphecyShop$Shop", "decideOverdue", "()V"⟩, 15), (⟨"ProphecyShop$Shop", "moveOwls", "()V"⟩, 15), (⟨"ProphecyShop$Shop", "handleFirstRequest", "()Z"⟩, 15), (⟨"ProphecyShop$Shop", "firstIdleOwl", "()I"⟩, 15), (⟨"ProphecyShop$Shop", "pay", "(LProphecyShop$Prophecy;I)V"⟩, 15), (⟨"ProphecyShop$Shop", "removeFirstRequest", "()V"⟩, 15), (⟨"java/lang/Throwable", "fillInStackTrace", "(I)Ljava/lang/Throwable;"⟩, 6), (⟨"ProphecyShop", "prophecyWith", "(I)LProphecyShop$Prophecy;"⟩, 13), (⟨"ProphecyShop", "sellAny", "(IIIIIII)I"⟩, 13), (⟨"ProphecyShopModel", "takesText", "(Ljava/lang/String;)V"⟩, 29), (⟨"ProphecyShopModel", "starts", "()V"⟩, 29), (⟨"ProphecyShopModel", "reads", "()V"⟩, 29), (⟨"ProphecyShopModel", "seen", "(I)I"⟩, 29), (⟨"ProphecyShopModel", "readsSetup", "()V"⟩, 29), (⟨"ProphecyShopModel", "isWord", "(Ljava/lang/String;)Z"⟩, 29), (⟨"ProphecyShopModel", "must", "(ZI)Z"⟩, 29)]
theorem lw_r2 : ∀ q ∈ lw_privs_2, lw_okq q := List.forall_mem_cons.mpr ⟨lw_p16, List.forall_mem_cons.mpr ⟨lw_p17, List.forall_mem_cons.mpr ⟨lw_p18, List.forall_mem_cons.mpr ⟨lw_p19, List.forall_mem_cons.mpr ⟨lw_p20, List.forall_mem_cons.mpr ⟨lw_p21, List.forall_mem_cons.mpr ⟨lw_p22, List.forall_mem_cons.mpr ⟨lw_p23, List.forall_mem_cons.mpr ⟨lw_p24, List.forall_mem_cons.mpr ⟨lw_p25, List.forall_mem_cons.mpr ⟨lw_p26, List.forall_mem_cons.mpr ⟨lw_p27, List.forall_mem_cons.mpr ⟨lw_p28, List.forall_mem_cons.mpr ⟨lw_p29, List.forall_mem_cons.mpr ⟨lw_p30, List.forall_mem_cons.mpr ⟨lw_p31, fun _ h => absurd h List.not_mem_nil⟩⟩⟩⟩⟩⟩⟩⟩⟩⟩⟩⟩⟩⟩⟩⟩
theorem lw_p32 : lw_okq (⟨"ProphecyShopModel", "goesOn", "()V"⟩, 29) := ⟨⟨by decide +kernel, by decide +kernel⟩, List.mem_of_getElem? (i := 1691) (by decide +kernel), List.mem_of_getElem? (i := 1734) (by decide +kernel), List.mem_of_getElem? (i := 1735) (by decide +kernel)⟩
theorem lw_p33 : lw_okq (⟨"ProphecyShopModel", "number", "(II)I"⟩, 29) := ⟨⟨by decide +kernel, by decide +kernel⟩, List.mem_of_getElem? (i := 1691) (by decide +kernel), List.mem_of_getElem? (i := 1739) (by decide +kernel), List.mem_of_getElem? (i := 1740) (by decide +kernel)⟩
theorem lw_p34 : lw_okq (⟨"ProphecyShopModel", "takesSign", "(I)V"⟩, 29) := ⟨⟨by decide +kernel, by decide +kernel⟩, List.mem_of_getElem? (i := 1691) (by decide +kernel), List.mem_of_getElem? (i := 1743) (by decide +kernel), List.mem_of_getElem? (i := 1744) (by decide +kernel)⟩
theorem lw_p35 : lw_okq (⟨"ProphecyShopModel", "isSign", "(I)Z"⟩, 29) := ⟨⟨by decide +kernel, by decide +kernel⟩, List.mem_of_getElem? (i := 1691) (by decide +kernel), List.mem_of_getElem? (i := 1747) (by decide +kernel), List.mem_of_getElem? (i := 1748) (by decide +kernel)⟩
theorem lw_p36 : lw_okq (⟨"ProphecyShopModel", "readsEvent", "()V"⟩, 29) := ⟨⟨by decide +kernel, by decide +kernel⟩, List.mem_of_getElem? (i := 1691) (by decide +kernel), List.mem_of_getElem? (i := 1751) (by decide +kernel), List.mem_of_getElem? (i := 1752) (by decide +kernel)⟩
theorem lw_p37 : lw_okq (⟨"ProphecyShopModel", "looksAtName", "()I"⟩, 29) := ⟨⟨by decide +kernel, by decide +kernel⟩, List.mem_of_getElem? (i := 1691) (by decide +kernel), List.mem_of_getElem? (i := 1756) (by decide +kernel), List.mem_of_getElem? (i := 1757) (by decide +kernel)⟩
theorem lw_p38 : lw_okq (⟨"ProphecyShopModel", "packed", "(II)I"⟩, 29) := ⟨⟨by decide +kernel, by decide +kernel⟩, List.mem_of_getElem? (i := 1691) (by decide +kernel), List.mem_of_getElem? (i := 1760) (by decide +kernel), List.mem_of_getElem? (i := 1761) (by decide +kernel)⟩
theorem lw_p39 : lw_okq (⟨"ProphecyShopModel", "eventNamed", "(I)I"⟩, 29) := ⟨⟨by decide +kernel, by decide +kernel⟩, List.mem_of_getElem? (i := 1691) (by decide +kernel), List.mem_of_getElem? (i := 1764) (by decide +kernel), List.mem_of_getElem? (i := 1765) (by decide +kernel)⟩
theorem lw_p40 : lw_okq (⟨"ProphecyShopModel", "named", "(IIII)I"⟩, 29) := ⟨⟨by decide +kernel, by decide +kernel⟩, List.mem_of_getElem? (i := 1691) (by decide +kernel), List.mem_of_getElem? (i := 1768) (by decide +kernel), List.mem_of_getElem? (i := 1769) (by decide +kernel)⟩
theorem lw_p41 : lw_okq (⟨"ProphecyShopModel", "passesName", "(Z)V"⟩, 29) := ⟨⟨by decide +kernel, by decide +kernel⟩, List.mem_of_getElem? (i := 1691) (by decide +kernel), List.mem_of_getElem? (i := 1772) (by decide +kernel), List.mem_of_getElem? (i := 1773) (by decide +kernel)⟩
theorem lw_p42 : lw_okq (⟨"ProphecyShopModel", "readsPlace", "()V"⟩, 29) := ⟨⟨by decide +kernel, by decide +kernel⟩, List.mem_of_getElem? (i := 1691) (by decide +kernel), List.mem_of_getElem? (i := 1776) (by decide +kernel), List.mem_of_getElem? (i := 1777) (by decide +kernel)⟩
theorem lw_p43 : lw_okq (⟨"ProphecyShopModel", "placeNamed", "(I)I"⟩, 29) := ⟨⟨by decide +kernel, by decide +kernel⟩, List.mem_of_getElem? (i := 1691) (by decide +kernel), List.mem_of_getElem? (i := 1781) (by decide +kernel), List.mem_of_getElem? (i := 1782) (by decide +kernel)⟩
theorem lw_p44 : lw_okq (⟨"ProphecyShopModel", "readsCustomer", "()V"⟩, 29) := ⟨⟨by decide +kernel, by decide +kernel⟩, List.mem_of_getElem? (i := 1691) (by decide +kernel), List.mem_of_getElem? (i := 1786) (by decide +kernel), List.mem_of_getElem? (i := 1787) (by decide +kernel)⟩
theorem lw_p45 : lw_okq (⟨"ProphecyShopModel", "customerNamed", "(I)I"⟩, 29) := ⟨⟨by decide +kernel, by decide +kernel⟩, List.mem_of_getElem? (i := 1691) (by decide +kernel), List.mem_of_getElem? (i := 1790) (by decide +kernel), List.mem_of_getElem? (i := 1791) (by decide +kernel)⟩
theorem lw_p46 : lw_okq (⟨"ProphecyShopModel", "readsOwl", "()V"⟩, 29) := ⟨⟨by decide +kernel, by decide +kernel⟩, List.mem_of_getElem? (i := 1691) (by decide +kernel), List.mem_of_getElem? (i := 1794) (by decide +kernel), List.mem_of_getElem? (i := 1795) (by decide +kernel)⟩
theorem lw_p47 : lw_okq (⟨"ProphecyShopModel", "putOwl", "(III)V"⟩, 29) := ⟨⟨by decide +kernel, by decide +kernel⟩, List.mem_of_getElem? (i := 1691) (by decide +kernel), List.mem_of_getElem? (i := 1799) (by decide +kernel), List.mem_of_getElem? (i := 1800) (by decide +kernel)⟩
def lw_privs_3 : List (MethodName × Nat) := [(⟨"ProphecyShopModel", "goesOn", "()V"⟩, 29), (⟨"ProphecyShopModel", "number", "(II)I"⟩, 29), (⟨"ProphecyShopModel", "takesSign", "(I)V"⟩, 29), (⟨"ProphecyShopModel", "isSign", "(I)Z"⟩, 29), (⟨"ProphecyShopModel", "readsEvent", "()V"⟩, 29), (⟨"ProphecyShopModel", "looksAtName", "()I"⟩, 29), (⟨"ProphecyShopModel", "packed", "(II)I"⟩, 29), (⟨"ProphecyShopModel", "eventNamed", "(I)I"⟩, 29), (⟨"ProphecyShopModel", "named", "(IIII)I"⟩, 29), (⟨"ProphecyShopModel", "passesName", "(Z)V"⟩, 29), (⟨"ProphecyShopModel", "readsPlace", "()V"⟩, 29), (⟨"ProphecyShopModel", "placeNamed", "(I)I"⟩, 29), (⟨"ProphecyShopModel", "readsCustomer", "()V"⟩, 29), (⟨"ProphecyShopModel", "customerNamed", "(I)I"⟩, 29), (⟨"ProphecyShopModel", "readsOwl", "()V"⟩, 29), (⟨"ProphecyShopModel", "putOwl", "(III)V"⟩, 29)]
theorem lw_r3 : ∀ q ∈ lw_privs_3, lw_okq q := List.forall_mem_cons.mpr ⟨lw_p32, List.forall_mem_cons.mpr ⟨lw_p33, List.forall_mem_cons.mpr ⟨lw_p34, List.forall_mem_cons.mpr ⟨lw_p35, List.forall_mem_cons.mpr ⟨lw_p36, List.forall_mem_cons.mpr ⟨lw_p37, List.forall_mem_cons.mpr ⟨lw_p38, List.forall_mem_cons.mpr ⟨lw_p39, List.forall_mem_cons.mpr ⟨lw_p40, List.forall_mem_cons.mpr ⟨lw_p41, List.forall_mem_cons.mpr ⟨lw_p42, List.forall_mem_cons.mpr ⟨lw_p43, List.forall_mem_cons.mpr ⟨lw_p44, List.forall_mem_cons.mpr ⟨lw_p45, List.forall_mem_cons.mpr ⟨lw_p46, List.forall_mem_cons.mpr ⟨lw_p47, fun _ h => absurd h List.not_mem_nil⟩⟩⟩⟩⟩⟩⟩⟩⟩⟩⟩⟩⟩⟩⟩⟩
theorem lw_p48 : lw_okq (⟨"ProphecyShopModel", "feeds", "(I)V"⟩, 29) := ⟨⟨by decide +kernel, by decide +kernel⟩, List.mem_of_getElem? (i := 1691) (by decide +kernel), List.mem_of_getElem? (i := 1899) (by decide +kernel), List.mem_of_getElem? (i := 1900) (by decide +kernel)⟩
theorem lw_p49 : lw_okq (⟨"ProphecyShopModel", "right", "(ZI)Z"⟩, 29) := ⟨⟨by decide +kernel, by decide +kernel⟩, List.mem_of_getElem? (i := 1691) (by decide +kernel), List.mem_of_getElem? (i := 1903) (by decide +kernel), List.mem_of_getElem? (i := 1904) (by decide +kernel)⟩
theorem lw_p50 : lw_okq (⟨"ProphecyShopModel", "isWhole", "()Z"⟩, 29) := ⟨⟨by decide +kernel, by decide +kernel⟩, List.mem_of_getElem? (i := 1691) (by decide +kernel), List.mem_of_getElem? (i := 1923) (by decide +kernel), List.mem_of_getElem? (i := 1924) (by decide +kernel)⟩
theorem lw_p51 : lw_okq (⟨"ProphecyShopModel", "readsCommands", "(I)V"⟩, 29) := ⟨⟨by decide +kernel, by decide +kernel⟩, List.mem_of_getElem? (i := 1691) (by decide +kernel), List.mem_of_getElem? (i := 1931) (by decide +kernel), List.mem_of_getElem? (i := 1932) (by decide +kernel)⟩
theorem lw_p52 : lw_okq (⟨"ProphecyShopModel", "readsCommand", "(I)V"⟩, 29) := ⟨⟨by decide +kernel, by decide +kernel⟩, List.mem_of_getElem? (i := 1691) (by decide +kernel), List.mem_of_getElem? (i := 1935) (by decide +kernel), List.mem_of_getElem? (i := 1936) (by decide +kernel)⟩
theorem lw_p53 : lw_okq (⟨"ProphecyShopModel", "commandHere", "()I"⟩, 29) := ⟨⟨by decide +kernel, by decide +kernel⟩, List.mem_of_getElem? (i := 1691) (by decide +kernel), List.mem_of_getElem? (i := 1939) (by decide +kernel), List.mem_of_getElem? (i := 1940) (by decide +kernel)⟩
theorem lw_p54 : lw_okq (⟨"ProphecyShopModel", "readsRepeat", "(II)V"⟩, 29) := ⟨⟨by decide +kernel, by decide +kernel⟩, List.mem_of_getElem? (i := 1691) (by decide +kernel), List.mem_of_getElem? (i := 1948) (by decide +kernel), List.mem_of_getElem? (i := 1949) (by decide +kernel)⟩
theorem lw_p55 : lw_okq (⟨"ProphecyShopModel", "lays", "(III)V"⟩, 29) := ⟨⟨by decide +kernel, by decide +kernel⟩, List.mem_of_getElem? (i := 1691) (by decide +kernel), List.mem_of_getElem? (i := 1952) (by decide +kernel), List.mem_of_getElem? (i := 1953) (by decide +kernel)⟩
theorem lw_p56 : lw_okq (⟨"ProphecyShopModel", "readsSingle", "(I)V"⟩, 29) := ⟨⟨by decide +kernel, by decide +kernel⟩, List.mem_of_getElem? (i := 1691) (by decide +kernel), List.mem_of_getElem? (i := 1956) (by decide +kernel), List.mem_of_getElem? (i := 1957) (by decide +kernel)⟩
theorem lw_p57 : lw_okq (⟨"ProphecyShopModel", "readsSale", "(I)V"⟩, 29) := ⟨⟨by decide +kernel, by decide +kernel⟩, List.mem_of_getElem? (i := 1691) (by decide +kernel), List.mem_of_getElem? (i := 1960) (by decide +kernel), List.mem_of_getElem? (i := 1961) (by decide +kernel)⟩
theorem lw_p58 : lw_okq (⟨"ProphecyShopModel", "takesCustomer", "()I"⟩, 29) := ⟨⟨by decide +kernel, by decide +kernel⟩, List.mem_of_getElem? (i := 1691) (by decide +kernel), List.mem_of_getElem? (i := 1964) (by decide +kernel), List.mem_of_getElem? (i := 1965) (by decide +kernel)⟩
theorem lw_p59 : lw_okq (⟨"ProphecyShopModel", "takesSort", "()I"⟩, 29) := ⟨⟨by decide +kernel, by decide +kernel⟩, List.mem_of_getElem? (i := 1691) (by decide +kernel), List.mem_of_getElem? (i := 1968) (by decide +kernel), List.mem_of_getElem? (i := 1969) (by decide +kernel)⟩
theorem lw_p60 : lw_okq (⟨"ProphecyShopModel", "takesEvent", "()I"⟩, 29) := ⟨⟨by decide +kernel, by decide +kernel⟩, List.mem_of_getElem? (i := 1691) (by decide +kernel), List.mem_of_getElem? (i := 1975) (by decide +kernel), List.mem_of_getElem? (i := 1976) (by decide +kernel)⟩
theorem lw_p61 : lw_okq (⟨"ProphecyShopModel", "takesPlace", "()I"⟩, 29) := ⟨⟨by decide +kernel, by decide +kernel⟩, List.mem_of_getElem? (i := 1691) (by decide +kernel), List.mem_of_getElem? (i := 1979) (by decide +kernel), List.mem_of_getElem? (i := 1980) (by decide +kernel)⟩
theorem lw_p62 : lw_okq (⟨"ProphecyShopModel", "keeps", "()V"⟩, 29) := ⟨⟨by decide +kernel, by decide +kernel⟩, List.mem_of_getElem? (i := 1691) (by decide +kernel), List.mem_of_getElem? (i := 1983) (by decide +kernel), List.mem_of_getElem? (i := 1984) (by decide +kernel)⟩
theorem lw_p63 : lw_okq (⟨"ProphecyShopModel", "doesAll", "(II)Z"⟩, 29) := ⟨⟨by decide +kernel, by decide +kernel⟩, List.mem_of_getElem? (i := 1691) (by decide +kernel), List.mem_of_getElem? (i := 1987) (by decide +kernel), List.mem_of_getElem? (i := 1988) (by decide +kernel)⟩
def lw_privs_4 : List (MethodName × Nat) := [(⟨"ProphecyShopModel", "feeds", "(I)V"⟩, 29), (⟨"ProphecyShopModel", "right", "(ZI)Z"⟩, 29), (⟨"ProphecyShopModel", "isWhole", "()Z"⟩, 29), (⟨"ProphecyShopModel", "readsCommands", "(I)V"⟩, 29), (⟨"ProphecyShopModel", "readsCommand", "(I)V"⟩, 29), (⟨"ProphecyShopModel", "commandHere", "()I"⟩, 29), (⟨"ProphecyShopModel", "readsRepeat", "(II)V"⟩, 29), (⟨"ProphecyShopModel", "lays", "(III)V"⟩, 29), (⟨"ProphecyShopModel", "readsSingle", "(I)V"⟩, 29), (⟨"ProphecyShopModel", "readsSale", "(I)V"⟩, 29), (⟨"ProphecyShopModel", "takesCustomer", "()I"⟩, 29), (⟨"ProphecyShopModel", "takesSort", "()I"⟩, 29), (⟨"ProphecyShopModel", "takesEvent", "()I"⟩, 29), (⟨"ProphecyShopModel", "takesPlace", "()I"⟩, 29), (⟨"ProphecyShopModel", "keeps", "()V"⟩, 29), (⟨"ProphecyShopModel", "doesAll", "(II)Z"⟩, 29)]
theorem lw_r4 : ∀ q ∈ lw_privs_4, lw_okq q := List.forall_mem_cons.mpr ⟨lw_p48, List.forall_mem_cons.mpr ⟨lw_p49, List.forall_mem_cons.mpr ⟨lw_p50, List.forall_mem_cons.mpr ⟨lw_p51, List.forall_mem_cons.mpr ⟨lw_p52, List.forall_mem_cons.mpr ⟨lw_p53, List.forall_mem_cons.mpr ⟨lw_p54, List.forall_mem_cons.mpr ⟨lw_p55, List.forall_mem_cons.mpr ⟨lw_p56, List.forall_mem_cons.mpr ⟨lw_p57, List.forall_mem_cons.mpr ⟨lw_p58, List.forall_mem_cons.mpr ⟨lw_p59, List.forall_mem_cons.mpr ⟨lw_p60, List.forall_mem_cons.mpr ⟨lw_p61, List.forall_mem_cons.mpr ⟨lw_p62, List.forall_mem_cons.mpr ⟨lw_p63, fun _ h => absurd h List.not_mem_nil⟩⟩⟩⟩⟩⟩⟩⟩⟩⟩⟩⟩⟩⟩⟩⟩
theorem lw_p64 : lw_okq (⟨"ProphecyShopModel", "laid", "(II)I"⟩, 29) := ⟨⟨by decide +kernel, by decide +kernel⟩, List.mem_of_getElem? (i := 1691) (by decide +kernel), List.mem_of_getElem? (i := 1991) (by decide +kernel), List.mem_of_getElem? (i := 1992) (by decide +kernel)⟩
theorem lw_p65 : lw_okq (⟨"ProphecyShopModel", "does", "(I)I"⟩, 29) := ⟨⟨by decide +kernel, by decide +kernel⟩, List.mem_of_getElem? (i := 1691) (by decide +kernel), List.mem_of_getElem? (i := 1995) (by decide +kernel), List.mem_of_getElem? (i := 1996) (by decide +kernel)⟩
theorem lw_p66 : lw_okq (⟨"ProphecyShopModel", "lengths", "(III)V"⟩, 29) := ⟨⟨by decide +kernel, by decide +kernel⟩, List.mem_of_getElem? (i := 1691) (by decide +kernel), List.mem_of_getElem? (i := 1999) (by decide +kernel), List.mem_of_getElem? (i := 2000) (by decide +kernel)⟩
theorem lw_p67 : lw_okq (⟨"ProphecyShopModel", "selling", "(IIII)I"⟩, 29) := ⟨⟨by decide +kernel, by decide +kernel⟩, List.mem_of_getElem? (i := 1691) (by decide +kernel), List.mem_of_getElem? (i := 2003) (by decide +kernel), List.mem_of_getElem? (i := 2004) (by decide +kernel)⟩
theorem lw_p68 : lw_okq (⟨"ProphecyShopModel", "isCustomer", "(I)Z"⟩, 29) := ⟨⟨by decide +kernel, by decide +kernel⟩, List.mem_of_getElem? (i := 1691) (by decide +kernel), List.mem_of_getElem? (i := 2007) (by decide +kernel), List.mem_of_getElem? (i := 2008) (by decide +kernel)⟩
theorem lw_p69 : lw_okq (⟨"ProphecyShopModel", "isEvent", "(I)Z"⟩, 29) := ⟨⟨by decide +kernel, by decide +kernel⟩, List.mem_of_getElem? (i := 1691) (by decide +kernel), List.mem_of_getElem? (i := 2011) (by decide +kernel), List.mem_of_getElem? (i := 2012) (by decide +kernel)⟩
theorem lw_p70 : lw_okq (⟨"ProphecyShopModel", "isPlace", "(I)Z"⟩, 29) := ⟨⟨by decide +kernel, by decide +kernel⟩, List.mem_of_getElem? (i := 1691) (by decide +kernel), List.mem_of_getElem? (i := 2015) (by decide +kernel), List.mem_of_getElem? (i := 2016) (by decide +kernel)⟩
theorem lw_p71 : lw_okq (⟨"ProphecyShopModel", "ofCustomer", "(II)I"⟩, 29) := ⟨⟨by decide +kernel, by decide +kernel⟩, List.mem_of_getElem? (i := 1691) (by decide +kernel), List.mem_of_getElem? (i := 2019) (by decide +kernel), List.mem_of_getElem? (i := 2020) (by decide +kernel)⟩
theorem lw_p72 : lw_okq (⟨"ProphecyShopModel", "changes", "()V"⟩, 29) := ⟨⟨by decide +kernel, by decide +kernel⟩, List.mem_of_getElem? (i := 1691) (by decide +kernel), List.mem_of_getElem? (i := 2023) (by decide +kernel), List.mem_of_getElem? (i := 2024) (by decide +kernel)⟩
theorem lw_p73 : lw_okq (⟨"ProphecyShopModel", "puts", "(III)V"⟩, 29) := ⟨⟨by decide +kernel, by decide +kernel⟩, List.mem_of_getElem? (i := 1691) (by decide +kernel), List.mem_of_getElem? (i := 2027) (by decide +kernel), List.mem_of_getElem? (i := 2028) (by decide +kernel)⟩
theorem lw_p74 : lw_okq (⟨"ProphecyShopModel", "happening", "(II)I"⟩, 29) := ⟨⟨by decide +kernel, by decide +kernel⟩, List.mem_of_getElem? (i := 1691) (by decide +kernel), List.mem_of_getElem? (i := 2031) (by decide +kernel), List.mem_of_getElem? (i := 2032) (by decide +kernel)⟩
theorem lw_p75 : lw_okq (⟨"ProphecyShopModel", "noted", "(III)I"⟩, 29) := ⟨⟨by decide +kernel, by decide +kernel⟩, List.mem_of_getElem? (i := 1691) (by decide +kernel), List.mem_of_getElem? (i := 2035) (by decide +kernel), List.mem_of_getElem? (i := 2036) (by decide +kernel)⟩
theorem lw_p76 : lw_okq (⟨"ProphecyShopModel", "ofNote", "(II)I"⟩, 29) := ⟨⟨by decide +kernel, by decide +kernel⟩, List.mem_of_getElem? (i := 1691) (by decide +kernel), List.mem_of_getElem? (i := 2039) (by decide +kernel), List.mem_of_getElem? (i := 2040) (by decide +kernel)⟩
theorem lw_p77 : lw_okq (⟨"ProphecyShopModel", "hits", "(III)Z"⟩, 29) := ⟨⟨by decide +kernel, by decide +kernel⟩, List.mem_of_getElem? (i := 1691) (by decide +kernel), List.mem_of_getElem? (i := 2043) (by decide +kernel), List.mem_of_getElem? (i := 2044) (by decide +kernel)⟩
theorem lw_p78 : lw_okq (⟨"ProphecyShopModel", "of", "(II)I"⟩, 29) := ⟨⟨by decide +kernel, by decide +kernel⟩, List.mem_of_getElem? (i := 1691) (by decide +kernel), List.mem_of_getElem? (i := 2047) (by decide +kernel), List.mem_of_getElem? (i := 2048) (by decide +kernel)⟩
theorem lw_p79 : lw_okq (⟨"ProphecyShopModel", "decides", "(IZ)V"⟩, 29) := ⟨⟨by decide +kernel, by decide +kernel⟩, List.mem_of_getElem? (i := 1691) (by decide +kernel), List.mem_of_getElem? (i := 2051) (by decide +kernel), List.mem_of_getElem? (i := 2052) (by decide +kernel)⟩
def lw_privs_5 : List (MethodName × Nat) := [(⟨"ProphecyShopModel", "laid", "(II)I"⟩, 29), (⟨"ProphecyShopModel", "does", "(I)I"⟩, 29), (⟨"ProphecyShopModel", "lengths", "(III)V"⟩, 29), (⟨"ProphecyShopModel", "selling", "(IIII)I"⟩, 29), (⟨"ProphecyShopModel", "isCustomer", "(I)Z"⟩, 29), (⟨"ProphecyShopModel", "isEvent", "(I)Z"⟩, 29), (⟨"ProphecyShopModel", "isPlace", "(I)Z"⟩, 29), (⟨"ProphecyShopModel", "ofCustomer", "(II)I"⟩, 29), (⟨"ProphecyShopModel", "changes", "()V"⟩, 29), (⟨"ProphecyShopModel", "puts", "(III)V"⟩, 29), (⟨"ProphecyShopModel", "happening", "(II)I"⟩, 29), (⟨"ProphecyShopModel", "noted", "(III)I"⟩, 29), (⟨"ProphecyShopModel", "ofNote", "(II)I"⟩, 29), (⟨"ProphecyShopModel", "hits", "(III)Z"⟩, 29), (⟨"ProphecyShopModel", "of", "(II)I"⟩, 29), (⟨"ProphecyShopModel", "decides", "(IZ)V"⟩, 29)]
theorem lw_r5 : ∀ q ∈ lw_privs_5, lw_okq q := List.forall_mem_cons.mpr ⟨lw_p64, List.forall_mem_cons.mpr ⟨lw_p65, List.forall_mem_cons.mpr ⟨lw_p66, List.forall_mem_cons.mpr ⟨lw_p67, List.forall_mem_cons.mpr ⟨lw_p68, List.forall_mem_cons.mpr ⟨lw_p69, List.forall_mem_cons.mpr ⟨lw_p70, List.forall_mem_cons.mpr ⟨lw_p71, List.forall_mem_cons.mpr ⟨lw_p72, List.forall_mem_cons.mpr ⟨lw_p73, List.forall_mem_cons.mpr ⟨lw_p74, List.forall_mem_cons.mpr ⟨lw_p75, List.forall_mem_cons.mpr ⟨lw_p76, List.forall_mem_cons.mpr ⟨lw_p77, List.forall_mem_cons.mpr ⟨lw_p78, List.forall_mem_cons.mpr ⟨lw_p79, fun _ h => absurd h List.not_mem_nil⟩⟩⟩⟩⟩⟩⟩⟩⟩⟩⟩⟩⟩⟩⟩⟩
theorem lw_p80 : lw_okq (⟨"ProphecyShopModel", "asking", "(I)I"⟩, 29) := ⟨⟨by decide +kernel, by decide +kernel⟩, List.mem_of_getElem? (i := 1691) (by decide +kernel), List.mem_of_getElem? (i := 2055) (by decide +kernel), List.mem_of_getElem? (i := 2056) (by decide +kernel)⟩
theorem lw_p81 : lw_okq (⟨"ProphecyShopModel", "isProphecy", "(I)Z"⟩, 29) := ⟨⟨by decide +kernel, by decide +kernel⟩, List.mem_of_getElem? (i := 1691) (by decide +kernel), List.mem_of_getElem? (i := 2059) (by decide +kernel), List.mem_of_getElem? (i := 2060) (by decide +kernel)⟩
theorem lw_p82 : lw_okq (⟨"ProphecyShopModel", "inQueue", "(I)I"⟩, 29) := ⟨⟨by decide +kernel, by decide +kernel⟩, List.mem_of_getElem? (i := 1691) (by decide +kernel), List.mem_of_getElem? (i := 2063) (by decide +kernel), List.mem_of_getElem? (i := 2064) (by decide +kernel)⟩
theorem lw_p83 : lw_okq (⟨"ProphecyShopModel", "advancing", "(I)I"⟩, 29) := ⟨⟨by decide +kernel, by decide +kernel⟩, List.mem_of_getElem? (i := 1691) (by decide +kernel), List.mem_of_getElem? (i := 2067) (by decide +kernel), List.mem_of_getElem? (i := 2068) (by decide +kernel)⟩
theorem lw_p84 : lw_okq (⟨"ProphecyShopModel", "dayPasses", "()V"⟩, 29) := ⟨⟨by decide +kernel, by decide +kernel⟩, List.mem_of_getElem? (i := 1691) (by decide +kernel), List.mem_of_getElem? (i := 2071) (by decide +kernel), List.mem_of_getElem? (i := 2072) (by decide +kernel)⟩
theorem lw_p85 : lw_okq (⟨"ProphecyShopModel", "ofOwl", "(II)I"⟩, 29) := ⟨⟨by decide +kernel, by decide +kernel⟩, List.mem_of_getElem? (i := 1691) (by decide +kernel), List.mem_of_getElem? (i := 2075) (by decide +kernel), List.mem_of_getElem? (i := 2076) (by decide +kernel)⟩
theorem lw_p86 : lw_okq (⟨"ProphecyShopModel", "lands", "(I)V"⟩, 29) := ⟨⟨by decide +kernel, by decide +kernel⟩, List.mem_of_getElem? (i := 1691) (by decide +kernel), List.mem_of_getElem? (i := 2079) (by decide +kernel), List.mem_of_getElem? (i := 2080) (by decide +kernel)⟩
theorem lw_p87 : lw_okq (⟨"ProphecyShopModel", "handles", "()Z"⟩, 29) := ⟨⟨by decide +kernel, by decide +kernel⟩, List.mem_of_getElem? (i := 1691) (by decide +kernel), List.mem_of_getElem? (i := 2083) (by decide +kernel), List.mem_of_getElem? (i := 2084) (by decide +kernel)⟩
theorem lw_p88 : lw_okq (⟨"ProphecyShopModel", "wouldAnswer", "(I)I"⟩, 29) := ⟨⟨by decide +kernel, by decide +kernel⟩, List.mem_of_getElem? (i := 1691) (by decide +kernel), List.mem_of_getElem? (i := 2087) (by decide +kernel), List.mem_of_getElem? (i := 2088) (by decide +kernel)⟩
theorem lw_p89 : lw_okq (⟨"ProphecyShopModel", "refund", "(I)I"⟩, 29) := ⟨⟨by decide +kernel, by decide +kernel⟩, List.mem_of_getElem? (i := 1691) (by decide +kernel), List.mem_of_getElem? (i := 2091) (by decide +kernel), List.mem_of_getElem? (i := 2092) (by decide +kernel)⟩
theorem lw_p90 : lw_okq (⟨"ProphecyShopModel", "idle", "()I"⟩, 29) := ⟨⟨by decide +kernel, by decide +kernel⟩, List.mem_of_getElem? (i := 1691) (by decide +kernel), List.mem_of_getElem? (i := 2095) (by decide +kernel), List.mem_of_getElem? (i := 2096) (by decide +kernel)⟩
theorem lw_p91 : lw_okq (⟨"ProphecyShopModel", "flies", "(I)V"⟩, 29) := ⟨⟨by decide +kernel, by decide +kernel⟩, List.mem_of_getElem? (i := 1691) (by decide +kernel), List.mem_of_getElem? (i := 2099) (by decide +kernel), List.mem_of_getElem? (i := 2100) (by decide +kernel)⟩
theorem lw_p92 : lw_okq (⟨"ProphecyShopModel", "tells", "(I)I"⟩, 29) := ⟨⟨by decide +kernel, by decide +kernel⟩, List.mem_of_getElem? (i := 1691) (by decide +kernel), List.mem_of_getElem? (i := 2107) (by decide +kernel), List.mem_of_getElem? (i := 2108) (by decide +kernel)⟩
theorem lw_p93 : lw_okq (⟨"ProphecyShopModel", "finds", "(II)Z"⟩, 29) := ⟨⟨by decide +kernel, by decide +kernel⟩, List.mem_of_getElem? (i := 1691) (by decide +kernel), List.mem_of_getElem? (i := 2139) (by decide +kernel), List.mem_of_getElem? (i := 2140) (by decide +kernel)⟩
theorem lw_p94 : lw_okq (⟨"ProphecyShopModel", "allAt", "(I)I"⟩, 29) := ⟨⟨by decide +kernel, by decide +kernel⟩, List.mem_of_getElem? (i := 1691) (by decide +kernel), List.mem_of_getElem? (i := 2151) (by decide +kernel), List.mem_of_getElem? (i := 2152) (by decide +kernel)⟩
theorem lw_p95 : lw_okq (⟨"ProphecyShopModel", "asked", "(II)I"⟩, 29) := ⟨⟨by decide +kernel, by decide +kernel⟩, List.mem_of_getElem? (i := 1691) (by decide +kernel), List.mem_of_getElem? (i := 2163) (by decide +kernel), List.mem_of_getElem? (i := 2164) (by decide +kernel)⟩
def lw_privs_6 : List (MethodName × Nat) := [(⟨"ProphecyShopModel", "asking", "(I)I"⟩, 29), (⟨"ProphecyShopModel", "isProphecy", "(I)Z"⟩, 29), (⟨"ProphecyShopModel", "inQueue", "(I)I"⟩, 29), (⟨"ProphecyShopModel", "advancing", "(I)I"⟩, 29), (⟨"ProphecyShopModel", "dayPasses", "()V"⟩, 29), (⟨"ProphecyShopModel", "ofOwl", "(II)I"⟩, 29), (⟨"ProphecyShopModel", "lands", "(I)V"⟩, 29), (⟨"ProphecyShopModel", "handles", "()Z"⟩, 29), (⟨"ProphecyShopModel", "wouldAnswer", "(I)I"⟩, 29), (⟨"ProphecyShopModel", "refund", "(I)I"⟩, 29), (⟨"ProphecyShopModel", "idle", "()I"⟩, 29), (⟨"ProphecyShopModel", "flies", "(I)V"⟩, 29), (⟨"ProphecyShopModel", "tells", "(I)I"⟩, 29), (⟨"ProphecyShopModel", "finds", "(II)Z"⟩, 29), (⟨"ProphecyShopModel", "allAt", "(I)I"⟩, 29), (⟨"ProphecyShopModel", "asked", "(II)I"⟩, 29)]
theorem lw_r6 : ∀ q ∈ lw_privs_6, lw_okq q := List.forall_mem_cons.mpr ⟨lw_p80, List.forall_mem_cons.mpr ⟨lw_p81, List.forall_mem_cons.mpr ⟨lw_p82, List.forall_mem_cons.mpr ⟨lw_p83, List.forall_mem_cons.mpr ⟨lw_p84, List.forall_mem_cons.mpr ⟨lw_p85, List.forall_mem_cons.mpr ⟨lw_p86, List.forall_mem_cons.mpr ⟨lw_p87, List.forall_mem_cons.mpr ⟨lw_p88, List.forall_mem_cons.mpr ⟨lw_p89, List.forall_mem_cons.mpr ⟨lw_p90, List.forall_mem_cons.mpr ⟨lw_p91, List.forall_mem_cons.mpr ⟨lw_p92, List.forall_mem_cons.mpr ⟨lw_p93, List.forall_mem_cons.mpr ⟨lw_p94, List.forall_mem_cons.mpr ⟨lw_p95, fun _ h => absurd h List.not_mem_nil⟩⟩⟩⟩⟩⟩⟩⟩⟩⟩⟩⟩⟩⟩⟩⟩
theorem lw_p96 : lw_okq (⟨"ProphecyShopModel", "askedOwl", "(II)I"⟩, 29) := ⟨⟨by decide +kernel, by decide +kernel⟩, List.mem_of_getElem? (i := 1691) (by decide +kernel), List.mem_of_getElem? (i := 2223) (by decide +kernel), List.mem_of_getElem? (i := 2224) (by decide +kernel)⟩
theorem lw_p97 : lw_okq (⟨"ProphecyShopModel", "manyIn", "(I)I"⟩, 29) := ⟨⟨by decide +kernel, by decide +kernel⟩, List.mem_of_getElem? (i := 1691) (by decide +kernel), List.mem_of_getElem? (i := 2235) (by decide +kernel), List.mem_of_getElem? (i := 2236) (by decide +kernel)⟩
theorem lw_p98 : lw_okq (⟨"ProphecyShopModel", "tries", "()V"⟩, 29) := ⟨⟨by decide +kernel, by decide +kernel⟩, List.mem_of_getElem? (i := 1691) (by decide +kernel), List.mem_of_getElem? (i := 2268) (by decide +kernel), List.mem_of_getElem? (i := 2269) (by decide +kernel)⟩
theorem lw_p99 : lw_okq (⟨"ProphecyShopModel", "back", "(I)I"⟩, 29) := ⟨⟨by decide +kernel, by decide +kernel⟩, List.mem_of_getElem? (i := 1691) (by decide +kernel), List.mem_of_getElem? (i := 2272) (by decide +kernel), List.mem_of_getElem? (i := 2273) (by decide +kernel)⟩
theorem lw_p100 : lw_okq (⟨"ProphecyShopModel", "writesName", "(I)V"⟩, 29) := ⟨⟨by decide +kernel, by decide +kernel⟩, List.mem_of_getElem? (i := 1691) (by decide +kernel), List.mem_of_getElem? (i := 2308) (by decide +kernel), List.mem_of_getElem? (i := 2309) (by decide +kernel)⟩
theorem lw_p101 : lw_okq (⟨"ProphecyShopModel", "writes", "(I)V"⟩, 29) := ⟨⟨by decide +kernel, by decide +kernel⟩, List.mem_of_getElem? (i := 1691) (by decide +kernel), List.mem_of_getElem? (i := 2312) (by decide +kernel), List.mem_of_getElem? (i := 2313) (by decide +kernel)⟩
theorem lw_p102 : lw_okq (⟨"ProphecyShopModel", "writesNumber", "(I)V"⟩, 29) := ⟨⟨by decide +kernel, by decide +kernel⟩, List.mem_of_getElem? (i := 1691) (by decide +kernel), List.mem_of_getElem? (i := 2316) (by decide +kernel), List.mem_of_getElem? (i := 2317) (by decide +kernel)⟩
def lw_privs_7 : List (MethodName × Nat) := [(⟨"ProphecyShopModel", "askedOwl", "(II)I"⟩, 29), (⟨"ProphecyShopModel", "manyIn", "(I)I"⟩, 29), (⟨"ProphecyShopModel", "tries", "()V"⟩, 29), (⟨"ProphecyShopModel", "back", "(I)I"⟩, 29), (⟨"ProphecyShopModel", "writesName", "(I)V"⟩, 29), (⟨"ProphecyShopModel", "writes", "(I)V"⟩, 29), (⟨"ProphecyShopModel", "writesNumber", "(I)V"⟩, 29)]
theorem lw_r7 : ∀ q ∈ lw_privs_7, lw_okq q := List.forall_mem_cons.mpr ⟨lw_p96, List.forall_mem_cons.mpr ⟨lw_p97, List.forall_mem_cons.mpr ⟨lw_p98, List.forall_mem_cons.mpr ⟨lw_p99, List.forall_mem_cons.mpr ⟨lw_p100, List.forall_mem_cons.mpr ⟨lw_p101, List.forall_mem_cons.mpr ⟨lw_p102, fun _ h => absurd h List.not_mem_nil⟩⟩⟩⟩⟩⟩⟩
def lw_privs : List (MethodName × Nat) := lw_privs_1 ++ (lw_privs_2 ++ (lw_privs_3 ++ (lw_privs_4 ++ (lw_privs_5 ++ (lw_privs_6 ++ (lw_privs_7))))))
def lw_tbl : List Cond := k2_sels lw_privs ++ tables_1
theorem lw_privs_ok : ∀ q ∈ lw_privs, lw_okq q := by
  show ∀ q ∈ lw_privs_1 ++ (lw_privs_2 ++ (lw_privs_3 ++ (lw_privs_4 ++ (lw_privs_5 ++ (lw_privs_6 ++ (lw_privs_7)))))), lw_okq q
  exact List.forall_mem_append.mpr ⟨lw_r1, List.forall_mem_append.mpr ⟨lw_r2, List.forall_mem_append.mpr ⟨lw_r3, List.forall_mem_append.mpr ⟨lw_r4, List.forall_mem_append.mpr ⟨lw_r5, List.forall_mem_append.mpr ⟨lw_r6, lw_r7⟩⟩⟩⟩⟩⟩
/-- the streams that the claim lets the run draw from -/
abbrev lw_cs : List Choice := [Jvm.Choice.named "NaN.bits"]
theorem lw_bits : nanBits ∈ lw_cs := by first | decide | exact List.mem_cons_self | simp [lw_cs, nanBits]

def RX0 : String := "ProphecyShop$History"
def TX0 : u_T := fun k => match k with
  | 0 => ("ProphecyShop$History", "before", "[LProphecyShop$Shop;", true)
  | _ => ("ProphecyShop$History", "count", "I", false)
def tyX0 : Nat → FieldType := fun k => match k with
  | 0 => .array (.object "ProphecyShop$Shop")
  | _ => .int
theorem nmX0 : ∀ a, a < 2 → ∀ b, b < 2 → a ≠ b → (TX0 a).2.1 ≠ (TX0 b).2.1 := by decide +kernel
theorem tyX0_ok : ∀ k, k < 2 → parseFieldDescriptor (TX0 k).2.2.1 = some (tyX0 k) := by decide +kernel
def RX1 : String := "ProphecyShop$Names"
def TX1 : u_T := fun k => match k with
  | 0 => ("ProphecyShop$Names", "codes", "[I", true)
  | _ => ("ProphecyShop$Names", "count", "I", false)
def tyX1 : Nat → FieldType := fun k => match k with
  | 0 => .array .int
  | _ => .int
theorem nmX1 : ∀ a, a < 2 → ∀ b, b < 2 → a ≠ b → (TX1 a).2.1 ≠ (TX1 b).2.1 := by decide +kernel
theorem tyX1_ok : ∀ k, k < 2 → parseFieldDescriptor (TX1 k).2.2.1 = some (tyX1 k) := by decide +kernel
def RX2 : String := "ProphecyShop$Owl"
def TX2 : u_T := fun k => match k with
  | 0 => ("ProphecyShop$Owl", "days", "I", false)
  | 1 => ("ProphecyShop$Owl", "coins", "I", false)
  | 2 => ("ProphecyShop$Owl", "customer", "I", false)
  | 3 => ("ProphecyShop$Owl", "flight", "I", false)
  | _ => ("ProphecyShop$Owl", "outward", "Z", false)
def tyX2 : Nat → FieldType := fun k => match k with
  | 0 => .int
  | 1 => .int
  | 2 => .int
  | 3 => .int
  | _ => .boolean
theorem nmX2 : ∀ a, a < 5 → ∀ b, b < 5 → a ≠ b → (TX2 a).2.1 ≠ (TX2 b).2.1 := by decide +kernel
theorem tyX2_ok : ∀ k, k < 5 → parseFieldDescriptor (TX2 k).2.2.1 = some (tyX2 k) := by decide +kernel
def RX3 : String := "ProphecyShop$Prophecy"
def TX3 : u_T := fun k => match k with
  | 0 => ("ProphecyShop$Prophecy", "customer", "I", false)
  | 1 => ("ProphecyShop$Prophecy", "kind", "I", false)
  | 2 => ("ProphecyShop$Prophecy", "event", "I", false)
  | 3 => ("ProphecyShop$Prophecy", "place", "I", false)
  | 4 => ("ProphecyShop$Prophecy", "first", "I", false)
  | 5 => ("ProphecyShop$Prophecy", "last", "I", false)
  | 6 => ("ProphecyShop$Prophecy", "price", "I", false)
  | 7 => ("ProphecyShop$Prophecy", "state", "I", false)
  | 8 => ("ProphecyShop$Prophecy", "decided", "I", false)
  | _ => ("ProphecyShop$Prophecy", "answer", "I", false)
def tyX3 : Nat → FieldType := fun k => match k with
  | 0 => .int
  | 1 => .int
  | 2 => .int
  | 3 => .int
  | 4 => .int
  | 5 => .int
  | 6 => .int
  | 7 => .int
  | 8 => .int
  | _ => .int
theorem nmX3 : ∀ a, a < 10 → ∀ b, b < 10 → a ≠ b → (TX3 a).2.1 ≠ (TX3 b).2.1 := by decide +kernel
theorem tyX3_ok : ∀ k, k < 10 → parseFieldDescriptor (TX3 k).2.2.1 = some (tyX3 k) := by decide +kernel
def RX5 : String := "ProphecyShop$Script"
def TX5 : u_T := fun k => match k with
  | 0 => ("ProphecyShop$Reader", "text", "LProphecyShop$Text;", true)
  | 1 => ("ProphecyShop$Reader", "kind", "I", false)
  | 2 => ("ProphecyShop$Reader", "start", "I", false)
  | 3 => ("ProphecyShop$Reader", "end", "I", false)
  | 4 => ("ProphecyShop$Reader", "error", "I", false)
  | 5 => ("ProphecyShop$Reader", "errorPosition", "I", false)
  | 6 => ("ProphecyShop$Script", "steps", "[LProphecyShop$Step;", true)
  | 7 => ("ProphecyShop$Script", "stepCount", "I", false)
  | 8 => ("ProphecyShop$Script", "commandCount", "I", false)
  | 9 => ("ProphecyShop$Script", "openRepeats", "[I", true)
  | _ => ("ProphecyShop$Script", "depth", "I", false)
def tyX5 : Nat → FieldType := fun k => match k with
  | 0 => .object "ProphecyShop$Text"
  | 1 => .int
  | 2 => .int
  | 3 => .int
  | 4 => .int
  | 5 => .int
  | 6 => .array (.object "ProphecyShop$Step")
  | 7 => .int
  | 8 => .int
  | 9 => .array .int
  | _ => .int
theorem nmX5 : ∀ a, a < 11 → ∀ b, b < 11 → a ≠ b → (TX5 a).2.1 ≠ (TX5 b).2.1 := by decide +kernel
theorem tyX5_ok : ∀ k, k < 11 → parseFieldDescriptor (TX5 k).2.2.1 = some (tyX5 k) := by decide +kernel
def RX6 : String := "ProphecyShop$Setup"
def TX6 : u_T := fun k => match k with
  | 0 => ("ProphecyShop$Setup", "cash", "I", false)
  | 1 => ("ProphecyShop$Setup", "rate", "I", false)
  | 2 => ("ProphecyShop$Setup", "grace", "I", false)
  | 3 => ("ProphecyShop$Setup", "percentage", "I", false)
  | 4 => ("ProphecyShop$Setup", "vaguePercentage", "I", false)
  | 5 => ("ProphecyShop$Setup", "events", "LProphecyShop$Names;", true)
  | 6 => ("ProphecyShop$Setup", "places", "LProphecyShop$Names;", true)
  | 7 => ("ProphecyShop$Setup", "customers", "LProphecyShop$Names;", true)
  | 8 => ("ProphecyShop$Setup", "purses", "[I", true)
  | 9 => ("ProphecyShop$Setup", "distances", "[I", true)
  | 10 => ("ProphecyShop$Setup", "speeds", "[I", true)
  | _ => ("ProphecyShop$Setup", "owlCount", "I", false)
def tyX6 : Nat → FieldType := fun k => match k with
  | 0 => .int
  | 1 => .int
  | 2 => .int
  | 3 => .int
  | 4 => .int
  | 5 => .object "ProphecyShop$Names"
  | 6 => .object "ProphecyShop$Names"
  | 7 => .object "ProphecyShop$Names"
  | 8 => .array .int
  | 9 => .array .int
  | 10 => .array .int
  | _ => .int
theorem nmX6 : ∀ a, a < 12 → ∀ b, b < 12 → a ≠ b → (TX6 a).2.1 ≠ (TX6 b).2.1 := by decide +kernel
theorem tyX6_ok : ∀ k, k < 12 → parseFieldDescriptor (TX6 k).2.2.1 = some (tyX6 k) := by decide +kernel
def RX7 : String := "ProphecyShop$SetupReader"
def TX7 : u_T := fun k => match k with
  | 0 => ("ProphecyShop$Reader", "text", "LProphecyShop$Text;", true)
  | 1 => ("ProphecyShop$Reader", "kind", "I", false)
  | 2 => ("ProphecyShop$Reader", "start", "I", false)
  | 3 => ("ProphecyShop$Reader", "end", "I", false)
  | 4 => ("ProphecyShop$Reader", "error", "I", false)
  | _ => ("ProphecyShop$Reader", "errorPosition", "I", false)
def tyX7 : Nat → FieldType := fun k => match k with
  | 0 => .object "ProphecyShop$Text"
  | 1 => .int
  | 2 => .int
  | 3 => .int
  | 4 => .int
  | _ => .int
theorem nmX7 : ∀ a, a < 6 → ∀ b, b < 6 → a ≠ b → (TX7 a).2.1 ≠ (TX7 b).2.1 := by decide +kernel
theorem tyX7_ok : ∀ k, k < 6 → parseFieldDescriptor (TX7 k).2.2.1 = some (tyX7 k) := by decide +kernel
def RX8 : String := "ProphecyShop$Shop"
def TX8 : u_T := fun k => match k with
  | 0 => ("ProphecyShop$Shop", "setup", "LProphecyShop$Setup;", false)
  | 1 => ("ProphecyShop$Shop", "day", "I", false)
  | 2 => ("ProphecyShop$Shop", "cash", "I", false)
  | 3 => ("ProphecyShop$Shop", "purses", "[I", true)
  | 4 => ("ProphecyShop$Shop", "sold", "[LProphecyShop$Prophecy;", true)
  | 5 => ("ProphecyShop$Shop", "soldCount", "I", false)
  | 6 => ("ProphecyShop$Shop", "owls", "[LProphecyShop$Owl;", true)
  | 7 => ("ProphecyShop$Shop", "queue", "[I", true)
  | 8 => ("ProphecyShop$Shop", "waiting", "I", false)
  | 9 => ("ProphecyShop$Shop", "notedEvents", "[I", true)
  | 10 => ("ProphecyShop$Shop", "notedPlaces", "[I", true)
  | 11 => ("ProphecyShop$Shop", "notedDays", "[I", true)
  | 12 => ("ProphecyShop$Shop", "notedCount", "I", false)
  | 13 => ("ProphecyShop$Shop", "handled", "I", false)
  | _ => ("ProphecyShop$Shop", "paidOut", "I", false)
def tyX8 : Nat → FieldType := fun k => match k with
  | 0 => .object "ProphecyShop$Setup"
  | 1 => .int
  | 2 => .int
  | 3 => .array .int
  | 4 => .array (.object "ProphecyShop$Prophecy")
  | 5 => .int
  | 6 => .array (.object "ProphecyShop$Owl")
  | 7 => .array .int
  | 8 => .int
  | 9 => .array .int
  | 10 => .array .int
  | 11 => .array .int
  | 12 => .int
  | 13 => .int
  | _ => .int
theorem nmX8 : ∀ a, a < 15 → ∀ b, b < 15 → a ≠ b → (TX8 a).2.1 ≠ (TX8 b).2.1 := by decide +kernel
theorem tyX8_ok : ∀ k, k < 15 → parseFieldDescriptor (TX8 k).2.2.1 = some (tyX8 k) := by decide +kernel
def RX9 : String := "ProphecyShop$Step"
def TX9 : u_T := fun k => match k with
  | 0 => ("ProphecyShop$Step", "act", "I", false)
  | 1 => ("ProphecyShop$Step", "customer", "I", false)
  | 2 => ("ProphecyShop$Step", "kind", "I", false)
  | 3 => ("ProphecyShop$Step", "event", "I", false)
  | 4 => ("ProphecyShop$Step", "place", "I", false)
  | 5 => ("ProphecyShop$Step", "delay", "I", false)
  | 6 => ("ProphecyShop$Step", "length", "I", false)
  | 7 => ("ProphecyShop$Step", "price", "I", false)
  | 8 => ("ProphecyShop$Step", "number", "I", false)
  | 9 => ("ProphecyShop$Step", "partner", "I", false)
  | _ => ("ProphecyShop$Step", "roundsLeft", "I", false)
def tyX9 : Nat → FieldType := fun k => match k with
  | 0 => .int
  | 1 => .int
  | 2 => .int
  | 3 => .int
  | 4 => .int
  | 5 => .int
  | 6 => .int
  | 7 => .int
  | 8 => .int
  | 9 => .int
  | _ => .int
theorem nmX9 : ∀ a, a < 11 → ∀ b, b < 11 → a ≠ b → (TX9 a).2.1 ≠ (TX9 b).2.1 := by decide +kernel
theorem tyX9_ok : ∀ k, k < 11 → parseFieldDescriptor (TX9 k).2.2.1 = some (tyX9 k) := by decide +kernel
def RX10 : String := "ProphecyShop$Text"
def TX10 : u_T := fun k => match k with
  | 0 => ("ProphecyShop$Text", "bytes", "[I", true)
  | _ => ("ProphecyShop$Text", "length", "I", false)
def tyX10 : Nat → FieldType := fun k => match k with
  | 0 => .array .int
  | _ => .int
theorem nmX10 : ∀ a, a < 2 → ∀ b, b < 2 → a ≠ b → (TX10 a).2.1 ≠ (TX10 b).2.1 := by decide +kernel
theorem tyX10_ok : ∀ k, k < 2 → parseFieldDescriptor (TX10 k).2.2.1 = some (tyX10 k) := by decide +kernel
def RX11 : String := "ProphecyShop"
def TX11 : u_T := fun k => match k with
  | 0 => ("ProphecyShop", "text", "LProphecyShop$Text;", true)
  | 1 => ("ProphecyShop", "setupReader", "LProphecyShop$SetupReader;", true)
  | 2 => ("ProphecyShop", "script", "LProphecyShop$Script;", true)
  | 3 => ("ProphecyShop", "setup", "LProphecyShop$Setup;", false)
  | 4 => ("ProphecyShop", "draft", "LProphecyShop$Setup;", false)
  | 5 => ("ProphecyShop", "shop", "LProphecyShop$Shop;", true)
  | 6 => ("ProphecyShop", "forecast", "LProphecyShop$Shop;", true)
  | 7 => ("ProphecyShop", "history", "LProphecyShop$History;", true)
  | 8 => ("ProphecyShop", "slots", "[LProphecyShop$Shop;", true)
  | 9 => ("ProphecyShop", "slotFilled", "[Z", true)
  | 10 => ("ProphecyShop", "latestError", "I", false)
  | 11 => ("ProphecyShop", "latestErrorPosition", "I", false)
  | _ => ("ProphecyShop", "output", "Ljava/lang/String;", false)
def tyX11 : Nat → FieldType := fun k => match k with
  | 0 => .object "ProphecyShop$Text"
  | 1 => .object "ProphecyShop$SetupReader"
  | 2 => .object "ProphecyShop$Script"
  | 3 => .object "ProphecyShop$Setup"
  | 4 => .object "ProphecyShop$Setup"
  | 5 => .object "ProphecyShop$Shop"
  | 6 => .object "ProphecyShop$Shop"
  | 7 => .object "ProphecyShop$History"
  | 8 => .array (.object "ProphecyShop$Shop")
  | 9 => .array .boolean
  | 10 => .int
  | 11 => .int
  | _ => .object "java/lang/String"
theorem nmX11 : ∀ a, a < 13 → ∀ b, b < 13 → a ≠ b → (TX11 a).2.1 ≠ (TX11 b).2.1 := by decide +kernel
theorem tyX11_ok : ∀ k, k < 13 → parseFieldDescriptor (TX11 k).2.2.1 = some (tyX11 k) := by decide +kernel
def RX12 : String := "ProphecyShopModel"
def TX12 : u_T := fun k => match k with
  | 0 => ("ProphecyShopModel", "now", "[I", true)
  | 1 => ("ProphecyShopModel", "aside", "[I", true)
  | 2 => ("ProphecyShopModel", "reading", "[I", true)
  | 3 => ("ProphecyShopModel", "past", "[I", true)
  | 4 => ("ProphecyShopModel", "saved", "[I", true)
  | 5 => ("ProphecyShopModel", "isSaved", "[Z", true)
  | 6 => ("ProphecyShopModel", "undos", "I", false)
  | 7 => ("ProphecyShopModel", "thrown", "I", false)
  | 8 => ("ProphecyShopModel", "buffer", "[I", true)
  | 9 => ("ProphecyShopModel", "fed", "I", false)
  | 10 => ("ProphecyShopModel", "lastCode", "I", false)
  | 11 => ("ProphecyShopModel", "lastPlace", "I", false)
  | 12 => ("ProphecyShopModel", "spot", "I", false)
  | 13 => ("ProphecyShopModel", "begin", "I", false)
  | 14 => ("ProphecyShopModel", "token", "I", false)
  | 15 => ("ProphecyShopModel", "value", "I", false)
  | 16 => ("ProphecyShopModel", "code", "I", false)
  | 17 => ("ProphecyShopModel", "place", "I", false)
  | 18 => ("ProphecyShopModel", "kinds", "[I", true)
  | 19 => ("ProphecyShopModel", "numbers", "[I", true)
  | 20 => ("ProphecyShopModel", "commands", "I", false)
  | 21 => ("ProphecyShopModel", "done", "I", false)
  | 22 => ("ProphecyShopModel", "isScript", "Z", false)
  | 23 => ("ProphecyShopModel", "delays", "I", false)
  | 24 => ("ProphecyShopModel", "lasts", "I", false)
  | 25 => ("ProphecyShopModel", "costs", "I", false)
  | 26 => ("ProphecyShopModel", "out", "[I", true)
  | 27 => ("ProphecyShopModel", "digits", "[I", true)
  | _ => ("ProphecyShopModel", "written", "I", false)
def tyX12 : Nat → FieldType := fun k => match k with
  | 0 => .array .int
  | 1 => .array .int
  | 2 => .array .int
  | 3 => .array .int
  | 4 => .array .int
  | 5 => .array .boolean
  | 6 => .int
  | 7 => .int
  | 8 => .array .int
  | 9 => .int
  | 10 => .int
  | 11 => .int
  | 12 => .int
  | 13 => .int
  | 14 => .int
  | 15 => .int
  | 16 => .int
  | 17 => .int
  | 18 => .array .int
  | 19 => .array .int
  | 20 => .int
  | 21 => .int
  | 22 => .boolean
  | 23 => .int
  | 24 => .int
  | 25 => .int
  | 26 => .array .int
  | 27 => .array .int
  | _ => .int
theorem nmX12 : ∀ a, a < 29 → ∀ b, b < 29 → a ≠ b → (TX12 a).2.1 ≠ (TX12 b).2.1 := by decide +kernel
theorem tyX12_ok : ∀ k, k < 29 → parseFieldDescriptor (TX12 k).2.2.1 = some (tyX12 k) := by decide +kernel
def RJ0 : String := "java/lang/String"
def TJ0 : u_T := fun k => match k with
  | 0 => ("java/lang/String", "value", "[B", true)
  | 1 => ("java/lang/String", "coder", "B", true)
  | 2 => ("java/lang/String", "hash", "I", false)
  | _ => ("java/lang/String", "hashIsZero", "Z", false)
def tyJ0 : Nat → FieldType := fun k => match k with
  | 0 => .array .byte
  | 1 => .byte
  | 2 => .int
  | _ => .boolean
theorem nmJ0 : ∀ a, a < 4 → ∀ b, b < 4 → a ≠ b → (TJ0 a).2.1 ≠ (TJ0 b).2.1 := by decide +kernel
theorem tyJ0_ok : ∀ k, k < 4 → parseFieldDescriptor (TJ0 k).2.2.1 = some (tyJ0 k) := by decide +kernel
def RJ4 : String := "java/lang/StringBuilder"
def TJ4 : u_T := fun k => match k with
  | 0 => ("java/lang/AbstractStringBuilder", "value", "[B", false)
  | 1 => ("java/lang/AbstractStringBuilder", "coder", "B", false)
  | 2 => ("java/lang/AbstractStringBuilder", "maybeLatin1", "Z", false)
  | _ => ("java/lang/AbstractStringBuilder", "count", "I", false)
def tyJ4 : Nat → FieldType := fun k => match k with
  | 0 => .array .byte
  | 1 => .byte
  | 2 => .boolean
  | _ => .int
theorem nmJ4 : ∀ a, a < 4 → ∀ b, b < 4 → a ≠ b → (TJ4 a).2.1 ≠ (TJ4 b).2.1 := by decide +kernel
theorem tyJ4_ok : ∀ k, k < 4 → parseFieldDescriptor (TJ4 k).2.2.1 = some (tyJ4 k) := by decide +kernel
def RL : String := "ProphecyShopLaw"
abbrev vwCl : List vw_C := [(RJ0, TJ0, 4), (RJ4, TJ4, 4), (RX0, TX0, 2), (RX1, TX1, 2), (RX2, TX2, 5), (RX3, TX3, 10), (RX5, TX5, 11), (RX6, TX6, 12), (RX7, TX7, 6), (RX8, TX8, 15), (RX9, TX9, 11), (RX10, TX10, 2), (RX11, TX11, 13), (RX12, TX12, 29), (RJ0, TJ0, 2)]
theorem iwTJ0 : ∀ w ∈ u_ws RJ0 TJ0 4, w ∈ lw_tbl := by decide +kernel
theorem iwTJ4 : ∀ w ∈ u_ws RJ4 TJ4 4, w ∈ lw_tbl := by decide +kernel
theorem iwTX0 : ∀ w ∈ u_ws RX0 TX0 2, w ∈ lw_tbl := by decide +kernel
theorem iwTX1 : ∀ w ∈ u_ws RX1 TX1 2, w ∈ lw_tbl := by decide +kernel
theorem iwTX2 : ∀ w ∈ u_ws RX2 TX2 5, w ∈ lw_tbl := by decide +kernel
theorem iwTX3 : ∀ w ∈ u_ws RX3 TX3 10, w ∈ lw_tbl := by decide +kernel
theorem iwTX5 : ∀ w ∈ u_ws RX5 TX5 11, w ∈ lw_tbl := by decide +kernel
theorem iwTX6 : ∀ w ∈ u_ws RX6 TX6 12, w ∈ lw_tbl := by decide +kernel
theorem iwTX7 : ∀ w ∈ u_ws RX7 TX7 6, w ∈ lw_tbl := by decide +kernel
theorem iwTX8 : ∀ w ∈ u_ws RX8 TX8 15, w ∈ lw_tbl := by decide +kernel
theorem iwTX9 : ∀ w ∈ u_ws RX9 TX9 11, w ∈ lw_tbl := by decide +kernel
theorem iwTX10 : ∀ w ∈ u_ws RX10 TX10 2, w ∈ lw_tbl := by decide +kernel
theorem iwTX11 : ∀ w ∈ u_ws RX11 TX11 13, w ∈ lw_tbl := by decide +kernel
theorem iwTX12 : ∀ w ∈ u_ws RX12 TX12 29, w ∈ lw_tbl := by decide +kernel
/-- the String constants: class, entry, text, number among the old cells -/
def rStr : List (String × Nat × String × Nat) := [("ProphecyShop", 76, "", 0), ("ProphecyShop", 82, "shop 100 2 5 100 50; event rain; event war; place inn; place mill; place pass; customer ada 80 4; customer ben 300 9; customer cai 20 15; owl 3; owl 5;", 1), ("ProphecyShop$SetupReader", 57, "shop", 2), ("ProphecyShop$SetupReader", 24, "event", 3), ("ProphecyShop$SetupReader", 34, "place", 4), ("ProphecyShop$SetupReader", 104, "customer", 5), ("ProphecyShop$SetupReader", 113, "owl", 6), ("ProphecyShop$Script", 59, "sell", 7), ("ProphecyShop$Script", 150, "vague", 8), ("ProphecyShop$Script", 156, "never", 9), ("ProphecyShop$Script", 158, "plain", 10), ("ProphecyShop$Script", 73, "happen", 11), ("ProphecyShop$Script", 78, "ask", 12), ("ProphecyShop$Script", 91, "pass", 13), ("ProphecyShop$Script", 93, "repeat", 14), ("java/util/Arrays", 337, " > ", 15), ("ProphecyShop", 110, "the text would be too long", 16), ("ProphecyShop", 124, "the length is out of range", 17), ("ProphecyShop", 370, "no such number", 18), ("ProphecyShop", 227, "the prophecy is open", 19), ("ProphecyShop", 267, "no such state", 20), ("ProphecyShop", 303, "the days are out of range", 21), ("ProphecyShop", 373, "a value is out of range", 22), ("ProphecyShop", 375, "not possible now", 23), ("ProphecyShop", 349, "no change can be undone", 24), ("ProphecyShop", 354, "the slot is empty", 25), ("ProphecyShopModel", 48, "shop 100 2 5 100 50; event rain; event war; place inn; place mill; place pass; customer ada 80 4; customer ben 300 9; customer cai 20 15; owl 3; owl 5;", 26), ("ProphecyShopModel", 213, "shop", 27), ("ProphecyShopModel", 198, "event", 28), ("ProphecyShopModel", 207, "place", 29), ("ProphecyShopModel", 222, "customer", 30), ("ProphecyShopModel", 211, "owl", 31), ("ProphecyShopModel", 236, "sell", 32), ("ProphecyShopModel", 238, "happen", 33), ("ProphecyShopModel", 240, "ask", 34), ("ProphecyShopModel", 242, "pass", 35), ("ProphecyShopModel", 244, "repeat", 36), ("ProphecyShopModel", 255, "plain", 37), ("ProphecyShopModel", 257, "vague", 38), ("ProphecyShopModel", 259, "never", 39)]
/-- the statics: class, name, descriptor, value -/
def rSta : List (String × String × String × (Value ⊕ (Nat × Nat))) := [("java/lang/String", "COMPACT_STRINGS", "Z", .inl (.int 1)), ("java/lang/Integer", "DigitOnes", "[B", .inr (1, 200)), ("java/lang/Integer", "DigitTens", "[B", .inr (1, 201))]
/-- private methods of the abstract class, called on objects of the classes below it -/
def rSel : List Cond := [.selects "ProphecyShop$SetupReader" ⟨"ProphecyShop$Reader", "next", "()V"⟩ ⟨"ProphecyShop$Reader", "next", "()V"⟩, .selects "ProphecyShop$SetupReader" ⟨"ProphecyShop$Reader", "codeOfName", "()I"⟩ ⟨"ProphecyShop$Reader", "codeOfName", "()I"⟩, .selects "ProphecyShop$Script" ⟨"ProphecyShop$Reader", "next", "()V"⟩ ⟨"ProphecyShop$Reader", "next", "()V"⟩, .selects "ProphecyShop$Script" ⟨"ProphecyShop$Reader", "codeOfName", "()I"⟩ ⟨"ProphecyShop$Reader", "codeOfName", "()I"⟩, .selects "java/lang/StringBuilder" ⟨"java/lang/AbstractStringBuilder", "ensureCapacityInternal", "(I)V"⟩ ⟨"java/lang/AbstractStringBuilder", "ensureCapacityInternal", "(I)V"⟩, .selects "java/lang/StringBuilder" ⟨"java/lang/AbstractStringBuilder", "newCapacity", "(I)I"⟩ ⟨"java/lang/AbstractStringBuilder", "newCapacity", "(I)I"⟩]
def lw_T : List Cond := lw_tbl ++ rSel
/-- pairs of classes that are no casts -/
def rNc : List (String × String) := [("java/lang/IllegalArgumentException", "java/lang/IllegalStateException"), ("java/lang/IndexOutOfBoundsException", "java/lang/IllegalStateException"), ("java/util/NoSuchElementException", "java/lang/IllegalStateException"), ("java/lang/IllegalStateException", "java/lang/IllegalArgumentException"), ("java/lang/IndexOutOfBoundsException", "java/lang/IllegalArgumentException"), ("java/util/NoSuchElementException", "java/lang/IllegalArgumentException"), ("java/lang/IllegalStateException", "java/lang/IndexOutOfBoundsException"), ("java/lang/IllegalArgumentException", "java/lang/IndexOutOfBoundsException"), ("java/util/NoSuchElementException", "java/lang/IndexOutOfBoundsException"), ("java/lang/IllegalStateException", "java/util/NoSuchElementException"), ("java/lang/IllegalArgumentException", "java/util/NoSuchElementException"), ("java/lang/IndexOutOfBoundsException", "java/util/NoSuchElementException")]
