section
-- ===== PART A: goes FIRST, ahead of the names: the tables' words, and 'selects' of the private methods out of them =====
/-- a private method of a class that the tables say can be made, by its rows of tables_1 -/
def lw_okq (q : MethodName × Nat) : Prop := (q.1.cls ≠ "java/lang/invoke/MethodHandle" ∧ q.1.cls ≠ "java/lang/invoke/VarHandle") ∧ Cond.instantiable q.1.cls q.2 ∈ tables_1 ∧ Cond.privateMethod q.1 ∈ tables_1 ∧ Cond.instanceMethod q.1 ∈ tables_1
theorem lw_p0 : lw_okq (⟨"java/util/ArrayList", "add", "(Ljava/lang/Object;[Ljava/lang/Object;I)V"⟩, 3) := ⟨⟨by decide +kernel, by decide +kernel⟩, List.mem_of_getElem? (i := 78) (by decide +kernel), List.mem_of_getElem? (i := 134) (by decide +kernel), List.mem_of_getElem? (i := 135) (by decide +kernel)⟩
theorem lw_p1 : lw_okq (⟨"java/util/ArrayList", "grow", "()[Ljava/lang/Object;"⟩, 3) := ⟨⟨by decide +kernel, by decide +kernel⟩, List.mem_of_getElem? (i := 78) (by decide +kernel), List.mem_of_getElem? (i := 138) (by decide +kernel), List.mem_of_getElem? (i := 139) (by decide +kernel)⟩
theorem lw_p2 : lw_okq (⟨"java/util/ArrayList", "grow", "(I)[Ljava/lang/Object;"⟩, 3) := ⟨⟨by decide +kernel, by decide +kernel⟩, List.mem_of_getElem? (i := 78) (by decide +kernel), List.mem_of_getElem? (i := 142) (by decide +kernel), List.mem_of_getElem? (i := 143) (by decide +kernel)⟩
theorem lw_p3 : lw_okq (⟨"CityBank", "accountAt", "(I)LCityBank$Account;"⟩, 13) := ⟨⟨by decide +kernel, by decide +kernel⟩, List.mem_of_getElem? (i := 27) (by decide +kernel), List.mem_of_getElem? (i := 404) (by decide +kernel), List.mem_of_getElem? (i := 405) (by decide +kernel)⟩
theorem lw_p4 : lw_okq (⟨"CityBank", "kindAt", "(I)LCityBank$Kind;"⟩, 13) := ⟨⟨by decide +kernel, by decide +kernel⟩, List.mem_of_getElem? (i := 27) (by decide +kernel), List.mem_of_getElem? (i := 428) (by decide +kernel), List.mem_of_getElem? (i := 429) (by decide +kernel)⟩
theorem lw_p5 : lw_okq (⟨"CityBank", "slotAt", "(I)LCityBank$Slot;"⟩, 13) := ⟨⟨by decide +kernel, by decide +kernel⟩, List.mem_of_getElem? (i := 27) (by decide +kernel), List.mem_of_getElem? (i := 432) (by decide +kernel), List.mem_of_getElem? (i := 433) (by decide +kernel)⟩
theorem lw_p6 : lw_okq (⟨"CityBank", "room", "()I"⟩, 13) := ⟨⟨by decide +kernel, by decide +kernel⟩, List.mem_of_getElem? (i := 27) (by decide +kernel), List.mem_of_getElem? (i := 436) (by decide +kernel), List.mem_of_getElem? (i := 437) (by decide +kernel)⟩
theorem lw_p7 : lw_okq (⟨"CityBank", "bringIn", "(LCityBank$Account;LCityBank$Kind;II)V"⟩, 13) := ⟨⟨by decide +kernel, by decide +kernel⟩, List.mem_of_getElem? (i := 27) (by decide +kernel), List.mem_of_getElem? (i := 454) (by decide +kernel), List.mem_of_getElem? (i := 455) (by decide +kernel)⟩
theorem lw_p8 : lw_okq (⟨"CityBank", "openReceiptAt", "(I)LCityBank$Receipt;"⟩, 13) := ⟨⟨by decide +kernel, by decide +kernel⟩, List.mem_of_getElem? (i := 27) (by decide +kernel), List.mem_of_getElem? (i := 566) (by decide +kernel), List.mem_of_getElem? (i := 567) (by decide +kernel)⟩
theorem lw_p9 : lw_okq (⟨"CityBank", "receiptAt", "(I)LCityBank$Receipt;"⟩, 13) := ⟨⟨by decide +kernel, by decide +kernel⟩, List.mem_of_getElem? (i := 27) (by decide +kernel), List.mem_of_getElem? (i := 570) (by decide +kernel), List.mem_of_getElem? (i := 571) (by decide +kernel)⟩
theorem lw_p10 : lw_okq (⟨"CityBank", "feeOn", "(LCityBank$Receipt;)J"⟩, 13) := ⟨⟨by decide +kernel, by decide +kernel⟩, List.mem_of_getElem? (i := 27) (by decide +kernel), List.mem_of_getElem? (i := 575) (by decide +kernel), List.mem_of_getElem? (i := 576) (by decide +kernel)⟩
theorem lw_p11 : lw_okq (⟨"CityBank", "payOut", "(LCityBank$Account;J)V"⟩, 13) := ⟨⟨by decide +kernel, by decide +kernel⟩, List.mem_of_getElem? (i := 27) (by decide +kernel), List.mem_of_getElem? (i := 582) (by decide +kernel), List.mem_of_getElem? (i := 583) (by decide +kernel)⟩
theorem lw_p12 : lw_okq (⟨"CityBank", "letWait", "(IIJIII)I"⟩, 13) := ⟨⟨by decide +kernel, by decide +kernel⟩, List.mem_of_getElem? (i := 27) (by decide +kernel), List.mem_of_getElem? (i := 599) (by decide +kernel), List.mem_of_getElem? (i := 600) (by decide +kernel)⟩
theorem lw_p13 : lw_okq (⟨"CityBank", "orderAt", "(I)LCityBank$Order;"⟩, 13) := ⟨⟨by decide +kernel, by decide +kernel⟩, List.mem_of_getElem? (i := 27) (by decide +kernel), List.mem_of_getElem? (i := 665) (by decide +kernel), List.mem_of_getElem? (i := 666) (by decide +kernel)⟩
theorem lw_p14 : lw_okq (⟨"CityBank", "slipIsAsTold", "(LCityBank$Order;II)Z"⟩, 13) := ⟨⟨by decide +kernel, by decide +kernel⟩, List.mem_of_getElem? (i := 27) (by decide +kernel), List.mem_of_getElem? (i := 669) (by decide +kernel), List.mem_of_getElem? (i := 670) (by decide +kernel)⟩
theorem lw_p15 : lw_okq (⟨"CityBank", "carryOutOrders", "()I"⟩, 13) := ⟨⟨by decide +kernel, by decide +kernel⟩, List.mem_of_getElem? (i := 27) (by decide +kernel), List.mem_of_getElem? (i := 678) (by decide +kernel), List.mem_of_getElem? (i := 679) (by decide +kernel)⟩
def lw_privs_1 : List (MethodName × Nat) := [(⟨"java/util/ArrayList", "add", "(Ljava/lang/Object;[Ljava/lang/Object;I)V"⟩, 3), (⟨"java/util/ArrayList", "grow", "()[Ljava/lang/Object;"⟩, 3), (⟨"java/util/ArrayList", "grow", "(I)[Ljava/lang/Object;"⟩, 3), (⟨"CityBank", "accountAt", "(I)LCityBank$Account;"⟩, 13), (⟨"CityBank", "kindAt", "(I)LCityBank$Kind;"⟩, 13), (⟨"CityBank", "slotAt", "(I)LCityBank$Slot;"⟩, 13), (⟨"CityBank", "room", "()I"⟩, 13), (⟨"CityBank", "bringIn", "(LCityBank$Account;LCityBank$Kind;II)V"⟩, 13), (⟨"CityBank", "openReceiptAt", "(I)LCityBank$Receipt;"⟩, 13), (⟨"CityBank", "receiptAt", "(I)LCityBank$Receipt;"⟩, 13), (⟨"CityBank", "feeOn", "(LCityBank$Receipt;)J"⟩, 13), (⟨"CityBank", "payOut", "(LCityBank$Account;J)V"⟩, 13), (⟨"CityBank", "letWait", "(IIJIII)I"⟩, 13), (⟨"CityBank", "orderAt", "(I)LCityBank$Order;"⟩, 13), (⟨"CityBank", "slipIsAsTold", "(LCityBank$Order;II)Z"⟩, 13), (⟨"CityBank", "carryOutOrders", "()I"⟩, 13)]
theorem lw_r1 : ∀ q ∈ lw_privs_1, lw_okq q := List.forall_mem_cons.mpr ⟨lw_p0, List.forall_mem_cons.mpr ⟨lw_p1, List.forall_mem_cons.mpr ⟨lw_p2, List.forall_mem_cons.mpr ⟨lw_p3, List.forall_mem_cons.mpr ⟨lw_p4, List.forall_mem_cons.mpr ⟨lw_p5, List.forall_mem_cons.mpr ⟨lw_p6, List.forall_mem_cons.mpr ⟨lw_p7, List.forall_mem_cons.mpr ⟨lw_p8, List.forall_mem_cons.mpr ⟨lw_p9, List.forall_mem_cons.mpr ⟨lw_p10, List.forall_mem_cons.mpr ⟨lw_p11, List.forall_mem_cons.mpr ⟨lw_p12, List.forall_mem_cons.mpr ⟨lw_p13, List.forall_mem_cons.mpr ⟨lw_p14, List.forall_mem_cons.mpr ⟨lw_p15, fun _ h => absurd h List.not_mem_nil⟩⟩⟩⟩⟩⟩⟩⟩⟩⟩⟩⟩⟩⟩⟩⟩
theorem lw_p16 : lw_okq (⟨"CityBank", "nextOrderDue", "()I"⟩, 13) := ⟨⟨by decide +kernel, by decide +kernel⟩, List.mem_of_getElem? (i := 27) (by decide +kernel), List.mem_of_getElem? (i := 682) (by decide +kernel), List.mem_of_getElem? (i := 683) (by decide +kernel)⟩
theorem lw_p17 : lw_okq (⟨"CityBank", "carryOut", "(LCityBank$Order;I)V"⟩, 13) := ⟨⟨by decide +kernel, by decide +kernel⟩, List.mem_of_getElem? (i := 27) (by decide +kernel), List.mem_of_getElem? (i := 686) (by decide +kernel), List.mem_of_getElem? (i := 687) (by decide +kernel)⟩
theorem lw_p18 : lw_okq (⟨"CityBank", "enterCredit", "(LCityBank$Order;I)I"⟩, 13) := ⟨⟨by decide +kernel, by decide +kernel⟩, List.mem_of_getElem? (i := 27) (by decide +kernel), List.mem_of_getElem? (i := 695) (by decide +kernel), List.mem_of_getElem? (i := 696) (by decide +kernel)⟩
theorem lw_p19 : lw_okq (⟨"CityBank", "lapseReceipts", "()V"⟩, 13) := ⟨⟨by decide +kernel, by decide +kernel⟩, List.mem_of_getElem? (i := 27) (by decide +kernel), List.mem_of_getElem? (i := 704) (by decide +kernel), List.mem_of_getElem? (i := 705) (by decide +kernel)⟩
theorem lw_p20 : lw_okq (⟨"CityBank", "loanAt", "(I)LCityBank$Loan;"⟩, 13) := ⟨⟨by decide +kernel, by decide +kernel⟩, List.mem_of_getElem? (i := 27) (by decide +kernel), List.mem_of_getElem? (i := 790) (by decide +kernel), List.mem_of_getElem? (i := 791) (by decide +kernel)⟩
theorem lw_p21 : lw_okq (⟨"CityBank", "bookOfVault", "()J"⟩, 13) := ⟨⟨by decide +kernel, by decide +kernel⟩, List.mem_of_getElem? (i := 27) (by decide +kernel), List.mem_of_getElem? (i := 804) (by decide +kernel), List.mem_of_getElem? (i := 805) (by decide +kernel)⟩
theorem lw_p22 : lw_okq (⟨"CityBank", "allBalances", "()J"⟩, 13) := ⟨⟨by decide +kernel, by decide +kernel⟩, List.mem_of_getElem? (i := 27) (by decide +kernel), List.mem_of_getElem? (i := 808) (by decide +kernel), List.mem_of_getElem? (i := 809) (by decide +kernel)⟩
theorem lw_p23 : lw_okq (⟨"CityBank", "slotsWithRow", "()I"⟩, 13) := ⟨⟨by decide +kernel, by decide +kernel⟩, List.mem_of_getElem? (i := 27) (by decide +kernel), List.mem_of_getElem? (i := 871) (by decide +kernel), List.mem_of_getElem? (i := 872) (by decide +kernel)⟩
theorem lw_p24 : lw_okq (⟨"CityBankModel", "isAccount", "(I)Z"⟩, 67) := ⟨⟨by decide +kernel, by decide +kernel⟩, List.mem_of_getElem? (i := 909) (by decide +kernel), List.mem_of_getElem? (i := 1165) (by decide +kernel), List.mem_of_getElem? (i := 1166) (by decide +kernel)⟩
theorem lw_p25 : lw_okq (⟨"CityBankModel", "isKind", "(I)Z"⟩, 67) := ⟨⟨by decide +kernel, by decide +kernel⟩, List.mem_of_getElem? (i := 909) (by decide +kernel), List.mem_of_getElem? (i := 1175) (by decide +kernel), List.mem_of_getElem? (i := 1176) (by decide +kernel)⟩
theorem lw_p26 : lw_okq (⟨"CityBankModel", "room", "()I"⟩, 67) := ⟨⟨by decide +kernel, by decide +kernel⟩, List.mem_of_getElem? (i := 909) (by decide +kernel), List.mem_of_getElem? (i := 1179) (by decide +kernel), List.mem_of_getElem? (i := 1180) (by decide +kernel)⟩
theorem lw_p27 : lw_okq (⟨"CityBankModel", "isTaken", "(IJ)Z"⟩, 67) := ⟨⟨by decide +kernel, by decide +kernel⟩, List.mem_of_getElem? (i := 909) (by decide +kernel), List.mem_of_getElem? (i := 1183) (by decide +kernel), List.mem_of_getElem? (i := 1184) (by decide +kernel)⟩
theorem lw_p28 : lw_okq (⟨"CityBankModel", "bookOf", "(IJ)J"⟩, 67) := ⟨⟨by decide +kernel, by decide +kernel⟩, List.mem_of_getElem? (i := 909) (by decide +kernel), List.mem_of_getElem? (i := 1187) (by decide +kernel), List.mem_of_getElem? (i := 1188) (by decide +kernel)⟩
theorem lw_p29 : lw_okq (⟨"CityBankModel", "writes", "(IIIJI)I"⟩, 67) := ⟨⟨by decide +kernel, by decide +kernel⟩, List.mem_of_getElem? (i := 909) (by decide +kernel), List.mem_of_getElem? (i := 1191) (by decide +kernel), List.mem_of_getElem? (i := 1192) (by decide +kernel)⟩
theorem lw_p30 : lw_okq (⟨"CityBankModel", "folioOf", "(I)I"⟩, 67) := ⟨⟨by decide +kernel, by decide +kernel⟩, List.mem_of_getElem? (i := 909) (by decide +kernel), List.mem_of_getElem? (i := 1195) (by decide +kernel), List.mem_of_getElem? (i := 1196) (by decide +kernel)⟩
theorem lw_p31 : lw_okq (⟨"CityBankModel", "isOpen", "(I)Z"⟩, 67) := ⟨⟨by decide +kernel, by decide +kernel⟩, List.mem_of_getElem? (i := 909) (by decide +kernel), List.mem_of_getElem? (i := 1203) (by decide +kernel), List.mem_of_getElem? (i := 1204) (by decide +kernel)⟩
def lw_privs_2 : List (MethodName × Nat) := [(⟨"CityBank", "nextOrderDue", "()I"⟩, 13), (⟨"CityBank", "carryOut", "(LCityBank$Order;I)V"⟩, 13), (⟨"CityBank", "enterCredit", "(LCityBank$Order;I)I"⟩, 13), (⟨"CityBank", "lapseReceipts", "()V"⟩, 13), (⟨"CityBank", "loanAt", "(I)LCityBank$Loan;"⟩, 13), (⟨"CityBank", "bookOfVault", "()J"⟩, 13), (⟨"CityBank", "allBalances", "()J"⟩, 13), (⟨"CityBank", "slotsWithRow", "()I"⟩, 13), (⟨"CityBankModel", "isAccount", "(I)Z"⟩, 67), (⟨"CityBankModel", "isKind", "(I)Z"⟩, 67), (⟨"CityBankModel", "room", "()I"⟩, 67), (⟨"CityBankModel", "isTaken", "(IJ)Z"⟩, 67), (⟨"CityBankModel", "bookOf", "(IJ)J"⟩, 67), (⟨"CityBankModel", "writes", "(IIIJI)I"⟩, 67), (⟨"CityBankModel", "folioOf", "(I)I"⟩, 67), (⟨"CityBankModel", "isOpen", "(I)Z"⟩, 67)]
theorem lw_r2 : ∀ q ∈ lw_privs_2, lw_okq q := List.forall_mem_cons.mpr ⟨lw_p16, List.forall_mem_cons.mpr ⟨lw_p17, List.forall_mem_cons.mpr ⟨lw_p18, List.forall_mem_cons.mpr ⟨lw_p19, List.forall_mem_cons.mpr ⟨lw_p20, List.forall_mem_cons.mpr ⟨lw_p21, List.forall_mem_cons.mpr ⟨lw_p22, List.forall_mem_cons.mpr ⟨lw_p23, List.forall_mem_cons.mpr ⟨lw_p24, List.forall_mem_cons.mpr ⟨lw_p25, List.forall_mem_cons.mpr ⟨lw_p26, List.forall_mem_cons.mpr ⟨lw_p27, List.forall_mem_cons.mpr ⟨lw_p28, List.forall_mem_cons.mpr ⟨lw_p29, List.forall_mem_cons.mpr ⟨lw_p30, List.forall_mem_cons.mpr ⟨lw_p31, fun _ h => absurd h List.not_mem_nil⟩⟩⟩⟩⟩⟩⟩⟩⟩⟩⟩⟩⟩⟩⟩⟩
theorem lw_p32 : lw_okq (⟨"CityBankModel", "pays", "(IJ)V"⟩, 67) := ⟨⟨by decide +kernel, by decide +kernel⟩, List.mem_of_getElem? (i := 909) (by decide +kernel), List.mem_of_getElem? (i := 1211) (by decide +kernel), List.mem_of_getElem? (i := 1212) (by decide +kernel)⟩
theorem lw_p33 : lw_okq (⟨"CityBankModel", "waits", "(IIJIII)I"⟩, 67) := ⟨⟨by decide +kernel, by decide +kernel⟩, List.mem_of_getElem? (i := 909) (by decide +kernel), List.mem_of_getElem? (i := 1228) (by decide +kernel), List.mem_of_getElem? (i := 1229) (by decide +kernel)⟩
theorem lw_p34 : lw_okq (⟨"CityBankModel", "does", "(I)Z"⟩, 67) := ⟨⟨by decide +kernel, by decide +kernel⟩, List.mem_of_getElem? (i := 909) (by decide +kernel), List.mem_of_getElem? (i := 1246) (by decide +kernel), List.mem_of_getElem? (i := 1247) (by decide +kernel)⟩
theorem lw_p35 : lw_okq (⟨"CityBankModel", "howOf", "(IJ)I"⟩, 67) := ⟨⟨by decide +kernel, by decide +kernel⟩, List.mem_of_getElem? (i := 909) (by decide +kernel), List.mem_of_getElem? (i := 1262) (by decide +kernel), List.mem_of_getElem? (i := 1263) (by decide +kernel)⟩
theorem lw_p36 : lw_okq (⟨"CityBankModel", "vaultBook", "()J"⟩, 67) := ⟨⟨by decide +kernel, by decide +kernel⟩, List.mem_of_getElem? (i := 909) (by decide +kernel), List.mem_of_getElem? (i := 1301) (by decide +kernel), List.mem_of_getElem? (i := 1302) (by decide +kernel)⟩
theorem lw_p37 : lw_okq (⟨"CityBankModel", "balances", "()J"⟩, 67) := ⟨⟨by decide +kernel, by decide +kernel⟩, List.mem_of_getElem? (i := 909) (by decide +kernel), List.mem_of_getElem? (i := 1305) (by decide +kernel), List.mem_of_getElem? (i := 1306) (by decide +kernel)⟩
def lw_privs_3 : List (MethodName × Nat) := [(⟨"CityBankModel", "pays", "(IJ)V"⟩, 67), (⟨"CityBankModel", "waits", "(IIJIII)I"⟩, 67), (⟨"CityBankModel", "does", "(I)Z"⟩, 67), (⟨"CityBankModel", "howOf", "(IJ)I"⟩, 67), (⟨"CityBankModel", "vaultBook", "()J"⟩, 67), (⟨"CityBankModel", "balances", "()J"⟩, 67)]
theorem lw_r3 : ∀ q ∈ lw_privs_3, lw_okq q := List.forall_mem_cons.mpr ⟨lw_p32, List.forall_mem_cons.mpr ⟨lw_p33, List.forall_mem_cons.mpr ⟨lw_p34, List.forall_mem_cons.mpr ⟨lw_p35, List.forall_mem_cons.mpr ⟨lw_p36, List.forall_mem_cons.mpr ⟨lw_p37, fun _ h => absurd h List.not_mem_nil⟩⟩⟩⟩⟩⟩
def lw_privs : List (MethodName × Nat) := lw_privs_1 ++ (lw_privs_2 ++ (lw_privs_3))
def lw_tbl : List Cond := k2_sels lw_privs ++ tables_1
theorem lw_privs_ok : ∀ q ∈ lw_privs, lw_okq q := by
  show ∀ q ∈ lw_privs_1 ++ (lw_privs_2 ++ (lw_privs_3)), lw_okq q
  exact List.forall_mem_append.mpr ⟨lw_r1, List.forall_mem_append.mpr ⟨lw_r2, lw_r3⟩⟩
-- ===== end of PART A; then your names; then what follows =====
/-! ===== BEGIN words of one list among another's, by their places ===== -/
theorem goodIn_r {big : List Cond} (ws : List Cond) (ps : List Nat) (hp : ws = ps.filterMap (fun i => big[i]?)) (h : ws.all goodWord = true) : GoodIn big ws := by
  intro w hw
  have h1 := List.all_eq_true.mp h w hw
  rw [hp] at hw
  obtain ⟨i, -, hi⟩ := List.mem_filterMap.mp hw
  have hm : w ∈ big := by first | exact List.mem_of_getElem? hi | exact List.getElem?_mem hi
  exact ⟨hm, good_of_word h1⟩
theorem goodIn_app {big a b : List Cond} (ha : GoodIn big a) (hb : GoodIn big b) : GoodIn big (a ++ b) := fun w h => (List.mem_append.mp h).elim (ha w) (hb w)
theorem goodIn_ca {big a b : List Cond} {c : Cond} (ha : GoodIn big (c :: a)) (hb : GoodIn big b) : GoodIn big (c :: (a ++ b)) := fun w h => (List.mem_cons.mp h).elim (fun e => ha w (List.mem_cons.mpr (Or.inl e))) (fun h => (List.mem_append.mp h).elim (fun h => ha w (List.mem_cons.mpr (Or.inr h))) (hb w))
theorem goodIn_sub {big ws : List Cond} (hm : ∀ w ∈ ws, w ∈ big) (h : ws.all goodWord = true) : GoodIn big ws := fun w hw => ⟨hm w hw, good_of_word (List.all_eq_true.mp h w hw)⟩
/-! ===== END ===== -/

/-! ===== BEGIN printed: names, fields, word lists, decode rows ===== -/
def RX0 : String := "CityBank$Account"
def TX0 : u_T := fun k => match k with
  | 0 => ("CityBank$Account", "number", "I", true)
  | 1 => ("CityBank$Account", "folios", "Ljava/util/ArrayList;", true)
  | 2 => ("CityBank$Account", "folio", "I", false)
  | 3 => ("CityBank$Account", "linesOnFolio", "I", false)
  | 4 => ("CityBank$Account", "balance", "J", false)
  | 5 => ("CityBank$Account", "attorney", "I", false)
  | _ => ("CityBank$Account", "attorneyLastDay", "I", false)
def tyX0 : Nat → FieldType := fun k => match k with
  | 0 => .int
  | 1 => .object "java/util/ArrayList"
  | 2 => .int
  | 3 => .int
  | 4 => .long
  | 5 => .int
  | _ => .int
abbrev wsX00 : List Cond := u_ws RX0 TX0 7
theorem nmX0 : ∀ a, a < 7 → ∀ b, b < 7 → a ≠ b → (TX0 a).2.1 ≠ (TX0 b).2.1 := by decide +kernel
theorem tyX0_ok : ∀ k, k < 7 → parseFieldDescriptor (TX0 k).2.2.1 = some (tyX0 k) := by decide +kernel
abbrev cX0_init : ByteArray := prog_2_method_1_code
def yX0_init : MethodName := ⟨RX0, "<init>", "(I)V"⟩
abbrev cX0_folioAt : ByteArray := prog_2_method_2_code
def yX0_folioAt : MethodName := ⟨RX0, "folioAt", "(I)I"⟩
abbrev cX0_maySign : ByteArray := prog_2_method_3_code
def yX0_maySign : MethodName := ⟨RX0, "maySign", "(II)Z"⟩
def RX1 : String := "CityBank$House"
def TX1 : u_T := fun k => match k with
  | 0 => ("CityBank$House", "agio", "I", false)
  | 1 => ("CityBank$House", "sold", "J", false)
  | 2 => ("CityBank$House", "bought", "J", false)
  | 3 => ("CityBank$House", "transferred", "J", false)
  | _ => ("CityBank$House", "taken", "J", false)
def tyX1 : Nat → FieldType := fun k => match k with
  | 0 => .int
  | 1 => .long
  | 2 => .long
  | 3 => .long
  | _ => .long
abbrev wsX10 : List Cond := u_ws RX1 TX1 5
theorem nmX1 : ∀ a, a < 5 → ∀ b, b < 5 → a ≠ b → (TX1 a).2.1 ≠ (TX1 b).2.1 := by decide +kernel
theorem tyX1_ok : ∀ k, k < 5 → parseFieldDescriptor (TX1 k).2.2.1 = some (tyX1 k) := by decide +kernel
abbrev cX1_init : ByteArray := prog_3_method_1_code
def yX1_init : MethodName := ⟨RX1, "<init>", "()V"⟩
abbrev cX1_settleAgio : ByteArray := prog_3_method_2_code
def yX1_settleAgio : MethodName := ⟨RX1, "settleAgio", "(LCityBank$Terms;)V"⟩
abbrev cX1_pulled : ByteArray := prog_3_method_3_code
def yX1_pulled : MethodName := ⟨RX1, "pulled", "(J)J"⟩
abbrev cX1_clamp : ByteArray := prog_3_method_4_code
def yX1_clamp : MethodName := ⟨RX1, "clamp", "(JJJ)J"⟩
def RX2 : String := "CityBank$Kind"
def TX2 : u_T := fun k => match k with
  | 0 => ("CityBank$Kind", "number", "I", true)
  | 1 => ("CityBank$Kind", "full", "I", true)
  | 2 => ("CityBank$Kind", "least", "I", true)
  | 3 => ("CityBank$Kind", "fineness", "I", true)
  | 4 => ("CityBank$Kind", "coins", "I", false)
  | _ => ("CityBank$Kind", "weight", "J", false)
def tyX2 : Nat → FieldType := fun k => match k with
  | 0 => .int
  | 1 => .int
  | 2 => .int
  | 3 => .int
  | 4 => .int
  | _ => .long
abbrev wsX20 : List Cond := u_ws RX2 TX2 6
theorem nmX2 : ∀ a, a < 6 → ∀ b, b < 6 → a ≠ b → (TX2 a).2.1 ≠ (TX2 b).2.1 := by decide +kernel
theorem tyX2_ok : ∀ k, k < 6 → parseFieldDescriptor (TX2 k).2.2.1 = some (tyX2 k) := by decide +kernel
abbrev cX2_init : ByteArray := prog_4_method_1_code
def yX2_init : MethodName := ⟨RX2, "<init>", "(IIII)V"⟩
abbrev cX2_takes : ByteArray := prog_4_method_2_code
def yX2_takes : MethodName := ⟨RX2, "takes", "(J)Z"⟩
abbrev cX2_bookOf : ByteArray := prog_4_method_3_code
def yX2_bookOf : MethodName := ⟨RX2, "bookOf", "(JI)J"⟩
def RX3 : String := "CityBank$Ledger"
def TX3 : u_T := fun k => match k with
  | 0 => ("CityBank$Ledger", "lines", "Ljava/util/ArrayList;", true)
  | 1 => ("CityBank$Ledger", "suspectLines", "[I", true)
  | 2 => ("CityBank$Ledger", "suspicions", "[I", true)
  | 3 => ("CityBank$Ledger", "suspectCount", "I", false)
  | _ => ("CityBank$Ledger", "folios", "I", false)
def tyX3 : Nat → FieldType := fun k => match k with
  | 0 => .object "java/util/ArrayList"
  | 1 => .array .int
  | 2 => .array .int
  | 3 => .int
  | _ => .int
abbrev wsX30 : List Cond := u_ws RX3 TX3 5
theorem nmX3 : ∀ a, a < 5 → ∀ b, b < 5 → a ≠ b → (TX3 a).2.1 ≠ (TX3 b).2.1 := by decide +kernel
theorem tyX3_ok : ∀ k, k < 5 → parseFieldDescriptor (TX3 k).2.2.1 = some (tyX3 k) := by decide +kernel
abbrev cX3_init : ByteArray := prog_5_method_1_code
def yX3_init : MethodName := ⟨RX3, "<init>", "()V"⟩
abbrev cX3_lineAt : ByteArray := prog_5_method_2_code
def yX3_lineAt : MethodName := ⟨RX3, "lineAt", "(I)LCityBank$Line;"⟩
abbrev cX3_enter : ByteArray := prog_5_method_3_code
def yX3_enter : MethodName := ⟨RX3, "enter", "(ILCityBank$Account;IJI)I"⟩
abbrev cX3_folioForLineOf : ByteArray := prog_5_method_4_code
def yX3_folioForLineOf : MethodName := ⟨RX3, "folioForLineOf", "(LCityBank$Account;)I"⟩
abbrev cX3_creditsLessDebits : ByteArray := prog_5_method_5_code
def yX3_creditsLessDebits : MethodName := ⟨RX3, "creditsLessDebits", "(I)J"⟩
abbrev cX3_debitsLessCredits : ByteArray := prog_5_method_6_code
def yX3_debitsLessCredits : MethodName := ⟨RX3, "debitsLessCredits", "(I)J"⟩
abbrev cX3_findSuspects : ByteArray := prog_5_method_7_code
def yX3_findSuspects : MethodName := ⟨RX3, "findSuspects", "(I)I"⟩
abbrev cX3_suspicionOf : ByteArray := prog_5_method_8_code
def yX3_suspicionOf : MethodName := ⟨RX3, "suspicionOf", "(LCityBank$Line;J)I"⟩
abbrev cX3_someExchangeAdds : ByteArray := prog_5_method_9_code
def yX3_someExchangeAdds : MethodName := ⟨RX3, "someExchangeAdds", "(JJ)Z"⟩
abbrev cX3_withDigitsExchanged : ByteArray := prog_5_method_10_code
def yX3_withDigitsExchanged : MethodName := ⟨RX3, "withDigitsExchanged", "(JI)J"⟩
def RX4 : String := "CityBank$Line"
def TX4 : u_T := fun k => match k with
  | 0 => ("CityBank$Line", "day", "I", true)
  | 1 => ("CityBank$Line", "folio", "I", true)
  | 2 => ("CityBank$Line", "order", "I", true)
  | 3 => ("CityBank$Line", "account", "LCityBank$Account;", false)
  | 4 => ("CityBank$Line", "side", "I", false)
  | _ => ("CityBank$Line", "sum", "J", false)
def tyX4 : Nat → FieldType := fun k => match k with
  | 0 => .int
  | 1 => .int
  | 2 => .int
  | 3 => .object "CityBank$Account"
  | 4 => .int
  | _ => .long
abbrev wsX40 : List Cond := u_ws RX4 TX4 6
theorem nmX4 : ∀ a, a < 6 → ∀ b, b < 6 → a ≠ b → (TX4 a).2.1 ≠ (TX4 b).2.1 := by decide +kernel
theorem tyX4_ok : ∀ k, k < 6 → parseFieldDescriptor (TX4 k).2.2.1 = some (tyX4 k) := by decide +kernel
abbrev cX4_init : ByteArray := prog_6_method_1_code
def yX4_init : MethodName := ⟨RX4, "<init>", "(ILCityBank$Account;IIJI)V"⟩
abbrev cX4_isOfBooks : ByteArray := prog_6_method_2_code
def yX4_isOfBooks : MethodName := ⟨RX4, "isOfBooks", "(I)Z"⟩
def RX5 : String := "CityBank$Loan"
def TX5 : u_T := fun k => match k with
  | 0 => ("CityBank$Loan", "book", "J", true)
  | _ => ("CityBank$Loan", "knownSince", "[I", true)
def tyX5 : Nat → FieldType := fun k => match k with
  | 0 => .long
  | _ => .array .int
abbrev wsX50 : List Cond := u_ws RX5 TX5 2
theorem nmX5 : ∀ a, a < 2 → ∀ b, b < 2 → a ≠ b → (TX5 a).2.1 ≠ (TX5 b).2.1 := by decide +kernel
theorem tyX5_ok : ∀ k, k < 2 → parseFieldDescriptor (TX5 k).2.2.1 = some (tyX5 k) := by decide +kernel
abbrev cX5_init : ByteArray := prog_7_method_1_code
def yX5_init : MethodName := ⟨RX5, "<init>", "(JII)V"⟩
def RX6 : String := "CityBank$Order"
def TX6 : u_T := fun k => match k with
  | 0 => ("CityBank$Order", "payer", "LCityBank$Account;", true)
  | 1 => ("CityBank$Order", "payee", "LCityBank$Account;", true)
  | 2 => ("CityBank$Order", "sum", "J", true)
  | 3 => ("CityBank$Order", "day", "I", true)
  | 4 => ("CityBank$Order", "hour", "I", true)
  | 5 => ("CityBank$Order", "signer", "I", true)
  | 6 => ("CityBank$Order", "state", "I", false)
  | 7 => ("CityBank$Order", "slip", "I", false)
  | 8 => ("CityBank$Order", "slipDetail", "I", false)
  | 9 => ("CityBank$Order", "doneDay", "I", false)
  | 10 => ("CityBank$Order", "creditLine", "I", false)
  | _ => ("CityBank$Order", "mended", "Z", false)
def tyX6 : Nat → FieldType := fun k => match k with
  | 0 => .object "CityBank$Account"
  | 1 => .object "CityBank$Account"
  | 2 => .long
  | 3 => .int
  | 4 => .int
  | 5 => .int
  | 6 => .int
  | 7 => .int
  | 8 => .int
  | 9 => .int
  | 10 => .int
  | _ => .boolean
abbrev wsX60 : List Cond := u_ws RX6 TX6 12
theorem nmX6 : ∀ a, a < 12 → ∀ b, b < 12 → a ≠ b → (TX6 a).2.1 ≠ (TX6 b).2.1 := by decide +kernel
theorem tyX6_ok : ∀ k, k < 12 → parseFieldDescriptor (TX6 k).2.2.1 = some (tyX6 k) := by decide +kernel
abbrev cX6_init : ByteArray := prog_8_method_1_code
def yX6_init : MethodName := ⟨RX6, "<init>", "(LCityBank$Account;LCityBank$Account;JIII)V"⟩
def RX7 : String := "CityBank$Receipt"
def TX7 : u_T := fun k => match k with
  | 0 => ("CityBank$Receipt", "kind", "LCityBank$Kind;", true)
  | 1 => ("CityBank$Receipt", "coins", "I", true)
  | 2 => ("CityBank$Receipt", "weight", "I", true)
  | 3 => ("CityBank$Receipt", "book", "J", true)
  | 4 => ("CityBank$Receipt", "owner", "LCityBank$Account;", false)
  | 5 => ("CityBank$Receipt", "dueDay", "I", false)
  | _ => ("CityBank$Receipt", "state", "I", false)
def tyX7 : Nat → FieldType := fun k => match k with
  | 0 => .object "CityBank$Kind"
  | 1 => .int
  | 2 => .int
  | 3 => .long
  | 4 => .object "CityBank$Account"
  | 5 => .int
  | _ => .int
abbrev wsX70 : List Cond := u_ws RX7 TX7 7
theorem nmX7 : ∀ a, a < 7 → ∀ b, b < 7 → a ≠ b → (TX7 a).2.1 ≠ (TX7 b).2.1 := by decide +kernel
theorem tyX7_ok : ∀ k, k < 7 → parseFieldDescriptor (TX7 k).2.2.1 = some (tyX7 k) := by decide +kernel
abbrev cX7_init : ByteArray := prog_9_method_1_code
def yX7_init : MethodName := ⟨RX7, "<init>", "(LCityBank$Account;LCityBank$Kind;IIJI)V"⟩
def RX8 : String := "CityBank$Slot"
def TX8 : u_T := fun k => match k with
  | 0 => ("CityBank$Slot", "numbers", "[J", true)
  | 1 => ("CityBank$Slot", "hasRow", "Z", false)
  | 2 => ("CityBank$Slot", "width", "I", false)
  | _ => ("CityBank$Slot", "size", "I", false)
def tyX8 : Nat → FieldType := fun k => match k with
  | 0 => .array .long
  | 1 => .boolean
  | 2 => .int
  | _ => .int
abbrev wsX80 : List Cond := u_ws RX8 TX8 4
theorem nmX8 : ∀ a, a < 4 → ∀ b, b < 4 → a ≠ b → (TX8 a).2.1 ≠ (TX8 b).2.1 := by decide +kernel
theorem tyX8_ok : ∀ k, k < 4 → parseFieldDescriptor (TX8 k).2.2.1 = some (tyX8 k) := by decide +kernel
abbrev cX8_init : ByteArray := prog_10_method_1_code
def yX8_init : MethodName := ⟨RX8, "<init>", "()V"⟩
abbrev cX8_begin : ByteArray := prog_10_method_2_code
def yX8_begin : MethodName := ⟨RX8, "begin", "(II)V"⟩
abbrev cX8_cutToWidth : ByteArray := prog_10_method_3_code
def yX8_cutToWidth : MethodName := ⟨RX8, "cutToWidth", "(J)J"⟩
abbrev cX8_hasStretch : ByteArray := prog_10_method_4_code
def yX8_hasStretch : MethodName := ⟨RX8, "hasStretch", "(II)Z"⟩
def RX9 : String := "CityBank$Terms"
def TX9 : u_T := fun k => match k with
  | 0 => ("CityBank$Terms", "rate", "I", false)
  | 1 => ("CityBank$Terms", "fee", "I", false)
  | 2 => ("CityBank$Terms", "lapse", "I", false)
  | 3 => ("CityBank$Terms", "fine", "I", false)
  | 4 => ("CityBank$Terms", "pull", "I", false)
  | 5 => ("CityBank$Terms", "step", "I", false)
  | 6 => ("CityBank$Terms", "low", "I", false)
  | _ => ("CityBank$Terms", "top", "I", false)
def tyX9 : Nat → FieldType := fun k => match k with
  | 0 => .int
  | 1 => .int
  | 2 => .int
  | 3 => .int
  | 4 => .int
  | 5 => .int
  | 6 => .int
  | _ => .int
abbrev wsX90 : List Cond := u_ws RX9 TX9 8
theorem nmX9 : ∀ a, a < 8 → ∀ b, b < 8 → a ≠ b → (TX9 a).2.1 ≠ (TX9 b).2.1 := by decide +kernel
theorem tyX9_ok : ∀ k, k < 8 → parseFieldDescriptor (TX9 k).2.2.1 = some (tyX9 k) := by decide +kernel
abbrev cX9_init : ByteArray := prog_11_method_1_code
def yX9_init : MethodName := ⟨RX9, "<init>", "()V"⟩
def RX10 : String := "CityBank$Weighing"
def TX10 : u_T := fun k => match k with
  | 0 => ("CityBank$Weighing", "coins", "I", false)
  | 1 => ("CityBank$Weighing", "weight", "I", false)
  | 2 => ("CityBank$Weighing", "lightest", "J", false)
  | _ => ("CityBank$Weighing", "heaviest", "J", false)
def tyX10 : Nat → FieldType := fun k => match k with
  | 0 => .int
  | 1 => .int
  | 2 => .long
  | _ => .long
abbrev wsX100 : List Cond := u_ws RX10 TX10 4
theorem nmX10 : ∀ a, a < 4 → ∀ b, b < 4 → a ≠ b → (TX10 a).2.1 ≠ (TX10 b).2.1 := by decide +kernel
theorem tyX10_ok : ∀ k, k < 4 → parseFieldDescriptor (TX10 k).2.2.1 = some (tyX10 k) := by decide +kernel
abbrev cX10_init : ByteArray := prog_12_method_1_code
def yX10_init : MethodName := ⟨RX10, "<init>", "()V"⟩
abbrev cX10_weigh : ByteArray := prog_12_method_2_code
def yX10_weigh : MethodName := ⟨RX10, "weigh", "(LCityBank$Slot;LCityBank$Kind;)V"⟩
def RX11 : String := "CityBank"
def TX11 : u_T := fun k => match k with
  | 0 => ("CityBank", "terms", "LCityBank$Terms;", true)
  | 1 => ("CityBank", "kinds", "Ljava/util/ArrayList;", true)
  | 2 => ("CityBank", "accounts", "Ljava/util/ArrayList;", true)
  | 3 => ("CityBank", "receipts", "Ljava/util/ArrayList;", true)
  | 4 => ("CityBank", "orders", "Ljava/util/ArrayList;", true)
  | 5 => ("CityBank", "loans", "Ljava/util/ArrayList;", true)
  | 6 => ("CityBank", "slots", "Ljava/util/ArrayList;", true)
  | 7 => ("CityBank", "ledger", "LCityBank$Ledger;", true)
  | 8 => ("CityBank", "house", "LCityBank$House;", true)
  | 9 => ("CityBank", "weighing", "LCityBank$Weighing;", true)
  | 10 => ("CityBank", "day", "I", false)
  | 11 => ("CityBank", "waiting", "I", false)
  | _ => ("CityBank", "feesAndFines", "J", false)
def tyX11 : Nat → FieldType := fun k => match k with
  | 0 => .object "CityBank$Terms"
  | 1 => .object "java/util/ArrayList"
  | 2 => .object "java/util/ArrayList"
  | 3 => .object "java/util/ArrayList"
  | 4 => .object "java/util/ArrayList"
  | 5 => .object "java/util/ArrayList"
  | 6 => .object "java/util/ArrayList"
  | 7 => .object "CityBank$Ledger"
  | 8 => .object "CityBank$House"
  | 9 => .object "CityBank$Weighing"
  | 10 => .int
  | 11 => .int
  | _ => .long
abbrev wsX110 : List Cond := u_ws RX11 TX11 13
theorem nmX11 : ∀ a, a < 13 → ∀ b, b < 13 → a ≠ b → (TX11 a).2.1 ≠ (TX11 b).2.1 := by decide +kernel
theorem tyX11_ok : ∀ k, k < 13 → parseFieldDescriptor (TX11 k).2.2.1 = some (tyX11 k) := by decide +kernel
abbrev cX11_init : ByteArray := prog_1_method_1_code
def yX11_init : MethodName := ⟨RX11, "<init>", "()V"⟩
abbrev cX11_terms : ByteArray := prog_1_method_2_code
def yX11_terms : MethodName := ⟨RX11, "terms", "(IIIIIIII)I"⟩
abbrev cX11_kind : ByteArray := prog_1_method_3_code
def yX11_kind : MethodName := ⟨RX11, "kind", "(III)I"⟩
abbrev cX11_account : ByteArray := prog_1_method_4_code
def yX11_account : MethodName := ⟨RX11, "account", "()I"⟩
abbrev cX11_attorney : ByteArray := prog_1_method_5_code
def yX11_attorney : MethodName := ⟨RX11, "attorney", "(III)I"⟩
abbrev cX11_take : ByteArray := prog_1_method_6_code
def yX11_take : MethodName := ⟨RX11, "take", "(III)I"⟩
abbrev cX11_redeem : ByteArray := prog_1_method_7_code
def yX11_redeem : MethodName := ⟨RX11, "redeem", "(I)J"⟩
abbrev cX11_prolong : ByteArray := prog_1_method_8_code
def yX11_prolong : MethodName := ⟨RX11, "prolong", "(I)J"⟩
abbrev cX11_give : ByteArray := prog_1_method_9_code
def yX11_give : MethodName := ⟨RX11, "give", "(II)I"⟩
abbrev cX11_order : ByteArray := prog_1_method_10_code
def yX11_order : MethodName := ⟨RX11, "order", "(IIJII)I"⟩
abbrev cX11_bill : ByteArray := prog_1_method_11_code
def yX11_bill : MethodName := ⟨RX11, "bill", "(IIJI)I"⟩
abbrev cX11_slip : ByteArray := prog_1_method_12_code
def yX11_slip : MethodName := ⟨RX11, "slip", "(III)I"⟩
abbrev cX11_close : ByteArray := prog_1_method_13_code
def yX11_close : MethodName := ⟨RX11, "close", "()I"⟩
abbrev cX11_suspects : ByteArray := prog_1_method_14_code
def yX11_suspects : MethodName := ⟨RX11, "suspects", "(I)I"⟩
abbrev cX11_suspect : ByteArray := prog_1_method_15_code
def yX11_suspect : MethodName := ⟨RX11, "suspect", "(II)I"⟩
abbrev cX11_mend : ByteArray := prog_1_method_16_code
def yX11_mend : MethodName := ⟨RX11, "mend", "(I)Z"⟩
abbrev cX11_weighed : ByteArray := prog_1_method_17_code
def yX11_weighed : MethodName := ⟨RX11, "weighed", "(III)J"⟩
abbrev cX11_loan : ByteArray := prog_1_method_18_code
def yX11_loan : MethodName := ⟨RX11, "loan", "(III)I"⟩
abbrev cX11_tell : ByteArray := prog_1_method_19_code
def yX11_tell : MethodName := ⟨RX11, "tell", "(II)Z"⟩
abbrev cX11_gap : ByteArray := prog_1_method_20_code
def yX11_gap : MethodName := ⟨RX11, "gap", "(II)J"⟩
abbrev cX11_run : ByteArray := prog_1_method_21_code
def yX11_run : MethodName := ⟨RX11, "run", "(J)J"⟩
abbrev cX11_accountOf : ByteArray := prog_1_method_22_code
def yX11_accountOf : MethodName := ⟨RX11, "accountOf", "(II)I"⟩
abbrev cX11_folio : ByteArray := prog_1_method_23_code
def yX11_folio : MethodName := ⟨RX11, "folio", "(II)I"⟩
abbrev cX11_balance : ByteArray := prog_1_method_24_code
def yX11_balance : MethodName := ⟨RX11, "balance", "(I)J"⟩
abbrev cX11_written : ByteArray := prog_1_method_25_code
def yX11_written : MethodName := ⟨RX11, "written", "(I)J"⟩
abbrev cX11_line : ByteArray := prog_1_method_26_code
def yX11_line : MethodName := ⟨RX11, "line", "(II)I"⟩
abbrev cX11_lineSum : ByteArray := prog_1_method_27_code
def yX11_lineSum : MethodName := ⟨RX11, "lineSum", "(I)J"⟩
abbrev cX11_orderOf : ByteArray := prog_1_method_28_code
def yX11_orderOf : MethodName := ⟨RX11, "orderOf", "(II)I"⟩
abbrev cX11_receipt : ByteArray := prog_1_method_29_code
def yX11_receipt : MethodName := ⟨RX11, "receipt", "(II)I"⟩
abbrev cX11_book : ByteArray := prog_1_method_30_code
def yX11_book : MethodName := ⟨RX11, "book", "(I)J"⟩
abbrev cX11_vault : ByteArray := prog_1_method_31_code
def yX11_vault : MethodName := ⟨RX11, "vault", "(II)J"⟩
abbrev cX11_count : ByteArray := prog_1_method_32_code
def yX11_count : MethodName := ⟨RX11, "count", "(I)I"⟩
abbrev cX11_sum : ByteArray := prog_1_method_33_code
def yX11_sum : MethodName := ⟨RX11, "sum", "(I)J"⟩
abbrev cX11_row : ByteArray := prog_1_method_34_code
def yX11_row : MethodName := ⟨RX11, "row", "(III)I"⟩
abbrev cX11_tear : ByteArray := prog_1_method_35_code
def yX11_tear : MethodName := ⟨RX11, "tear", "(I)Z"⟩
abbrev cX11_write : ByteArray := prog_1_method_36_code
def yX11_write : MethodName := ⟨RX11, "write", "(IIJ)I"⟩
abbrev cX11_paste : ByteArray := prog_1_method_37_code
def yX11_paste : MethodName := ⟨RX11, "paste", "(IIIII)I"⟩
abbrev cX11_within : ByteArray := prog_1_method_38_code
def yX11_within : MethodName := ⟨RX11, "within", "(JJJ)Z"⟩
abbrev cX11_kindAt : ByteArray := prog_1_method_39_code
def yX11_kindAt : MethodName := ⟨RX11, "kindAt", "(I)LCityBank$Kind;"⟩
abbrev cX11_accountAt : ByteArray := prog_1_method_40_code
def yX11_accountAt : MethodName := ⟨RX11, "accountAt", "(I)LCityBank$Account;"⟩
abbrev cX11_receiptAt : ByteArray := prog_1_method_41_code
def yX11_receiptAt : MethodName := ⟨RX11, "receiptAt", "(I)LCityBank$Receipt;"⟩
abbrev cX11_openReceiptAt : ByteArray := prog_1_method_42_code
def yX11_openReceiptAt : MethodName := ⟨RX11, "openReceiptAt", "(I)LCityBank$Receipt;"⟩
abbrev cX11_orderAt : ByteArray := prog_1_method_43_code
def yX11_orderAt : MethodName := ⟨RX11, "orderAt", "(I)LCityBank$Order;"⟩
abbrev cX11_loanAt : ByteArray := prog_1_method_44_code
def yX11_loanAt : MethodName := ⟨RX11, "loanAt", "(I)LCityBank$Loan;"⟩
abbrev cX11_slotAt : ByteArray := prog_1_method_45_code
def yX11_slotAt : MethodName := ⟨RX11, "slotAt", "(I)LCityBank$Slot;"⟩
abbrev cX11_room : ByteArray := prog_1_method_46_code
def yX11_room : MethodName := ⟨RX11, "room", "()I"⟩
abbrev cX11_feeOn : ByteArray := prog_1_method_47_code
def yX11_feeOn : MethodName := ⟨RX11, "feeOn", "(LCityBank$Receipt;)J"⟩
abbrev cX11_bringIn : ByteArray := prog_1_method_48_code
def yX11_bringIn : MethodName := ⟨RX11, "bringIn", "(LCityBank$Account;LCityBank$Kind;II)V"⟩
abbrev cX11_payOut : ByteArray := prog_1_method_49_code
def yX11_payOut : MethodName := ⟨RX11, "payOut", "(LCityBank$Account;J)V"⟩
abbrev cX11_letWait : ByteArray := prog_1_method_50_code
def yX11_letWait : MethodName := ⟨RX11, "letWait", "(IIJIII)I"⟩
abbrev cX11_slipIsAsTold : ByteArray := prog_1_method_51_code
def yX11_slipIsAsTold : MethodName := ⟨RX11, "slipIsAsTold", "(LCityBank$Order;II)Z"⟩
abbrev cX11_carryOutOrders : ByteArray := prog_1_method_52_code
def yX11_carryOutOrders : MethodName := ⟨RX11, "carryOutOrders", "()I"⟩
abbrev cX11_nextOrderDue : ByteArray := prog_1_method_53_code
def yX11_nextOrderDue : MethodName := ⟨RX11, "nextOrderDue", "()I"⟩
abbrev cX11_carryOut : ByteArray := prog_1_method_54_code
def yX11_carryOut : MethodName := ⟨RX11, "carryOut", "(LCityBank$Order;I)V"⟩
abbrev cX11_enterCredit : ByteArray := prog_1_method_55_code
def yX11_enterCredit : MethodName := ⟨RX11, "enterCredit", "(LCityBank$Order;I)I"⟩
abbrev cX11_lapseReceipts : ByteArray := prog_1_method_56_code
def yX11_lapseReceipts : MethodName := ⟨RX11, "lapseReceipts", "()V"⟩
abbrev cX11_allBalances : ByteArray := prog_1_method_57_code
def yX11_allBalances : MethodName := ⟨RX11, "allBalances", "()J"⟩
abbrev cX11_bookOfVault : ByteArray := prog_1_method_58_code
def yX11_bookOfVault : MethodName := ⟨RX11, "bookOfVault", "()J"⟩
abbrev cX11_slotsWithRow : ByteArray := prog_1_method_59_code
def yX11_slotsWithRow : MethodName := ⟨RX11, "slotsWithRow", "()I"⟩
def RX12 : String := "CityBankModel"
def TX12 : u_T := fun k => match k with
  | 0 => ("CityBankModel", "thrown", "I", false)
  | 1 => ("CityBankModel", "width", "[I", true)
  | 2 => ("CityBankModel", "size", "[I", true)
  | 3 => ("CityBankModel", "cells", "[J", true)
  | 4 => ("CityBankModel", "moved", "[J", true)
  | 5 => ("CityBankModel", "rate", "I", false)
  | 6 => ("CityBankModel", "fee", "I", false)
  | 7 => ("CityBankModel", "lapse", "I", false)
  | 8 => ("CityBankModel", "fine", "I", false)
  | 9 => ("CityBankModel", "pull", "I", false)
  | 10 => ("CityBankModel", "step", "I", false)
  | 11 => ("CityBankModel", "low", "I", false)
  | 12 => ("CityBankModel", "top", "I", false)
  | 13 => ("CityBankModel", "agio", "I", false)
  | 14 => ("CityBankModel", "day", "I", false)
  | 15 => ("CityBankModel", "kinds", "I", false)
  | 16 => ("CityBankModel", "accounts", "I", false)
  | 17 => ("CityBankModel", "receipts", "I", false)
  | 18 => ("CityBankModel", "orders", "I", false)
  | 19 => ("CityBankModel", "lines", "I", false)
  | 20 => ("CityBankModel", "folios", "I", false)
  | 21 => ("CityBankModel", "loans", "I", false)
  | 22 => ("CityBankModel", "full", "[I", true)
  | 23 => ("CityBankModel", "least", "[I", true)
  | 24 => ("CityBankModel", "pure", "[I", true)
  | 25 => ("CityBankModel", "coinsIn", "[J", true)
  | 26 => ("CityBankModel", "weightIn", "[J", true)
  | 27 => ("CityBankModel", "balance", "[J", true)
  | 28 => ("CityBankModel", "attorney", "[I", true)
  | 29 => ("CityBankModel", "attorneyTo", "[I", true)
  | 30 => ("CityBankModel", "rAccount", "[I", true)
  | 31 => ("CityBankModel", "rKind", "[I", true)
  | 32 => ("CityBankModel", "rCoins", "[I", true)
  | 33 => ("CityBankModel", "rDue", "[I", true)
  | 34 => ("CityBankModel", "rHow", "[I", true)
  | 35 => ("CityBankModel", "rWeight", "[J", true)
  | 36 => ("CityBankModel", "rBook", "[J", true)
  | 37 => ("CityBankModel", "oFrom", "[I", true)
  | 38 => ("CityBankModel", "oTo", "[I", true)
  | 39 => ("CityBankModel", "oDay", "[I", true)
  | 40 => ("CityBankModel", "oHour", "[I", true)
  | 41 => ("CityBankModel", "oSigner", "[I", true)
  | 42 => ("CityBankModel", "oHow", "[I", true)
  | 43 => ("CityBankModel", "oSlip", "[I", true)
  | 44 => ("CityBankModel", "oX", "[I", true)
  | 45 => ("CityBankModel", "oDone", "[I", true)
  | 46 => ("CityBankModel", "oLine", "[I", true)
  | 47 => ("CityBankModel", "oSum", "[J", true)
  | 48 => ("CityBankModel", "isMended", "[Z", true)
  | 49 => ("CityBankModel", "lDay", "[I", true)
  | 50 => ("CityBankModel", "lAccount", "[I", true)
  | 51 => ("CityBankModel", "lFolio", "[I", true)
  | 52 => ("CityBankModel", "lSide", "[I", true)
  | 53 => ("CityBankModel", "lOrder", "[I", true)
  | 54 => ("CityBankModel", "lSum", "[J", true)
  | 55 => ("CityBankModel", "fAccount", "[I", true)
  | 56 => ("CityBankModel", "fMany", "[I", true)
  | 57 => ("CityBankModel", "loanDay", "[I", true)
  | 58 => ("CityBankModel", "since", "[I", true)
  | 59 => ("CityBankModel", "loanBook", "[J", true)
  | 60 => ("CityBankModel", "suspectLine", "[I", true)
  | 61 => ("CityBankModel", "suspectHow", "[I", true)
  | 62 => ("CityBankModel", "suspectMany", "I", false)
  | 63 => ("CityBankModel", "taken", "J", false)
  | 64 => ("CityBankModel", "paidAway", "J", false)
  | 65 => ("CityBankModel", "houseSold", "J", false)
  | _ => ("CityBankModel", "houseBought", "J", false)
def tyX12 : Nat → FieldType := fun k => match k with
  | 0 => .int
  | 1 => .array .int
  | 2 => .array .int
  | 3 => .array .long
  | 4 => .array .long
  | 5 => .int
  | 6 => .int
  | 7 => .int
  | 8 => .int
  | 9 => .int
  | 10 => .int
  | 11 => .int
  | 12 => .int
  | 13 => .int
  | 14 => .int
  | 15 => .int
  | 16 => .int
  | 17 => .int
  | 18 => .int
  | 19 => .int
  | 20 => .int
  | 21 => .int
  | 22 => .array .int
  | 23 => .array .int
  | 24 => .array .int
  | 25 => .array .long
  | 26 => .array .long
  | 27 => .array .long
  | 28 => .array .int
  | 29 => .array .int
  | 30 => .array .int
  | 31 => .array .int
  | 32 => .array .int
  | 33 => .array .int
  | 34 => .array .int
  | 35 => .array .long
  | 36 => .array .long
  | 37 => .array .int
  | 38 => .array .int
  | 39 => .array .int
  | 40 => .array .int
  | 41 => .array .int
  | 42 => .array .int
  | 43 => .array .int
  | 44 => .array .int
  | 45 => .array .int
  | 46 => .array .int
  | 47 => .array .long
  | 48 => .array .boolean
  | 49 => .array .int
  | 50 => .array .int
  | 51 => .array .int
  | 52 => .array .int
  | 53 => .array .int
  | 54 => .array .long
  | 55 => .array .int
  | 56 => .array .int
  | 57 => .array .int
  | 58 => .array .int
  | 59 => .array .long
  | 60 => .array .int
  | 61 => .array .int
  | 62 => .int
  | 63 => .long
  | 64 => .long
  | 65 => .long
  | _ => .long
abbrev wsX120 : List Cond := u_ws RX12 TX12 67
theorem nmX12 : ∀ a, a < 67 → ∀ b, b < 67 → a ≠ b → (TX12 a).2.1 ≠ (TX12 b).2.1 := by decide +kernel
theorem tyX12_ok : ∀ k, k < 67 → parseFieldDescriptor (TX12 k).2.2.1 = some (tyX12 k) := by decide +kernel
abbrev cX12_init : ByteArray := prog_14_method_1_code
def yX12_init : MethodName := ⟨RX12, "<init>", "()V"⟩
abbrev cX12_in : ByteArray := prog_14_method_3_code
def yX12_in : MethodName := ⟨RX12, "in", "(JJJ)Z"⟩
abbrev cX12_isSlot : ByteArray := prog_14_method_4_code
def yX12_isSlot : MethodName := ⟨RX12, "isSlot", "(I)Z"⟩
abbrev cX12_cut : ByteArray := prog_14_method_5_code
def yX12_cut : MethodName := ⟨RX12, "cut", "(IJ)J"⟩
abbrev cX12_row : ByteArray := prog_14_method_6_code
def yX12_row : MethodName := ⟨RX12, "row", "(III)I"⟩
abbrev cX12_tear : ByteArray := prog_14_method_7_code
def yX12_tear : MethodName := ⟨RX12, "tear", "(I)Z"⟩
abbrev cX12_write : ByteArray := prog_14_method_8_code
def yX12_write : MethodName := ⟨RX12, "write", "(IIJ)I"⟩
abbrev cX12_paste : ByteArray := prog_14_method_9_code
def yX12_paste : MethodName := ⟨RX12, "paste", "(IIIII)I"⟩
abbrev cX12_terms : ByteArray := prog_14_method_10_code
def yX12_terms : MethodName := ⟨RX12, "terms", "(IIIIIIII)I"⟩
abbrev cX12_kind : ByteArray := prog_14_method_11_code
def yX12_kind : MethodName := ⟨RX12, "kind", "(III)I"⟩
abbrev cX12_account : ByteArray := prog_14_method_12_code
def yX12_account : MethodName := ⟨RX12, "account", "()I"⟩
abbrev cX12_isAccount : ByteArray := prog_14_method_13_code
def yX12_isAccount : MethodName := ⟨RX12, "isAccount", "(I)Z"⟩
abbrev cX12_isKind : ByteArray := prog_14_method_14_code
def yX12_isKind : MethodName := ⟨RX12, "isKind", "(I)Z"⟩
abbrev cX12_attorney : ByteArray := prog_14_method_15_code
def yX12_attorney : MethodName := ⟨RX12, "attorney", "(III)I"⟩
abbrev cX12_bookOf : ByteArray := prog_14_method_16_code
def yX12_bookOf : MethodName := ⟨RX12, "bookOf", "(IJ)J"⟩
abbrev cX12_room : ByteArray := prog_14_method_17_code
def yX12_room : MethodName := ⟨RX12, "room", "()I"⟩
abbrev cX12_folioOf : ByteArray := prog_14_method_18_code
def yX12_folioOf : MethodName := ⟨RX12, "folioOf", "(I)I"⟩
abbrev cX12_writes : ByteArray := prog_14_method_19_code
def yX12_writes : MethodName := ⟨RX12, "writes", "(IIIJI)I"⟩
abbrev cX12_isTaken : ByteArray := prog_14_method_20_code
def yX12_isTaken : MethodName := ⟨RX12, "isTaken", "(IJ)Z"⟩
abbrev cX12_take : ByteArray := prog_14_method_21_code
def yX12_take : MethodName := ⟨RX12, "take", "(III)I"⟩
abbrev cX12_isOpen : ByteArray := prog_14_method_22_code
def yX12_isOpen : MethodName := ⟨RX12, "isOpen", "(I)Z"⟩
abbrev cX12_pays : ByteArray := prog_14_method_23_code
def yX12_pays : MethodName := ⟨RX12, "pays", "(IJ)V"⟩
abbrev cX12_redeem : ByteArray := prog_14_method_24_code
def yX12_redeem : MethodName := ⟨RX12, "redeem", "(I)J"⟩
abbrev cX12_prolong : ByteArray := prog_14_method_25_code
def yX12_prolong : MethodName := ⟨RX12, "prolong", "(I)J"⟩
abbrev cX12_give : ByteArray := prog_14_method_26_code
def yX12_give : MethodName := ⟨RX12, "give", "(II)I"⟩
abbrev cX12_waits : ByteArray := prog_14_method_27_code
def yX12_waits : MethodName := ⟨RX12, "waits", "(IIJIII)I"⟩
abbrev cX12_order : ByteArray := prog_14_method_28_code
def yX12_order : MethodName := ⟨RX12, "order", "(IIJII)I"⟩
abbrev cX12_bill : ByteArray := prog_14_method_29_code
def yX12_bill : MethodName := ⟨RX12, "bill", "(IIJI)I"⟩
abbrev cX12_slip : ByteArray := prog_14_method_30_code
def yX12_slip : MethodName := ⟨RX12, "slip", "(III)I"⟩
abbrev cX12_swapped : ByteArray := prog_14_method_31_code
def yX12_swapped : MethodName := ⟨RX12, "swapped", "(JI)J"⟩
abbrev cX12_does : ByteArray := prog_14_method_32_code
def yX12_does : MethodName := ⟨RX12, "does", "(I)Z"⟩
abbrev cX12_close : ByteArray := prog_14_method_33_code
def yX12_close : MethodName := ⟨RX12, "close", "()I"⟩
abbrev cX12_suspects : ByteArray := prog_14_method_34_code
def yX12_suspects : MethodName := ⟨RX12, "suspects", "(I)I"⟩
abbrev cX12_howOf : ByteArray := prog_14_method_35_code
def yX12_howOf : MethodName := ⟨RX12, "howOf", "(IJ)I"⟩
abbrev cX12_suspect : ByteArray := prog_14_method_36_code
def yX12_suspect : MethodName := ⟨RX12, "suspect", "(II)I"⟩
abbrev cX12_mend : ByteArray := prog_14_method_37_code
def yX12_mend : MethodName := ⟨RX12, "mend", "(I)Z"⟩
abbrev cX12_weighed : ByteArray := prog_14_method_38_code
def yX12_weighed : MethodName := ⟨RX12, "weighed", "(III)J"⟩
abbrev cX12_loan : ByteArray := prog_14_method_39_code
def yX12_loan : MethodName := ⟨RX12, "loan", "(III)I"⟩
abbrev cX12_tell : ByteArray := prog_14_method_40_code
def yX12_tell : MethodName := ⟨RX12, "tell", "(II)Z"⟩
abbrev cX12_gap : ByteArray := prog_14_method_41_code
def yX12_gap : MethodName := ⟨RX12, "gap", "(II)J"⟩
abbrev cX12_vaultBook : ByteArray := prog_14_method_42_code
def yX12_vaultBook : MethodName := ⟨RX12, "vaultBook", "()J"⟩
abbrev cX12_balances : ByteArray := prog_14_method_43_code
def yX12_balances : MethodName := ⟨RX12, "balances", "()J"⟩
abbrev cX12_run : ByteArray := prog_14_method_44_code
def yX12_run : MethodName := ⟨RX12, "run", "(J)J"⟩
abbrev cX12_accountOf : ByteArray := prog_14_method_45_code
def yX12_accountOf : MethodName := ⟨RX12, "accountOf", "(II)I"⟩
abbrev cX12_folio : ByteArray := prog_14_method_46_code
def yX12_folio : MethodName := ⟨RX12, "folio", "(II)I"⟩
abbrev cX12_balance : ByteArray := prog_14_method_47_code
def yX12_balance : MethodName := ⟨RX12, "balance", "(I)J"⟩
abbrev cX12_written : ByteArray := prog_14_method_48_code
def yX12_written : MethodName := ⟨RX12, "written", "(I)J"⟩
abbrev cX12_line : ByteArray := prog_14_method_49_code
def yX12_line : MethodName := ⟨RX12, "line", "(II)I"⟩
abbrev cX12_lineSum : ByteArray := prog_14_method_50_code
def yX12_lineSum : MethodName := ⟨RX12, "lineSum", "(I)J"⟩
abbrev cX12_orderOf : ByteArray := prog_14_method_51_code
def yX12_orderOf : MethodName := ⟨RX12, "orderOf", "(II)I"⟩
abbrev cX12_receipt : ByteArray := prog_14_method_52_code
def yX12_receipt : MethodName := ⟨RX12, "receipt", "(II)I"⟩
abbrev cX12_book : ByteArray := prog_14_method_53_code
def yX12_book : MethodName := ⟨RX12, "book", "(I)J"⟩
abbrev cX12_vault : ByteArray := prog_14_method_54_code
def yX12_vault : MethodName := ⟨RX12, "vault", "(II)J"⟩
abbrev cX12_count : ByteArray := prog_14_method_55_code
def yX12_count : MethodName := ⟨RX12, "count", "(I)I"⟩
abbrev cX12_sum : ByteArray := prog_14_method_56_code
def yX12_sum : MethodName := ⟨RX12, "sum", "(I)J"⟩
def RJx145de : String := "java/io/Serializable"
def TJx145de : u_T := fun k => match k with
  | _ => ("", "", "", false)
def tyJx145de : Nat → FieldType := fun k => match k with
  | _ => .int
abbrev wsJx145de0 : List Cond := u_ws RJx145de TJx145de 0
theorem nmJx145de : ∀ a, a < 0 → ∀ b, b < 0 → a ≠ b → (TJx145de a).2.1 ≠ (TJx145de b).2.1 := by decide +kernel
theorem tyJx145de_ok : ∀ k, k < 0 → parseFieldDescriptor (TJx145de k).2.2.1 = some (tyJx145de k) := by decide +kernel
def RJx8e188 : String := "java/lang/Cloneable"
def TJx8e188 : u_T := fun k => match k with
  | _ => ("", "", "", false)
def tyJx8e188 : Nat → FieldType := fun k => match k with
  | _ => .int
abbrev wsJx8e1880 : List Cond := u_ws RJx8e188 TJx8e188 0
theorem nmJx8e188 : ∀ a, a < 0 → ∀ b, b < 0 → a ≠ b → (TJx8e188 a).2.1 ≠ (TJx8e188 b).2.1 := by decide +kernel
theorem tyJx8e188_ok : ∀ k, k < 0 → parseFieldDescriptor (TJx8e188 k).2.2.1 = some (tyJx8e188 k) := by decide +kernel
def RJxabbfe : String := "java/lang/Integer$IntegerCache"
def TJxabbfe : u_T := fun k => match k with
  | _ => ("", "", "", false)
def tyJxabbfe : Nat → FieldType := fun k => match k with
  | _ => .int
abbrev wsJxabbfe0 : List Cond := u_ws RJxabbfe TJxabbfe 0
theorem nmJxabbfe : ∀ a, a < 0 → ∀ b, b < 0 → a ≠ b → (TJxabbfe a).2.1 ≠ (TJxabbfe b).2.1 := by decide +kernel
theorem tyJxabbfe_ok : ∀ k, k < 0 → parseFieldDescriptor (TJxabbfe k).2.2.1 = some (tyJxabbfe k) := by decide +kernel
def RJ6 : String := "java/lang/Integer"
def TJ6 : u_T := fun k => match k with
  | _ => ("java/lang/Integer", "value", "I", true)
def tyJ6 : Nat → FieldType := fun k => match k with
  | _ => .int
abbrev wsJ60 : List Cond := u_ws RJ6 TJ6 1
theorem nmJ6 : ∀ a, a < 1 → ∀ b, b < 1 → a ≠ b → (TJ6 a).2.1 ≠ (TJ6 b).2.1 := by decide +kernel
theorem tyJ6_ok : ∀ k, k < 1 → parseFieldDescriptor (TJ6 k).2.2.1 = some (tyJ6 k) := by decide +kernel
abbrev cJ6_valueOf_2dffe : ByteArray := prog_17_method_22_code
def yJ6_valueOf_2dffe : MethodName := ⟨RJ6, "valueOf", "(I)Ljava/lang/Integer;"⟩
abbrev cJ6_init_d00df : ByteArray := prog_17_method_23_code
def yJ6_init_d00df : MethodName := ⟨RJ6, "<init>", "(I)V"⟩
abbrev cJ6_intValue_8abf5 : ByteArray := prog_17_method_27_code
def yJ6_intValue_8abf5 : MethodName := ⟨RJ6, "intValue", "()I"⟩
def RJxab1ab : String := "java/lang/Iterable"
def TJxab1ab : u_T := fun k => match k with
  | _ => ("", "", "", false)
def tyJxab1ab : Nat → FieldType := fun k => match k with
  | _ => .int
abbrev wsJxab1ab0 : List Cond := u_ws RJxab1ab TJxab1ab 0
theorem nmJxab1ab : ∀ a, a < 0 → ∀ b, b < 0 → a ≠ b → (TJxab1ab a).2.1 ≠ (TJxab1ab b).2.1 := by decide +kernel
theorem tyJxab1ab_ok : ∀ k, k < 0 → parseFieldDescriptor (TJxab1ab k).2.2.1 = some (tyJxab1ab k) := by decide +kernel
def RJ9 : String := "java/lang/Math"
def TJ9 : u_T := fun k => match k with
  | _ => ("", "", "", false)
def tyJ9 : Nat → FieldType := fun k => match k with
  | _ => .int
abbrev wsJ90 : List Cond := u_ws RJ9 TJ9 0
theorem nmJ9 : ∀ a, a < 0 → ∀ b, b < 0 → a ≠ b → (TJ9 a).2.1 ≠ (TJ9 b).2.1 := by decide +kernel
theorem tyJ9_ok : ∀ k, k < 0 → parseFieldDescriptor (TJ9 k).2.2.1 = some (tyJ9 k) := by decide +kernel
abbrev cJ9_max_7cf53 : ByteArray := prog_20_method_65_code
def yJ9_max_7cf53 : MethodName := ⟨RJ9, "max", "(II)I"⟩
abbrev cJ9_max_f86c9 : ByteArray := prog_20_method_66_code
def yJ9_max_f86c9 : MethodName := ⟨RJ9, "max", "(JJ)J"⟩
abbrev cJ9_min_7cf53 : ByteArray := prog_20_method_69_code
def yJ9_min_7cf53 : MethodName := ⟨RJ9, "min", "(II)I"⟩
abbrev cJ9_min_f86c9 : ByteArray := prog_20_method_70_code
def yJ9_min_f86c9 : MethodName := ⟨RJ9, "min", "(JJ)J"⟩
def RJxd2413 : String := "java/lang/Number"
def TJxd2413 : u_T := fun k => match k with
  | _ => ("", "", "", false)
def tyJxd2413 : Nat → FieldType := fun k => match k with
  | _ => .int
abbrev wsJxd24130 : List Cond := u_ws RJxd2413 TJxd2413 0
theorem nmJxd2413 : ∀ a, a < 0 → ∀ b, b < 0 → a ≠ b → (TJxd2413 a).2.1 ≠ (TJxd2413 b).2.1 := by decide +kernel
theorem tyJxd2413_ok : ∀ k, k < 0 → parseFieldDescriptor (TJxd2413 k).2.2.1 = some (tyJxd2413 k) := by decide +kernel
abbrev cJxd2413_init_da8c8 : ByteArray := prog_21_method_1_code
def yJxd2413_init_da8c8 : MethodName := ⟨RJxd2413, "<init>", "()V"⟩
def RJ10 : String := "java/lang/System"
def TJ10 : u_T := fun k => match k with
  | _ => ("", "", "", false)
def tyJ10 : Nat → FieldType := fun k => match k with
  | _ => .int
abbrev wsJ100 : List Cond := u_ws RJ10 TJ10 0
theorem nmJ10 : ∀ a, a < 0 → ∀ b, b < 0 → a ≠ b → (TJ10 a).2.1 ≠ (TJ10 b).2.1 := by decide +kernel
theorem tyJ10_ok : ∀ k, k < 0 → parseFieldDescriptor (TJ10 k).2.2.1 = some (tyJ10 k) := by decide +kernel
def RJxa1e45 : String := "java/util/AbstractCollection"
def TJxa1e45 : u_T := fun k => match k with
  | _ => ("", "", "", false)
def tyJxa1e45 : Nat → FieldType := fun k => match k with
  | _ => .int
abbrev wsJxa1e450 : List Cond := u_ws RJxa1e45 TJxa1e45 0
theorem nmJxa1e45 : ∀ a, a < 0 → ∀ b, b < 0 → a ≠ b → (TJxa1e45 a).2.1 ≠ (TJxa1e45 b).2.1 := by decide +kernel
theorem tyJxa1e45_ok : ∀ k, k < 0 → parseFieldDescriptor (TJxa1e45 k).2.2.1 = some (tyJxa1e45 k) := by decide +kernel
abbrev cJxa1e45_init_da8c8 : ByteArray := prog_23_method_1_code
def yJxa1e45_init_da8c8 : MethodName := ⟨RJxa1e45, "<init>", "()V"⟩
def RJxc12de : String := "java/util/AbstractList"
def TJxc12de : u_T := fun k => match k with
  | _ => ("", "", "", false)
def tyJxc12de : Nat → FieldType := fun k => match k with
  | _ => .int
abbrev wsJxc12de0 : List Cond := u_ws RJxc12de TJxc12de 0
theorem nmJxc12de : ∀ a, a < 0 → ∀ b, b < 0 → a ≠ b → (TJxc12de a).2.1 ≠ (TJxc12de b).2.1 := by decide +kernel
theorem tyJxc12de_ok : ∀ k, k < 0 → parseFieldDescriptor (TJxc12de k).2.2.1 = some (tyJxc12de k) := by decide +kernel
abbrev cJxc12de_init_da8c8 : ByteArray := prog_24_method_1_code
def yJxc12de_init_da8c8 : MethodName := ⟨RJxc12de, "<init>", "()V"⟩
def RJx4a65c : String := "java/util/ArrayList"
def TJx4a65c : u_T := fun k => match k with
  | 0 => ("java/util/AbstractList", "modCount", "I", false)
  | 1 => ("java/util/ArrayList", "elementData", "[Ljava/lang/Object;", false)
  | _ => ("java/util/ArrayList", "size", "I", false)
def tyJx4a65c : Nat → FieldType := fun k => match k with
  | 0 => .int
  | 1 => .array (.object "java/lang/Object")
  | _ => .int
abbrev wsJx4a65c0 : List Cond := u_ws RJx4a65c TJx4a65c 3
theorem nmJx4a65c : ∀ a, a < 3 → ∀ b, b < 3 → a ≠ b → (TJx4a65c a).2.1 ≠ (TJx4a65c b).2.1 := by decide +kernel
theorem tyJx4a65c_ok : ∀ k, k < 3 → parseFieldDescriptor (TJx4a65c k).2.2.1 = some (tyJx4a65c k) := by decide +kernel
abbrev cJx4a65c_init_da8c8 : ByteArray := prog_25_method_2_code
def yJx4a65c_init_da8c8 : MethodName := ⟨RJx4a65c, "<init>", "()V"⟩
abbrev cJx4a65c_grow_92f84 : ByteArray := prog_25_method_6_code
def yJx4a65c_grow_92f84 : MethodName := ⟨RJx4a65c, "grow", "(I)[Ljava/lang/Object;"⟩
abbrev cJx4a65c_grow_d5877 : ByteArray := prog_25_method_7_code
def yJx4a65c_grow_d5877 : MethodName := ⟨RJx4a65c, "grow", "()[Ljava/lang/Object;"⟩
abbrev cJx4a65c_size_8abf5 : ByteArray := prog_25_method_8_code
def yJx4a65c_size_8abf5 : MethodName := ⟨RJx4a65c, "size", "()I"⟩
abbrev cJx4a65c_elementData_915e3 : ByteArray := prog_25_method_18_code
def yJx4a65c_elementData_915e3 : MethodName := ⟨RJx4a65c, "elementData", "(I)Ljava/lang/Object;"⟩
abbrev cJx4a65c_get_915e3 : ByteArray := prog_25_method_20_code
def yJx4a65c_get_915e3 : MethodName := ⟨RJx4a65c, "get", "(I)Ljava/lang/Object;"⟩
abbrev cJx4a65c_add_72be8 : ByteArray := prog_25_method_24_code
def yJx4a65c_add_72be8 : MethodName := ⟨RJx4a65c, "add", "(Ljava/lang/Object;[Ljava/lang/Object;I)V"⟩
abbrev cJx4a65c_add_9ea2d : ByteArray := prog_25_method_25_code
def yJx4a65c_add_9ea2d : MethodName := ⟨RJx4a65c, "add", "(Ljava/lang/Object;)Z"⟩
def RJ7 : String := "java/util/Arrays"
def TJ7 : u_T := fun k => match k with
  | _ => ("", "", "", false)
def tyJ7 : Nat → FieldType := fun k => match k with
  | _ => .int
abbrev wsJ70 : List Cond := u_ws RJ7 TJ7 0
theorem nmJ7 : ∀ a, a < 0 → ∀ b, b < 0 → a ≠ b → (TJ7 a).2.1 ≠ (TJ7 b).2.1 := by decide +kernel
theorem tyJ7_ok : ∀ k, k < 0 → parseFieldDescriptor (TJ7 k).2.2.1 = some (tyJ7 k) := by decide +kernel
abbrev cJ7_copyOf_1904c : ByteArray := prog_26_method_119_code
def yJ7_copyOf_1904c : MethodName := ⟨RJ7, "copyOf", "([Ljava/lang/Object;I)[Ljava/lang/Object;"⟩
abbrev cJ7_copyOf_6403c : ByteArray := prog_26_method_120_code
def yJ7_copyOf_6403c : MethodName := ⟨RJ7, "copyOf", "([Ljava/lang/Object;ILjava/lang/Class;)[Ljava/lang/Object;"⟩
def RJx5ef63 : String := "java/util/Collection"
def TJx5ef63 : u_T := fun k => match k with
  | _ => ("", "", "", false)
def tyJx5ef63 : Nat → FieldType := fun k => match k with
  | _ => .int
abbrev wsJx5ef630 : List Cond := u_ws RJx5ef63 TJx5ef63 0
theorem nmJx5ef63 : ∀ a, a < 0 → ∀ b, b < 0 → a ≠ b → (TJx5ef63 a).2.1 ≠ (TJx5ef63 b).2.1 := by decide +kernel
theorem tyJx5ef63_ok : ∀ k, k < 0 → parseFieldDescriptor (TJx5ef63 k).2.2.1 = some (tyJx5ef63 k) := by decide +kernel
def RJxbd725 : String := "java/util/List"
def TJxbd725 : u_T := fun k => match k with
  | _ => ("", "", "", false)
def tyJxbd725 : Nat → FieldType := fun k => match k with
  | _ => .int
abbrev wsJxbd7250 : List Cond := u_ws RJxbd725 TJxbd725 0
theorem nmJxbd725 : ∀ a, a < 0 → ∀ b, b < 0 → a ≠ b → (TJxbd725 a).2.1 ≠ (TJxbd725 b).2.1 := by decide +kernel
theorem tyJxbd725_ok : ∀ k, k < 0 → parseFieldDescriptor (TJxbd725 k).2.2.1 = some (tyJxbd725 k) := by decide +kernel
def RJ15 : String := "java/util/Objects"
def TJ15 : u_T := fun k => match k with
  | _ => ("", "", "", false)
def tyJ15 : Nat → FieldType := fun k => match k with
  | _ => .int
abbrev wsJ150 : List Cond := u_ws RJ15 TJ15 0
theorem nmJ15 : ∀ a, a < 0 → ∀ b, b < 0 → a ≠ b → (TJ15 a).2.1 ≠ (TJ15 b).2.1 := by decide +kernel
theorem tyJ15_ok : ∀ k, k < 0 → parseFieldDescriptor (TJ15 k).2.2.1 = some (tyJ15 k) := by decide +kernel
abbrev cJ15_checkIndex_7cf53 : ByteArray := prog_29_method_17_code
def yJ15_checkIndex_7cf53 : MethodName := ⟨RJ15, "checkIndex", "(II)I"⟩
def RJxf0a74 : String := "java/util/RandomAccess"
def TJxf0a74 : u_T := fun k => match k with
  | _ => ("", "", "", false)
def tyJxf0a74 : Nat → FieldType := fun k => match k with
  | _ => .int
abbrev wsJxf0a740 : List Cond := u_ws RJxf0a74 TJxf0a74 0
theorem nmJxf0a74 : ∀ a, a < 0 → ∀ b, b < 0 → a ≠ b → (TJxf0a74 a).2.1 ≠ (TJxf0a74 b).2.1 := by decide +kernel
theorem tyJxf0a74_ok : ∀ k, k < 0 → parseFieldDescriptor (TJxf0a74 k).2.2.1 = some (tyJxf0a74 k) := by decide +kernel
def RJxa66e6 : String := "java/util/SequencedCollection"
def TJxa66e6 : u_T := fun k => match k with
  | _ => ("", "", "", false)
def tyJxa66e6 : Nat → FieldType := fun k => match k with
  | _ => .int
abbrev wsJxa66e60 : List Cond := u_ws RJxa66e6 TJxa66e6 0
theorem nmJxa66e6 : ∀ a, a < 0 → ∀ b, b < 0 → a ≠ b → (TJxa66e6 a).2.1 ≠ (TJxa66e6 b).2.1 := by decide +kernel
theorem tyJxa66e6_ok : ∀ k, k < 0 → parseFieldDescriptor (TJxa66e6 k).2.2.1 = some (tyJxa66e6 k) := by decide +kernel
def RJ8 : String := "jdk/internal/util/ArraysSupport"
def TJ8 : u_T := fun k => match k with
  | _ => ("", "", "", false)
def tyJ8 : Nat → FieldType := fun k => match k with
  | _ => .int
abbrev wsJ80 : List Cond := u_ws RJ8 TJ8 0
theorem nmJ8 : ∀ a, a < 0 → ∀ b, b < 0 → a ≠ b → (TJ8 a).2.1 ≠ (TJ8 b).2.1 := by decide +kernel
theorem tyJ8_ok : ∀ k, k < 0 → parseFieldDescriptor (TJ8 k).2.2.1 = some (tyJ8 k) := by decide +kernel
abbrev cJ8_newLength_cabcc : ByteArray := prog_32_method_27_code
def yJ8_newLength_cabcc : MethodName := ⟨RJ8, "newLength", "(III)I"⟩
abbrev cJ8_hugeLength_7cf53 : ByteArray := prog_32_method_28_code
def yJ8_hugeLength_7cf53 : MethodName := ⟨RJ8, "hugeLength", "(II)I"⟩
def RJ3 : String := "jdk/internal/util/Preconditions"
def TJ3 : u_T := fun k => match k with
  | _ => ("", "", "", false)
def tyJ3 : Nat → FieldType := fun k => match k with
  | _ => .int
abbrev wsJ30 : List Cond := u_ws RJ3 TJ3 0
theorem nmJ3 : ∀ a, a < 0 → ∀ b, b < 0 → a ≠ b → (TJ3 a).2.1 ≠ (TJ3 b).2.1 := by decide +kernel
theorem tyJ3_ok : ∀ k, k < 0 → parseFieldDescriptor (TJ3 k).2.2.1 = some (tyJ3 k) := by decide +kernel
abbrev cJ3_checkIndex_8e157 : ByteArray := prog_33_method_11_code
def yJ3_checkIndex_8e157 : MethodName := ⟨RJ3, "checkIndex", "(IILjava/util/function/BiFunction;)I"⟩
def RL : String := "CityBankLaw"
abbrev cL_law : ByteArray := code
def yL_law : MethodName := ⟨RL, "law", "([I)Z"⟩
abbrev vwCl : List vw_C := [(RJ6, TJ6, 1), (RJx4a65c, TJx4a65c, 3), (RX0, TX0, 7), (RX1, TX1, 5), (RX2, TX2, 6), (RX3, TX3, 5), (RX4, TX4, 6), (RX5, TX5, 2), (RX6, TX6, 12), (RX7, TX7, 7), (RX8, TX8, 4), (RX9, TX9, 8), (RX10, TX10, 4), (RX11, TX11, 13), (RX12, TX12, 67)]
theorem inJ6 : ∀ w ∈ wsJ60, w ∈ lw_tbl := by decide +kernel
theorem inJx4a65c : ∀ w ∈ wsJx4a65c0, w ∈ lw_tbl := by decide +kernel
theorem inX0 : ∀ w ∈ wsX00, w ∈ lw_tbl := by decide +kernel
theorem inX1 : ∀ w ∈ wsX10, w ∈ lw_tbl := by decide +kernel
theorem inX2 : ∀ w ∈ wsX20, w ∈ lw_tbl := by decide +kernel
theorem inX3 : ∀ w ∈ wsX30, w ∈ lw_tbl := by decide +kernel
theorem inX4 : ∀ w ∈ wsX40, w ∈ lw_tbl := by decide +kernel
theorem inX5 : ∀ w ∈ wsX50, w ∈ lw_tbl := by decide +kernel
theorem inX6 : ∀ w ∈ wsX60, w ∈ lw_tbl := by decide +kernel
theorem inX7 : ∀ w ∈ wsX70, w ∈ lw_tbl := by decide +kernel
theorem inX8 : ∀ w ∈ wsX80, w ∈ lw_tbl := by decide +kernel
theorem inX9 : ∀ w ∈ wsX90, w ∈ lw_tbl := by decide +kernel
theorem inX10 : ∀ w ∈ wsX100, w ∈ lw_tbl := by decide +kernel
theorem inX11 : ∀ w ∈ wsX110, w ∈ lw_tbl := by decide +kernel
theorem inX12 : ∀ w ∈ wsX120, w ∈ lw_tbl := by decide +kernel
end
section
/-! THE SMALL MACHINE: values, locals, a typed heap of numbered objects, and what one instruction asks (z_stp). Proved against the machine in the parts behind. -/
/-- the words that stay: a method hands them on to its callees -/
def z_tbl : List Cond := lw_tbl.filter goodWord
def z_has (w : Cond) : Bool := goodWord w && decide (w ∈ lw_tbl)
theorem z_has_mem {w : Cond} (h : z_has w = true) : w ∈ z_tbl := by
  simp only [z_has, Bool.and_eq_true, decide_eq_true_eq] at h
  exact List.mem_filter.mpr ⟨h.2, h.1⟩
/-- a value: an int, a long, or a reference (kind, number) -/
abbrev z_V : Type := Int32 ⊕ (Int64 ⊕ Option (Nat × Nat))
abbrev z_i (x : Int32) : z_V := Sum.inl x
abbrev z_l (x : Int64) : z_V := Sum.inr (Sum.inl x)
abbrev z_q (r : Option (Nat × Nat)) : z_V := Sum.inr (Sum.inr r)
abbrev z_r (K i : Nat) : z_V := Sum.inr (Sum.inr (some (K, i)))
abbrev z_n : z_V := Sum.inr (Sum.inr none)
abbrev z_L : Type := List (Nat × z_V)
abbrev z_S : Type := List z_V
def z_cat : z_V → Nat
  | .inr (.inl _) => 2
  | _ => 1
def z_val (ad : Nat → Nat → Nat) : z_V → Value
  | .inl x => .int x
  | .inr (.inl x) => .long x
  | .inr (.inr none) => .null
  | .inr (.inr (some q)) => .ref (ad q.1 q.2)
theorem z_val_cat (ad : Nat → Nat → Nat) (v : z_V) : (z_val ad v).category = z_cat v := by
  rcases v with x | x | _ | q <;> rfl
def z_get : z_L → Nat → Option z_V
  | [], _ => none
  | q :: r, k => if q.1 = k then some q.2 else z_get r k
def z_rem : z_L → Nat → Nat → z_L
  | [], _, _ => []
  | q :: r, i, c => if q.1 = i ∨ (c = 2 ∧ q.1 = i + 1) ∨ (q.1 + 1 = i ∧ z_cat q.2 = 2) then z_rem r i c else q :: z_rem r i c
def z_put : z_L → Nat → z_V → z_L
  | [], i, v => [(i, v)]
  | q :: r, i, v => if q.1 = i then (i, v) :: z_rem r i (z_cat v) else if (z_cat v = 2 ∧ q.1 = i + 1) ∨ (q.1 + 1 = i ∧ z_cat q.2 = 2) then z_put r i v else q :: z_put r i v
theorem z_get_mem {ls : z_L} {k : Nat} {v : z_V} (h : z_get ls k = some v) : (k, v) ∈ ls := by
  induction ls with
  | nil => cases h
  | cons q r ih =>
    unfold z_get at h
    split at h
    · rename_i hk
      cases h
      subst hk
      exact List.mem_cons_self
    · exact List.mem_cons_of_mem _ (ih h)
theorem z_rem_mem {ls : z_L} {i c : Nat} {x : Nat × z_V} (h : x ∈ z_rem ls i c) : x ∈ ls ∧ ¬ (x.1 = i ∨ (c = 2 ∧ x.1 = i + 1) ∨ (x.1 + 1 = i ∧ z_cat x.2 = 2)) := by
  induction ls with
  | nil => cases h
  | cons q r ih =>
    unfold z_rem at h
    split at h
    · exact ⟨List.mem_cons_of_mem _ (ih h).1, (ih h).2⟩
    · rename_i hk
      rcases List.mem_cons.mp h with rfl | h
      · exact ⟨List.mem_cons_self, hk⟩
      · exact ⟨List.mem_cons_of_mem _ (ih h).1, (ih h).2⟩
theorem z_put_mem {ls : z_L} {i : Nat} {v : z_V} {x : Nat × z_V} (h : x ∈ z_put ls i v) : x = (i, v) ∨ (x ∈ ls ∧ ¬ (x.1 = i ∨ (z_cat v = 2 ∧ x.1 = i + 1) ∨ (x.1 + 1 = i ∧ z_cat x.2 = 2))) := by
  induction ls with
  | nil =>
    unfold z_put at h
    exact Or.inl (List.mem_singleton.mp h)
  | cons q r ih =>
    unfold z_put at h
    split at h
    · rcases List.mem_cons.mp h with rfl | h
      · exact Or.inl rfl
      · exact Or.inr ⟨List.mem_cons_of_mem _ (z_rem_mem h).1, (z_rem_mem h).2⟩
    · rename_i h1
      split at h
      · rcases ih h with h | h
        · exact Or.inl h
        · exact Or.inr ⟨List.mem_cons_of_mem _ h.1, h.2⟩
      · rename_i h2
        rcases List.mem_cons.mp h with rfl | h
        · exact Or.inr ⟨List.mem_cons_self, fun z => z.elim h1 h2⟩
        · rcases ih h with h | h
          · exact Or.inl h
          · exact Or.inr ⟨List.mem_cons_of_mem _ h.1, h.2⟩
/-! the heap: how many of each kind; ints, longs, references by (kind, number, place); sizes of lists -/
abbrev z_H : Type := (Nat → Nat) × (Nat → Nat → Nat → Int32) × (Nat → Nat → Nat → Int64) × (Nat → Nat → Nat → Option (Nat × Nat)) × (Nat → Nat → Nat)
def hN (h : z_H) : Nat → Nat := h.1
def hI (h : z_H) : Nat → Nat → Nat → Int32 := h.2.1
def hL (h : z_H) : Nat → Nat → Nat → Int64 := h.2.2.1
def hR (h : z_H) : Nat → Nat → Nat → Option (Nat × Nat) := h.2.2.2.1
def hZ (h : z_H) : Nat → Nat → Nat := h.2.2.2.2
def z_u1 {α : Type} (f : Nat → α) (K : Nat) (v : α) : Nat → α := fun K' => if K' = K then v else f K'
def z_u2 {α : Type} (f : Nat → Nat → α) (K i : Nat) (v : α) : Nat → Nat → α := fun K' i' => if K' = K ∧ i' = i then v else f K' i'
def z_u3 {α : Type} (f : Nat → Nat → Nat → α) (K i k : Nat) (v : α) : Nat → Nat → Nat → α := fun K' i' k' => if K' = K ∧ i' = i ∧ k' = k then v else f K' i' k'
def sI (h : z_H) (K i k : Nat) (v : Int32) : z_H := (h.1, z_u3 h.2.1 K i k v, h.2.2)
def sL (h : z_H) (K i k : Nat) (v : Int64) : z_H := (h.1, h.2.1, z_u3 h.2.2.1 K i k v, h.2.2.2)
def sR (h : z_H) (K i k : Nat) (v : Option (Nat × Nat)) : z_H := (h.1, h.2.1, h.2.2.1, z_u3 h.2.2.2.1 K i k v, h.2.2.2.2)
def sZ (h : z_H) (K i : Nat) (v : Nat) : z_H := (h.1, h.2.1, h.2.2.1, h.2.2.2.1, z_u2 h.2.2.2.2 K i v)
def sN (h : z_H) (K : Nat) (v : Nat) : z_H := (z_u1 h.1 K v, h.2)
/-- a new cell of kind K, all nought -/
def z_nw (h : z_H) (K : Nat) : z_H := (z_u1 h.1 K (h.1 K + 1), fun K' i' k' => if K' = K ∧ i' = h.1 K then 0 else h.2.1 K' i' k', fun K' i' k' => if K' = K ∧ i' = h.1 K then 0 else h.2.2.1 K' i' k', fun K' i' k' => if K' = K ∧ i' = h.1 K then none else h.2.2.2.1 K' i' k', z_u2 h.2.2.2.2 K (h.1 K) 0)
/-! the kinds: 2 .. 14 the classes of vwCl; arrays; lists -/
def kR (K : Nat) : String := match K with | 2 => RX0 | 3 => RX1 | 4 => RX2 | 5 => RX3 | 6 => RX4 | 7 => RX5 | 8 => RX6 | 9 => RX7 | 10 => RX8 | 11 => RX9 | 12 => RX10 | 13 => RX11 | 14 => RX12 | _ => ""
def kT (K : Nat) : u_T := match K with | 2 => TX0 | 3 => TX1 | 4 => TX2 | 5 => TX3 | 6 => TX4 | 7 => TX5 | 8 => TX6 | 9 => TX7 | 10 => TX8 | 11 => TX9 | 12 => TX10 | 13 => TX11 | _ => TX12
def kF (K : Nat) : Nat := match K with | 2 => 7 | 3 => 5 | 4 => 6 | 5 => 5 | 6 => 6 | 7 => 2 | 8 => 12 | 9 => 7 | 10 => 4 | 11 => 8 | 12 => 4 | 13 => 13 | 14 => 67 | _ => 0
def kY (K : Nat) : Nat → FieldType := match K with | 2 => tyX0 | 3 => tyX1 | 4 => tyX2 | 5 => tyX3 | 6 => tyX4 | 7 => tyX5 | 8 => tyX6 | 9 => tyX7 | 10 => tyX8 | 11 => tyX9 | 12 => tyX10 | 13 => tyX11 | _ => tyX12
/-- 0 int, 1 long, 2 reference, 3 boolean -/
def z_fc (t : FieldType) : Nat := match t with | .int => 0 | .long => 1 | .boolean => 3 | .object _ => 2 | .array _ => 2 | _ => 4
def z_fv (h : z_H) (K i k : Nat) : z_V := match z_fc (kY K k) with | 1 => z_l (hL h K i k) | 2 => z_q (hR h K i k) | _ => z_i (hI h K i k)
def z_obj (K : Nat) : Bool := decide (2 ≤ K) && decide (K ≤ 14)
/-- arrays: their length (0: no array kind), and 0 int, 1 long, 2 boolean -/
def aLen (K : Nat) : Nat := match K with
  | 100 => 60 | 101 => 600 | 102 => 600 | 103 => 32
  | 301 => 4 | 302 => 4 | 303 => 240 | 304 => 60 | 322 => 6 | 323 => 6 | 324 => 6 | 325 => 6 | 326 => 6 | 327 => 24 | 328 => 24 | 329 => 24
  | 330 => 200 | 331 => 200 | 332 => 200 | 333 => 200 | 334 => 200 | 335 => 200 | 336 => 200
  | 337 => 300 | 338 => 300 | 339 => 300 | 340 => 300 | 341 => 300 | 342 => 300 | 343 => 300 | 344 => 300 | 345 => 300 | 346 => 300 | 347 => 300 | 348 => 300
  | 349 => 2000 | 350 => 2000 | 351 => 2000 | 352 => 2000 | 353 => 2000 | 354 => 2000 | 355 => 2000 | 356 => 2000
  | 357 => 20 | 358 => 640 | 359 => 20 | 360 => 2000 | 361 => 2000
  | _ => 0
def aCod (K : Nat) : Nat := match K with | 100 => 1 | 303 => 1 | 304 => 1 | 325 => 1 | 326 => 1 | 327 => 1 | 335 => 1 | 336 => 1 | 347 => 1 | 354 => 1 | 359 => 1 | 348 => 2 | _ => 0
def aTy (c : Nat) : FieldType := match c with | 0 => .int | 1 => .long | _ => .boolean
def aVal (h : z_H) (K i j : Nat) : Value := if aCod K = 1 then .long (hL h K i j) else .int (hI h K i j)
/-- lists: 200 .. 206 of objects (of the kind lT), 207 of ints -/
def z_lst (K : Nat) : Bool := decide (200 ≤ K) && decide (K ≤ 207)
def lT (K : Nat) : Nat := match K with | 200 => 4 | 201 => 2 | 202 => 9 | 203 => 8 | 204 => 7 | 205 => 10 | _ => 6
def z_cap : Nat → Nat
  | 0 => 0
  | n + 1 => if z_cap n = n then (if n = 0 then 10 else n + n / 2) else z_cap n
/-- what a further element costs: cells, slots -/
def z_gc (n : Nat) : Nat := if z_cap n = n then 1 else 0
def z_gs (n : Nat) : Nat := if z_cap n = n then z_cap (n + 1) else 0
/-! eliminators -/
def eI (o : Option z_V) (f : Int32 → Prop) : Prop := match o with | some (.inl x) => f x | _ => False
def eL (o : Option z_V) (f : Int64 → Prop) : Prop := match o with | some (.inr (.inl x)) => f x | _ => False
def eR (o : Option z_V) (f : Option (Nat × Nat) → Prop) : Prop := match o with | some (.inr (.inr x)) => f x | _ => False
def pI (st : z_S) (f : Int32 → z_S → Prop) : Prop := match st with | .inl x :: r => f x r | _ => False
def pL (st : z_S) (f : Int64 → z_S → Prop) : Prop := match st with | .inr (.inl x) :: r => f x r | _ => False
def pR (st : z_S) (f : Option (Nat × Nat) → z_S → Prop) : Prop := match st with | .inr (.inr x) :: r => f x r | _ => False
def pO (st : z_S) (f : Nat → Nat → z_S → Prop) : Prop := match st with | .inr (.inr (some q)) :: r => f q.1 q.2 r | _ => False
def pV (st : z_S) (f : z_V → z_S → Prop) : Prop := match st with | v :: r => f v r | _ => False
def pA : Nat → z_S → List z_V → (List z_V → z_S → Prop) → Prop
  | 0, st, acc, f => f acc st
  | n + 1, v :: r, acc, f => pA n r (v :: acc) f
  | _ + 1, [], _, _ => False
def z_w : z_S → Nat
  | [] => 0
  | v :: r => z_cat v + z_w r
def z_cP (c : ClassFile.Cond) (x y : Int32) : Prop := match c with | .eq => x = y | .ne => ¬ x = y | .lt => x < y | .ge => y ≤ x | .gt => y < x | .le => x ≤ y
def z_sw (pc : Nat) (dflt lo hi : Int) (offs : List Int) (x : Int) : Nat := if x < lo ∨ hi < x then ((pc : Int) + dflt).toNat else ((pc : Int) + offs.getD (x - lo).toNat 0).toNat
def z_lk (pc : Nat) (dflt : Int) (ps : List (Int × Int)) (x : Int) : Nat := ((pc : Int) + Op.lookupswitch.offset ps dflt x).toNat
/-! ghosts: where the world begins; class numbers, slots; array classes; the empty list's array; the cached Integers; the script -/
abbrev z_G : Type := Nat × (Nat → ClassId) × (Nat → Nat → Nat) × (Nat → ClassId) × Nat × (Nat → Nat) × Nat × Nat × (Nat → Int32)
def gB (G : z_G) : Nat := G.1
def gC (G : z_G) : Nat → ClassId := G.2.1
def gI (G : z_G) : Nat → Nat → Nat := G.2.2.1
def gA (G : z_G) : Nat → ClassId := G.2.2.2.1
def gE (G : z_G) : Nat := G.2.2.2.2.1
def gX (G : z_G) : Nat → Nat := G.2.2.2.2.2.1
def gS (G : z_G) : Nat := G.2.2.2.2.2.2.1
def gL (G : z_G) : Nat := G.2.2.2.2.2.2.2.1
def gV (G : z_G) : Nat → Int32 := G.2.2.2.2.2.2.2.2
end
section
/-! links by their places -/
theorem z_ix (n : Nat) {w : Cond} (h : lw_tbl[n]? = some w ∧ goodWord w = true) : w ∈ z_tbl := List.mem_filter.mpr ⟨List.mem_of_getElem? h.1, h.2⟩
def kO (K : Nat) : String := match K with | 15 => RJ9 | 16 => RL | K => kR K
def z_yAdd : MethodName := yJx4a65c_add_9ea2d
def z_yCpy : MethodName := ⟨"java/lang/System", "arraycopy", "(Ljava/lang/Object;ILjava/lang/Object;II)V"⟩
def z_prim (own : String) (i c : Nat) : Cond := match c with | 1 => .methodLink own i yJx4a65c_size_8abf5 | 2 => .methodLink own i yJx4a65c_get_915e3 | 3 => .methodLink own i z_yAdd | 4 => .methodLink own i yJ6_valueOf_2dffe | 5 => .methodLink own i yJ6_intValue_8abf5 | 6 => .methodLink own i z_yCpy | 7 => .methodLink own i Lib.objectInit | 8 => .methodLink own i yJx4a65c_init_da8c8 | 20 => .classLink own i RJx4a65c | _ => .classLink own i RJ6
def z_Fk_2 : List (Nat × Nat × Nat) := [(9, 2, 2), (15, 2, 5), (18, 2, 6), (21, 2, 0), (27, 2, 1)]
theorem z_Fk_2_ok : ∀ q ∈ z_Fk_2, Cond.fieldLink (kO 2) q.1 (kT q.2.1 q.2.2).1 (kT q.2.1 q.2.2).2.1 (kT q.2.1 q.2.2).2.2.1 ∈ z_tbl := by
  unfold z_Fk_2
  refine List.forall_mem_cons.mpr ⟨z_ix 413 (by decide +kernel), ?_⟩
  refine List.forall_mem_cons.mpr ⟨z_ix 418 (by decide +kernel), ?_⟩
  refine List.forall_mem_cons.mpr ⟨z_ix 420 (by decide +kernel), ?_⟩
  refine List.forall_mem_cons.mpr ⟨z_ix 407 (by decide +kernel), ?_⟩
  refine List.forall_mem_cons.mpr ⟨z_ix 410 (by decide +kernel), ?_⟩
  exact fun _ h => absurd h List.not_mem_nil
def z_Fk_3 : List (Nat × Nat × Nat) := [(7, 3, 0), (13, 11, 4), (22, 11, 5), (33, 11, 7), (36, 3, 1), (40, 11, 6), (43, 3, 2), (46, 3, 3), (49, 3, 4)]
theorem z_Fk_3_ok : ∀ q ∈ z_Fk_3, Cond.fieldLink (kO 3) q.1 (kT q.2.1 q.2.2).1 (kT q.2.1 q.2.2).2.1 (kT q.2.1 q.2.2).2.2.1 ∈ z_tbl := by
  unfold z_Fk_3
  refine List.forall_mem_cons.mpr ⟨z_ix 265 (by decide +kernel), ?_⟩
  refine List.forall_mem_cons.mpr ⟨z_ix 87 (by decide +kernel), ?_⟩
  refine List.forall_mem_cons.mpr ⟨z_ix 90 (by decide +kernel), ?_⟩
  refine List.forall_mem_cons.mpr ⟨z_ix 96 (by decide +kernel), ?_⟩
  refine List.forall_mem_cons.mpr ⟨z_ix 267 (by decide +kernel), ?_⟩
  refine List.forall_mem_cons.mpr ⟨z_ix 93 (by decide +kernel), ?_⟩
  refine List.forall_mem_cons.mpr ⟨z_ix 269 (by decide +kernel), ?_⟩
  refine List.forall_mem_cons.mpr ⟨z_ix 271 (by decide +kernel), ?_⟩
  refine List.forall_mem_cons.mpr ⟨z_ix 273 (by decide +kernel), ?_⟩
  exact fun _ h => absurd h List.not_mem_nil
def z_Fk_4 : List (Nat × Nat × Nat) := [(7, 4, 0), (13, 4, 1), (16, 4, 2), (19, 4, 3)]
theorem z_Fk_4_ok : ∀ q ∈ z_Fk_4, Cond.fieldLink (kO 4) q.1 (kT q.2.1 q.2.2).1 (kT q.2.1 q.2.2).2.1 (kT q.2.1 q.2.2).2.2.1 ∈ z_tbl := by
  unfold z_Fk_4
  refine List.forall_mem_cons.mpr ⟨z_ix 375 (by decide +kernel), ?_⟩
  refine List.forall_mem_cons.mpr ⟨z_ix 377 (by decide +kernel), ?_⟩
  refine List.forall_mem_cons.mpr ⟨z_ix 378 (by decide +kernel), ?_⟩
  refine List.forall_mem_cons.mpr ⟨z_ix 379 (by decide +kernel), ?_⟩
  exact fun _ h => absurd h List.not_mem_nil
def z_Fk_5 : List (Nat × Nat × Nat) := [(12, 5, 0), (18, 5, 1), (22, 5, 2), (46, 2, 2), (52, 2, 3), (55, 5, 4), (58, 2, 1), (66, 6, 3), (70, 2, 0), (73, 6, 4), (76, 6, 5), (84, 5, 3)]
theorem z_Fk_5_ok : ∀ q ∈ z_Fk_5, Cond.fieldLink (kO 5) q.1 (kT q.2.1 q.2.2).1 (kT q.2.1 q.2.2).2.1 (kT q.2.1 q.2.2).2.2.1 ∈ z_tbl := by
  unfold z_Fk_5
  refine List.forall_mem_cons.mpr ⟨z_ix 237 (by decide +kernel), ?_⟩
  refine List.forall_mem_cons.mpr ⟨z_ix 239 (by decide +kernel), ?_⟩
  refine List.forall_mem_cons.mpr ⟨z_ix 241 (by decide +kernel), ?_⟩
  refine List.forall_mem_cons.mpr ⟨z_ix 414 (by decide +kernel), ?_⟩
  refine List.forall_mem_cons.mpr ⟨z_ix 416 (by decide +kernel), ?_⟩
  refine List.forall_mem_cons.mpr ⟨z_ix 245 (by decide +kernel), ?_⟩
  refine List.forall_mem_cons.mpr ⟨z_ix 411 (by decide +kernel), ?_⟩
  refine List.forall_mem_cons.mpr ⟨z_ix 577 (by decide +kernel), ?_⟩
  refine List.forall_mem_cons.mpr ⟨z_ix 408 (by decide +kernel), ?_⟩
  refine List.forall_mem_cons.mpr ⟨z_ix 580 (by decide +kernel), ?_⟩
  refine List.forall_mem_cons.mpr ⟨z_ix 583 (by decide +kernel), ?_⟩
  refine List.forall_mem_cons.mpr ⟨z_ix 243 (by decide +kernel), ?_⟩
  exact fun _ h => absurd h List.not_mem_nil
def z_Fk_6 : List (Nat × Nat × Nat) := [(9, 6, 0), (15, 6, 3), (19, 6, 1), (22, 6, 4), (25, 6, 5), (29, 6, 2)]
theorem z_Fk_6_ok : ∀ q ∈ z_Fk_6, Cond.fieldLink (kO 6) q.1 (kT q.2.1 q.2.2).1 (kT q.2.1 q.2.2).2.1 (kT q.2.1 q.2.2).2.2.1 ∈ z_tbl := by
  unfold z_Fk_6
  refine List.forall_mem_cons.mpr ⟨z_ix 570 (by decide +kernel), ?_⟩
  refine List.forall_mem_cons.mpr ⟨z_ix 576 (by decide +kernel), ?_⟩
  refine List.forall_mem_cons.mpr ⟨z_ix 572 (by decide +kernel), ?_⟩
  refine List.forall_mem_cons.mpr ⟨z_ix 579 (by decide +kernel), ?_⟩
  refine List.forall_mem_cons.mpr ⟨z_ix 582 (by decide +kernel), ?_⟩
  refine List.forall_mem_cons.mpr ⟨z_ix 574 (by decide +kernel), ?_⟩
  exact fun _ h => absurd h List.not_mem_nil
def z_Fk_7 : List (Nat × Nat × Nat) := [(9, 7, 0), (15, 7, 1)]
theorem z_Fk_7_ok : ∀ q ∈ z_Fk_7, Cond.fieldLink (kO 7) q.1 (kT q.2.1 q.2.2).1 (kT q.2.1 q.2.2).2.1 (kT q.2.1 q.2.2).2.2.1 ∈ z_tbl := by
  unfold z_Fk_7
  refine List.forall_mem_cons.mpr ⟨z_ix 814 (by decide +kernel), ?_⟩
  refine List.forall_mem_cons.mpr ⟨z_ix 816 (by decide +kernel), ?_⟩
  exact fun _ h => absurd h List.not_mem_nil
def z_Fk_8 : List (Nat × Nat × Nat) := [(9, 8, 6), (15, 8, 7), (18, 8, 9), (21, 8, 10), (24, 8, 0), (28, 8, 1), (31, 8, 2), (35, 8, 3), (38, 8, 4), (41, 8, 5)]
theorem z_Fk_8_ok : ∀ q ∈ z_Fk_8, Cond.fieldLink (kO 8) q.1 (kT q.2.1 q.2.2).1 (kT q.2.1 q.2.2).2.1 (kT q.2.1 q.2.2).2.2.1 ∈ z_tbl := by
  unfold z_Fk_8
  refine List.forall_mem_cons.mpr ⟨z_ix 659 (by decide +kernel), ?_⟩
  refine List.forall_mem_cons.mpr ⟨z_ix 661 (by decide +kernel), ?_⟩
  refine List.forall_mem_cons.mpr ⟨z_ix 664 (by decide +kernel), ?_⟩
  refine List.forall_mem_cons.mpr ⟨z_ix 666 (by decide +kernel), ?_⟩
  refine List.forall_mem_cons.mpr ⟨z_ix 647 (by decide +kernel), ?_⟩
  refine List.forall_mem_cons.mpr ⟨z_ix 649 (by decide +kernel), ?_⟩
  refine List.forall_mem_cons.mpr ⟨z_ix 651 (by decide +kernel), ?_⟩
  refine List.forall_mem_cons.mpr ⟨z_ix 653 (by decide +kernel), ?_⟩
  refine List.forall_mem_cons.mpr ⟨z_ix 655 (by decide +kernel), ?_⟩
  refine List.forall_mem_cons.mpr ⟨z_ix 657 (by decide +kernel), ?_⟩
  exact fun _ h => absurd h List.not_mem_nil
def z_Fk_9 : List (Nat × Nat × Nat) := [(9, 9, 6), (15, 9, 4), (19, 9, 0), (23, 9, 1), (26, 9, 2), (29, 9, 3), (33, 9, 5)]
theorem z_Fk_9_ok : ∀ q ∈ z_Fk_9, Cond.fieldLink (kO 9) q.1 (kT q.2.1 q.2.2).1 (kT q.2.1 q.2.2).2.1 (kT q.2.1 q.2.2).2.2.1 ∈ z_tbl := by
  unfold z_Fk_9
  refine List.forall_mem_cons.mpr ⟨z_ix 518 (by decide +kernel), ?_⟩
  refine List.forall_mem_cons.mpr ⟨z_ix 514 (by decide +kernel), ?_⟩
  refine List.forall_mem_cons.mpr ⟨z_ix 506 (by decide +kernel), ?_⟩
  refine List.forall_mem_cons.mpr ⟨z_ix 508 (by decide +kernel), ?_⟩
  refine List.forall_mem_cons.mpr ⟨z_ix 510 (by decide +kernel), ?_⟩
  refine List.forall_mem_cons.mpr ⟨z_ix 512 (by decide +kernel), ?_⟩
  refine List.forall_mem_cons.mpr ⟨z_ix 516 (by decide +kernel), ?_⟩
  exact fun _ h => absurd h List.not_mem_nil
def z_Fk_10 : List (Nat × Nat × Nat) := [(9, 10, 0), (15, 10, 1), (19, 10, 2), (23, 10, 3)]
theorem z_Fk_10_ok : ∀ q ∈ z_Fk_10, Cond.fieldLink (kO 10) q.1 (kT q.2.1 q.2.2).1 (kT q.2.1 q.2.2).2.1 (kT q.2.1 q.2.2).2.2.1 ∈ z_tbl := by
  unfold z_Fk_10
  refine List.forall_mem_cons.mpr ⟨z_ix 147 (by decide +kernel), ?_⟩
  refine List.forall_mem_cons.mpr ⟨z_ix 150 (by decide +kernel), ?_⟩
  refine List.forall_mem_cons.mpr ⟨z_ix 152 (by decide +kernel), ?_⟩
  refine List.forall_mem_cons.mpr ⟨z_ix 155 (by decide +kernel), ?_⟩
  exact fun _ h => absurd h List.not_mem_nil
def z_Fk_11 : List (Nat × Nat × Nat) := [(7, 11, 0), (13, 11, 1), (16, 11, 2), (19, 11, 3), (22, 11, 4), (25, 11, 5), (28, 11, 6), (31, 11, 7)]
theorem z_Fk_11_ok : ∀ q ∈ z_Fk_11, Cond.fieldLink (kO 11) q.1 (kT q.2.1 q.2.2).1 (kT q.2.1 q.2.2).2.1 (kT q.2.1 q.2.2).2.2.1 ∈ z_tbl := by
  unfold z_Fk_11
  refine List.forall_mem_cons.mpr ⟨z_ix 78 (by decide +kernel), ?_⟩
  refine List.forall_mem_cons.mpr ⟨z_ix 80 (by decide +kernel), ?_⟩
  refine List.forall_mem_cons.mpr ⟨z_ix 82 (by decide +kernel), ?_⟩
  refine List.forall_mem_cons.mpr ⟨z_ix 84 (by decide +kernel), ?_⟩
  refine List.forall_mem_cons.mpr ⟨z_ix 86 (by decide +kernel), ?_⟩
  refine List.forall_mem_cons.mpr ⟨z_ix 89 (by decide +kernel), ?_⟩
  refine List.forall_mem_cons.mpr ⟨z_ix 92 (by decide +kernel), ?_⟩
  refine List.forall_mem_cons.mpr ⟨z_ix 95 (by decide +kernel), ?_⟩
  exact fun _ h => absurd h List.not_mem_nil
def z_Fk_12 : List (Nat × Nat × Nat) := [(9, 12, 0), (15, 12, 1), (18, 10, 3), (23, 10, 0), (33, 12, 2), (43, 12, 3)]
theorem z_Fk_12_ok : ∀ q ∈ z_Fk_12, Cond.fieldLink (kO 12) q.1 (kT q.2.1 q.2.2).1 (kT q.2.1 q.2.2).2.1 (kT q.2.1 q.2.2).2.2.1 ∈ z_tbl := by
  unfold z_Fk_12
  refine List.forall_mem_cons.mpr ⟨z_ix 292 (by decide +kernel), ?_⟩
  refine List.forall_mem_cons.mpr ⟨z_ix 294 (by decide +kernel), ?_⟩
  refine List.forall_mem_cons.mpr ⟨z_ix 154 (by decide +kernel), ?_⟩
  refine List.forall_mem_cons.mpr ⟨z_ix 148 (by decide +kernel), ?_⟩
  refine List.forall_mem_cons.mpr ⟨z_ix 296 (by decide +kernel), ?_⟩
  refine List.forall_mem_cons.mpr ⟨z_ix 298 (by decide +kernel), ?_⟩
  exact fun _ h => absurd h List.not_mem_nil
def z_Fk_13 : List (Nat × Nat × Nat) := [(10, 13, 0), (19, 13, 1), (23, 13, 2), (26, 13, 3), (29, 13, 4), (32, 13, 5), (35, 13, 6), (48, 13, 7), (55, 13, 8), (62, 13, 9), (80, 11, 0), (84, 11, 1), (87, 11, 2), (90, 11, 3), (93, 11, 4), (96, 11, 5), (99, 11, 6), (102, 11, 7), (127, 2, 5), (130, 2, 6), (141, 10, 1), (152, 12, 0), (155, 12, 1), (168, 9, 0), (178, 9, 3), (182, 9, 4), (186, 2, 4), (193, 4, 4), (194, 9, 1), (195, 4, 5), (197, 9, 2), (200, 9, 6), (207, 13, 12), (210, 9, 5), (215, 13, 10), (226, 8, 6), (233, 8, 7), (236, 8, 8), (253, 5, 3), (256, 5, 1), (260, 5, 2), (263, 8, 11), (266, 8, 10), (273, 8, 9), (276, 8, 1), (279, 8, 2), (286, 6, 3), (291, 6, 4), (294, 6, 5), (299, 12, 2), (302, 12, 3), (320, 7, 1), (329, 7, 0), (339, 2, 2), (342, 2, 1), (352, 6, 0), (353, 2, 0), (356, 6, 1), (357, 6, 2), (360, 8, 0), (363, 8, 3), (364, 8, 4), (370, 4, 0), (371, 13, 11), (374, 5, 0), (377, 5, 4), (379, 3, 0), (385, 3, 1), (388, 3, 2), (397, 10, 3), (399, 10, 0), (407, 10, 2), (423, 3, 4), (438, 8, 5), (454, 3, 3)]
theorem z_Fk_13_ok : ∀ q ∈ z_Fk_13, Cond.fieldLink (kO 13) q.1 (kT q.2.1 q.2.2).1 (kT q.2.1 q.2.2).2.1 (kT q.2.1 q.2.2).2.2.1 ∈ z_tbl := by
  unfold z_Fk_13
  refine List.forall_mem_cons.mpr ⟨z_ix 309 (by decide +kernel), ?_⟩
  refine List.forall_mem_cons.mpr ⟨z_ix 310 (by decide +kernel), ?_⟩
  refine List.forall_mem_cons.mpr ⟨z_ix 311 (by decide +kernel), ?_⟩
  refine List.forall_mem_cons.mpr ⟨z_ix 312 (by decide +kernel), ?_⟩
  refine List.forall_mem_cons.mpr ⟨z_ix 313 (by decide +kernel), ?_⟩
  refine List.forall_mem_cons.mpr ⟨z_ix 314 (by decide +kernel), ?_⟩
  refine List.forall_mem_cons.mpr ⟨z_ix 315 (by decide +kernel), ?_⟩
  refine List.forall_mem_cons.mpr ⟨z_ix 316 (by decide +kernel), ?_⟩
  refine List.forall_mem_cons.mpr ⟨z_ix 317 (by decide +kernel), ?_⟩
  refine List.forall_mem_cons.mpr ⟨z_ix 318 (by decide +kernel), ?_⟩
  refine List.forall_mem_cons.mpr ⟨z_ix 79 (by decide +kernel), ?_⟩
  refine List.forall_mem_cons.mpr ⟨z_ix 81 (by decide +kernel), ?_⟩
  refine List.forall_mem_cons.mpr ⟨z_ix 83 (by decide +kernel), ?_⟩
  refine List.forall_mem_cons.mpr ⟨z_ix 85 (by decide +kernel), ?_⟩
  refine List.forall_mem_cons.mpr ⟨z_ix 88 (by decide +kernel), ?_⟩
  refine List.forall_mem_cons.mpr ⟨z_ix 91 (by decide +kernel), ?_⟩
  refine List.forall_mem_cons.mpr ⟨z_ix 94 (by decide +kernel), ?_⟩
  refine List.forall_mem_cons.mpr ⟨z_ix 97 (by decide +kernel), ?_⟩
  refine List.forall_mem_cons.mpr ⟨z_ix 419 (by decide +kernel), ?_⟩
  refine List.forall_mem_cons.mpr ⟨z_ix 421 (by decide +kernel), ?_⟩
  refine List.forall_mem_cons.mpr ⟨z_ix 151 (by decide +kernel), ?_⟩
  refine List.forall_mem_cons.mpr ⟨z_ix 293 (by decide +kernel), ?_⟩
  refine List.forall_mem_cons.mpr ⟨z_ix 295 (by decide +kernel), ?_⟩
  refine List.forall_mem_cons.mpr ⟨z_ix 507 (by decide +kernel), ?_⟩
  refine List.forall_mem_cons.mpr ⟨z_ix 513 (by decide +kernel), ?_⟩
  refine List.forall_mem_cons.mpr ⟨z_ix 515 (by decide +kernel), ?_⟩
  refine List.forall_mem_cons.mpr ⟨z_ix 417 (by decide +kernel), ?_⟩
  refine List.forall_mem_cons.mpr ⟨z_ix 380 (by decide +kernel), ?_⟩
  refine List.forall_mem_cons.mpr ⟨z_ix 509 (by decide +kernel), ?_⟩
  refine List.forall_mem_cons.mpr ⟨z_ix 381 (by decide +kernel), ?_⟩
  refine List.forall_mem_cons.mpr ⟨z_ix 511 (by decide +kernel), ?_⟩
  refine List.forall_mem_cons.mpr ⟨z_ix 519 (by decide +kernel), ?_⟩
  refine List.forall_mem_cons.mpr ⟨z_ix 321 (by decide +kernel), ?_⟩
  refine List.forall_mem_cons.mpr ⟨z_ix 517 (by decide +kernel), ?_⟩
  refine List.forall_mem_cons.mpr ⟨z_ix 319 (by decide +kernel), ?_⟩
  refine List.forall_mem_cons.mpr ⟨z_ix 660 (by decide +kernel), ?_⟩
  refine List.forall_mem_cons.mpr ⟨z_ix 662 (by decide +kernel), ?_⟩
  refine List.forall_mem_cons.mpr ⟨z_ix 663 (by decide +kernel), ?_⟩
  refine List.forall_mem_cons.mpr ⟨z_ix 244 (by decide +kernel), ?_⟩
  refine List.forall_mem_cons.mpr ⟨z_ix 240 (by decide +kernel), ?_⟩
  refine List.forall_mem_cons.mpr ⟨z_ix 242 (by decide +kernel), ?_⟩
  refine List.forall_mem_cons.mpr ⟨z_ix 668 (by decide +kernel), ?_⟩
  refine List.forall_mem_cons.mpr ⟨z_ix 667 (by decide +kernel), ?_⟩
  refine List.forall_mem_cons.mpr ⟨z_ix 665 (by decide +kernel), ?_⟩
  refine List.forall_mem_cons.mpr ⟨z_ix 650 (by decide +kernel), ?_⟩
  refine List.forall_mem_cons.mpr ⟨z_ix 652 (by decide +kernel), ?_⟩
  refine List.forall_mem_cons.mpr ⟨z_ix 578 (by decide +kernel), ?_⟩
  refine List.forall_mem_cons.mpr ⟨z_ix 581 (by decide +kernel), ?_⟩
  refine List.forall_mem_cons.mpr ⟨z_ix 584 (by decide +kernel), ?_⟩
  refine List.forall_mem_cons.mpr ⟨z_ix 297 (by decide +kernel), ?_⟩
  refine List.forall_mem_cons.mpr ⟨z_ix 299 (by decide +kernel), ?_⟩
  refine List.forall_mem_cons.mpr ⟨z_ix 817 (by decide +kernel), ?_⟩
  refine List.forall_mem_cons.mpr ⟨z_ix 815 (by decide +kernel), ?_⟩
  refine List.forall_mem_cons.mpr ⟨z_ix 415 (by decide +kernel), ?_⟩
  refine List.forall_mem_cons.mpr ⟨z_ix 412 (by decide +kernel), ?_⟩
  refine List.forall_mem_cons.mpr ⟨z_ix 571 (by decide +kernel), ?_⟩
  refine List.forall_mem_cons.mpr ⟨z_ix 409 (by decide +kernel), ?_⟩
  refine List.forall_mem_cons.mpr ⟨z_ix 573 (by decide +kernel), ?_⟩
  refine List.forall_mem_cons.mpr ⟨z_ix 575 (by decide +kernel), ?_⟩
  refine List.forall_mem_cons.mpr ⟨z_ix 648 (by decide +kernel), ?_⟩
  refine List.forall_mem_cons.mpr ⟨z_ix 654 (by decide +kernel), ?_⟩
  refine List.forall_mem_cons.mpr ⟨z_ix 656 (by decide +kernel), ?_⟩
  refine List.forall_mem_cons.mpr ⟨z_ix 376 (by decide +kernel), ?_⟩
  refine List.forall_mem_cons.mpr ⟨z_ix 320 (by decide +kernel), ?_⟩
  refine List.forall_mem_cons.mpr ⟨z_ix 238 (by decide +kernel), ?_⟩
  refine List.forall_mem_cons.mpr ⟨z_ix 246 (by decide +kernel), ?_⟩
  refine List.forall_mem_cons.mpr ⟨z_ix 266 (by decide +kernel), ?_⟩
  refine List.forall_mem_cons.mpr ⟨z_ix 268 (by decide +kernel), ?_⟩
  refine List.forall_mem_cons.mpr ⟨z_ix 270 (by decide +kernel), ?_⟩
  refine List.forall_mem_cons.mpr ⟨z_ix 156 (by decide +kernel), ?_⟩
  refine List.forall_mem_cons.mpr ⟨z_ix 149 (by decide +kernel), ?_⟩
  refine List.forall_mem_cons.mpr ⟨z_ix 153 (by decide +kernel), ?_⟩
  refine List.forall_mem_cons.mpr ⟨z_ix 274 (by decide +kernel), ?_⟩
  refine List.forall_mem_cons.mpr ⟨z_ix 658 (by decide +kernel), ?_⟩
  refine List.forall_mem_cons.mpr ⟨z_ix 272 (by decide +kernel), ?_⟩
  exact fun _ h => absurd h List.not_mem_nil
def z_Fk_14 : List (Nat × Nat × Nat) := [(9, 14, 1), (13, 14, 2), (16, 14, 3), (20, 14, 4), (23, 14, 5), (27, 14, 6), (30, 14, 7), (33, 14, 8), (36, 14, 9), (39, 14, 10), (42, 14, 11), (45, 14, 12), (48, 14, 13), (51, 14, 22), (54, 14, 23), (57, 14, 24), (60, 14, 25), (63, 14, 26), (66, 14, 27), (69, 14, 28), (72, 14, 29), (75, 14, 30), (78, 14, 31), (81, 14, 32), (84, 14, 33), (87, 14, 34), (90, 14, 35), (93, 14, 36), (96, 14, 37), (99, 14, 38), (102, 14, 39), (105, 14, 40), (108, 14, 41), (111, 14, 42), (114, 14, 43), (117, 14, 44), (120, 14, 45), (123, 14, 46), (126, 14, 47), (129, 14, 48), (133, 14, 49), (136, 14, 50), (139, 14, 51), (142, 14, 52), (145, 14, 53), (148, 14, 54), (151, 14, 55), (154, 14, 56), (157, 14, 57), (160, 14, 58), (163, 14, 59), (166, 14, 60), (169, 14, 61), (172, 14, 0), (199, 14, 15), (202, 14, 16), (212, 14, 19), (215, 14, 18), (218, 14, 20), (228, 14, 17), (242, 14, 14), (245, 14, 63), (264, 14, 64), (304, 14, 65), (307, 14, 66), (310, 14, 62), (329, 14, 21)]
theorem z_Fk_14_ok : ∀ q ∈ z_Fk_14, Cond.fieldLink (kO 14) q.1 (kT q.2.1 q.2.2).1 (kT q.2.1 q.2.2).2.1 (kT q.2.1 q.2.2).2.2.1 ∈ z_tbl := by
  unfold z_Fk_14
  refine List.forall_mem_cons.mpr ⟨z_ix 953 (by decide +kernel), ?_⟩
  refine List.forall_mem_cons.mpr ⟨z_ix 954 (by decide +kernel), ?_⟩
  refine List.forall_mem_cons.mpr ⟨z_ix 955 (by decide +kernel), ?_⟩
  refine List.forall_mem_cons.mpr ⟨z_ix 956 (by decide +kernel), ?_⟩
  refine List.forall_mem_cons.mpr ⟨z_ix 957 (by decide +kernel), ?_⟩
  refine List.forall_mem_cons.mpr ⟨z_ix 958 (by decide +kernel), ?_⟩
  refine List.forall_mem_cons.mpr ⟨z_ix 959 (by decide +kernel), ?_⟩
  refine List.forall_mem_cons.mpr ⟨z_ix 960 (by decide +kernel), ?_⟩
  refine List.forall_mem_cons.mpr ⟨z_ix 961 (by decide +kernel), ?_⟩
  refine List.forall_mem_cons.mpr ⟨z_ix 962 (by decide +kernel), ?_⟩
  refine List.forall_mem_cons.mpr ⟨z_ix 963 (by decide +kernel), ?_⟩
  refine List.forall_mem_cons.mpr ⟨z_ix 964 (by decide +kernel), ?_⟩
  refine List.forall_mem_cons.mpr ⟨z_ix 965 (by decide +kernel), ?_⟩
  refine List.forall_mem_cons.mpr ⟨z_ix 974 (by decide +kernel), ?_⟩
  refine List.forall_mem_cons.mpr ⟨z_ix 975 (by decide +kernel), ?_⟩
  refine List.forall_mem_cons.mpr ⟨z_ix 976 (by decide +kernel), ?_⟩
  refine List.forall_mem_cons.mpr ⟨z_ix 977 (by decide +kernel), ?_⟩
  refine List.forall_mem_cons.mpr ⟨z_ix 978 (by decide +kernel), ?_⟩
  refine List.forall_mem_cons.mpr ⟨z_ix 979 (by decide +kernel), ?_⟩
  refine List.forall_mem_cons.mpr ⟨z_ix 980 (by decide +kernel), ?_⟩
  refine List.forall_mem_cons.mpr ⟨z_ix 981 (by decide +kernel), ?_⟩
  refine List.forall_mem_cons.mpr ⟨z_ix 982 (by decide +kernel), ?_⟩
  refine List.forall_mem_cons.mpr ⟨z_ix 983 (by decide +kernel), ?_⟩
  refine List.forall_mem_cons.mpr ⟨z_ix 984 (by decide +kernel), ?_⟩
  refine List.forall_mem_cons.mpr ⟨z_ix 985 (by decide +kernel), ?_⟩
  refine List.forall_mem_cons.mpr ⟨z_ix 986 (by decide +kernel), ?_⟩
  refine List.forall_mem_cons.mpr ⟨z_ix 987 (by decide +kernel), ?_⟩
  refine List.forall_mem_cons.mpr ⟨z_ix 988 (by decide +kernel), ?_⟩
  refine List.forall_mem_cons.mpr ⟨z_ix 989 (by decide +kernel), ?_⟩
  refine List.forall_mem_cons.mpr ⟨z_ix 990 (by decide +kernel), ?_⟩
  refine List.forall_mem_cons.mpr ⟨z_ix 991 (by decide +kernel), ?_⟩
  refine List.forall_mem_cons.mpr ⟨z_ix 992 (by decide +kernel), ?_⟩
  refine List.forall_mem_cons.mpr ⟨z_ix 993 (by decide +kernel), ?_⟩
  refine List.forall_mem_cons.mpr ⟨z_ix 994 (by decide +kernel), ?_⟩
  refine List.forall_mem_cons.mpr ⟨z_ix 995 (by decide +kernel), ?_⟩
  refine List.forall_mem_cons.mpr ⟨z_ix 996 (by decide +kernel), ?_⟩
  refine List.forall_mem_cons.mpr ⟨z_ix 997 (by decide +kernel), ?_⟩
  refine List.forall_mem_cons.mpr ⟨z_ix 998 (by decide +kernel), ?_⟩
  refine List.forall_mem_cons.mpr ⟨z_ix 999 (by decide +kernel), ?_⟩
  refine List.forall_mem_cons.mpr ⟨z_ix 1000 (by decide +kernel), ?_⟩
  refine List.forall_mem_cons.mpr ⟨z_ix 1001 (by decide +kernel), ?_⟩
  refine List.forall_mem_cons.mpr ⟨z_ix 1002 (by decide +kernel), ?_⟩
  refine List.forall_mem_cons.mpr ⟨z_ix 1003 (by decide +kernel), ?_⟩
  refine List.forall_mem_cons.mpr ⟨z_ix 1004 (by decide +kernel), ?_⟩
  refine List.forall_mem_cons.mpr ⟨z_ix 1005 (by decide +kernel), ?_⟩
  refine List.forall_mem_cons.mpr ⟨z_ix 1006 (by decide +kernel), ?_⟩
  refine List.forall_mem_cons.mpr ⟨z_ix 1007 (by decide +kernel), ?_⟩
  refine List.forall_mem_cons.mpr ⟨z_ix 1008 (by decide +kernel), ?_⟩
  refine List.forall_mem_cons.mpr ⟨z_ix 1009 (by decide +kernel), ?_⟩
  refine List.forall_mem_cons.mpr ⟨z_ix 1010 (by decide +kernel), ?_⟩
  refine List.forall_mem_cons.mpr ⟨z_ix 1011 (by decide +kernel), ?_⟩
  refine List.forall_mem_cons.mpr ⟨z_ix 1012 (by decide +kernel), ?_⟩
  refine List.forall_mem_cons.mpr ⟨z_ix 1013 (by decide +kernel), ?_⟩
  refine List.forall_mem_cons.mpr ⟨z_ix 952 (by decide +kernel), ?_⟩
  refine List.forall_mem_cons.mpr ⟨z_ix 967 (by decide +kernel), ?_⟩
  refine List.forall_mem_cons.mpr ⟨z_ix 968 (by decide +kernel), ?_⟩
  refine List.forall_mem_cons.mpr ⟨z_ix 971 (by decide +kernel), ?_⟩
  refine List.forall_mem_cons.mpr ⟨z_ix 970 (by decide +kernel), ?_⟩
  refine List.forall_mem_cons.mpr ⟨z_ix 972 (by decide +kernel), ?_⟩
  refine List.forall_mem_cons.mpr ⟨z_ix 969 (by decide +kernel), ?_⟩
  refine List.forall_mem_cons.mpr ⟨z_ix 966 (by decide +kernel), ?_⟩
  refine List.forall_mem_cons.mpr ⟨z_ix 1015 (by decide +kernel), ?_⟩
  refine List.forall_mem_cons.mpr ⟨z_ix 1016 (by decide +kernel), ?_⟩
  refine List.forall_mem_cons.mpr ⟨z_ix 1017 (by decide +kernel), ?_⟩
  refine List.forall_mem_cons.mpr ⟨z_ix 1018 (by decide +kernel), ?_⟩
  refine List.forall_mem_cons.mpr ⟨z_ix 1014 (by decide +kernel), ?_⟩
  refine List.forall_mem_cons.mpr ⟨z_ix 973 (by decide +kernel), ?_⟩
  exact fun _ h => absurd h List.not_mem_nil
def z_Fk (yk : Nat) : List (Nat × Nat × Nat) := match yk with | 2 => z_Fk_2 | 3 => z_Fk_3 | 4 => z_Fk_4 | 5 => z_Fk_5 | 6 => z_Fk_6 | 7 => z_Fk_7 | 8 => z_Fk_8 | 9 => z_Fk_9 | 10 => z_Fk_10 | 11 => z_Fk_11 | 12 => z_Fk_12 | 13 => z_Fk_13 | 14 => z_Fk_14 | _ => []
theorem z_Fk_ok {yk : Nat} {q : Nat × Nat × Nat} (h : q ∈ z_Fk yk) : Cond.fieldLink (kO yk) q.1 (kT q.2.1 q.2.2).1 (kT q.2.1 q.2.2).2.1 (kT q.2.1 q.2.2).2.2.1 ∈ z_tbl := by
  unfold z_Fk at h
  split at h
  · exact z_Fk_2_ok q h
  · exact z_Fk_3_ok q h
  · exact z_Fk_4_ok q h
  · exact z_Fk_5_ok q h
  · exact z_Fk_6_ok q h
  · exact z_Fk_7_ok q h
  · exact z_Fk_8_ok q h
  · exact z_Fk_9_ok q h
  · exact z_Fk_10_ok q h
  · exact z_Fk_11_ok q h
  · exact z_Fk_12_ok q h
  · exact z_Fk_13_ok q h
  · exact z_Fk_14_ok q h
  · cases h
def z_Lk_3 : List (Nat × Int) := [(29, -100), (31, 300), (52, 1000)]
theorem z_Lk_3_ok : ∀ q ∈ z_Lk_3, Cond.constantLong (kO 3) q.1 (Int64.ofInt q.2) ∈ z_tbl := by
  unfold z_Lk_3
  refine List.forall_mem_cons.mpr ⟨z_ix 759 (by decide +kernel), ?_⟩
  refine List.forall_mem_cons.mpr ⟨z_ix 760 (by decide +kernel), ?_⟩
  refine List.forall_mem_cons.mpr ⟨z_ix 753 (by decide +kernel), ?_⟩
  exact fun _ h => absurd h List.not_mem_nil
def z_Lk_4 : List (Nat × Int) := [(22, 1000)]
theorem z_Lk_4_ok : ∀ q ∈ z_Lk_4, Cond.constantLong (kO 4) q.1 (Int64.ofInt q.2) ∈ z_tbl := by
  unfold z_Lk_4
  refine List.forall_mem_cons.mpr ⟨z_ix 499 (by decide +kernel), ?_⟩
  exact fun _ h => absurd h List.not_mem_nil
def z_Lk_5 : List (Nat × Int) := [(95, 9), (101, 2), (107, 10)]
theorem z_Lk_5_ok : ∀ q ∈ z_Lk_5, Cond.constantLong (kO 5) q.1 (Int64.ofInt q.2) ∈ z_tbl := by
  unfold z_Lk_5
  refine List.forall_mem_cons.mpr ⟨z_ix 740 (by decide +kernel), ?_⟩
  refine List.forall_mem_cons.mpr ⟨z_ix 785 (by decide +kernel), ?_⟩
  refine List.forall_mem_cons.mpr ⟨z_ix 739 (by decide +kernel), ?_⟩
  exact fun _ h => absurd h List.not_mem_nil
def z_Lk_13 : List (Nat × Int) := [(66, 100000), (72, 100), (74, 1000), (76, -100), (78, 300), (123, 99), (125, 5000), (166, -2), (189, -7), (191, -3), (198, -8), (213, 23), (295, 4), (297, -5), (318, 31), (323, -1), (330, 1000000000), (391, 3), (429, 8)]
theorem z_Lk_13_ok : ∀ q ∈ z_Lk_13, Cond.constantLong (kO 13) q.1 (Int64.ofInt q.2) ∈ z_tbl := by
  unfold z_Lk_13
  refine List.forall_mem_cons.mpr ⟨z_ix 353 (by decide +kernel), ?_⟩
  refine List.forall_mem_cons.mpr ⟨z_ix 357 (by decide +kernel), ?_⟩
  refine List.forall_mem_cons.mpr ⟨z_ix 358 (by decide +kernel), ?_⟩
  refine List.forall_mem_cons.mpr ⟨z_ix 359 (by decide +kernel), ?_⟩
  refine List.forall_mem_cons.mpr ⟨z_ix 360 (by decide +kernel), ?_⟩
  refine List.forall_mem_cons.mpr ⟨z_ix 459 (by decide +kernel), ?_⟩
  refine List.forall_mem_cons.mpr ⟨z_ix 460 (by decide +kernel), ?_⟩
  refine List.forall_mem_cons.mpr ⟨z_ix 611 (by decide +kernel), ?_⟩
  refine List.forall_mem_cons.mpr ⟨z_ix 616 (by decide +kernel), ?_⟩
  refine List.forall_mem_cons.mpr ⟨z_ix 617 (by decide +kernel), ?_⟩
  refine List.forall_mem_cons.mpr ⟨z_ix 618 (by decide +kernel), ?_⟩
  refine List.forall_mem_cons.mpr ⟨z_ix 635 (by decide +kernel), ?_⟩
  refine List.forall_mem_cons.mpr ⟨z_ix 802 (by decide +kernel), ?_⟩
  refine List.forall_mem_cons.mpr ⟨z_ix 803 (by decide +kernel), ?_⟩
  refine List.forall_mem_cons.mpr ⟨z_ix 831 (by decide +kernel), ?_⟩
  refine List.forall_mem_cons.mpr ⟨z_ix 836 (by decide +kernel), ?_⟩
  refine List.forall_mem_cons.mpr ⟨z_ix 640 (by decide +kernel), ?_⟩
  refine List.forall_mem_cons.mpr ⟨z_ix 920 (by decide +kernel), ?_⟩
  refine List.forall_mem_cons.mpr ⟨z_ix 710 (by decide +kernel), ?_⟩
  exact fun _ h => absurd h List.not_mem_nil
def z_Lk_14 : List (Nat × Int) := [(175, 3), (189, 100000), (191, 100), (193, 1000), (195, -100), (197, 300), (208, 99), (210, 5000), (256, -2), (258, -7), (260, -3), (262, -8), (271, 1000000000), (273, 23), (279, 8), (281, 10), (317, 2), (319, 9), (321, 4), (323, -5), (327, 9223372036854775807), (332, 31), (334, -1)]
theorem z_Lk_14_ok : ∀ q ∈ z_Lk_14, Cond.constantLong (kO 14) q.1 (Int64.ofInt q.2) ∈ z_tbl := by
  unfold z_Lk_14
  refine List.forall_mem_cons.mpr ⟨z_ix 1162 (by decide +kernel), ?_⟩
  refine List.forall_mem_cons.mpr ⟨z_ix 1185 (by decide +kernel), ?_⟩
  refine List.forall_mem_cons.mpr ⟨z_ix 1186 (by decide +kernel), ?_⟩
  refine List.forall_mem_cons.mpr ⟨z_ix 1187 (by decide +kernel), ?_⟩
  refine List.forall_mem_cons.mpr ⟨z_ix 1188 (by decide +kernel), ?_⟩
  refine List.forall_mem_cons.mpr ⟨z_ix 1189 (by decide +kernel), ?_⟩
  refine List.forall_mem_cons.mpr ⟨z_ix 1206 (by decide +kernel), ?_⟩
  refine List.forall_mem_cons.mpr ⟨z_ix 1207 (by decide +kernel), ?_⟩
  refine List.forall_mem_cons.mpr ⟨z_ix 1244 (by decide +kernel), ?_⟩
  refine List.forall_mem_cons.mpr ⟨z_ix 1245 (by decide +kernel), ?_⟩
  refine List.forall_mem_cons.mpr ⟨z_ix 1246 (by decide +kernel), ?_⟩
  refine List.forall_mem_cons.mpr ⟨z_ix 1247 (by decide +kernel), ?_⟩
  refine List.forall_mem_cons.mpr ⟨z_ix 1269 (by decide +kernel), ?_⟩
  refine List.forall_mem_cons.mpr ⟨z_ix 1264 (by decide +kernel), ?_⟩
  refine List.forall_mem_cons.mpr ⟨z_ix 1278 (by decide +kernel), ?_⟩
  refine List.forall_mem_cons.mpr ⟨z_ix 1291 (by decide +kernel), ?_⟩
  refine List.forall_mem_cons.mpr ⟨z_ix 1303 (by decide +kernel), ?_⟩
  refine List.forall_mem_cons.mpr ⟨z_ix 1304 (by decide +kernel), ?_⟩
  refine List.forall_mem_cons.mpr ⟨z_ix 1317 (by decide +kernel), ?_⟩
  refine List.forall_mem_cons.mpr ⟨z_ix 1318 (by decide +kernel), ?_⟩
  refine List.forall_mem_cons.mpr ⟨z_ix 1319 (by decide +kernel), ?_⟩
  refine List.forall_mem_cons.mpr ⟨z_ix 1328 (by decide +kernel), ?_⟩
  refine List.forall_mem_cons.mpr ⟨z_ix 1333 (by decide +kernel), ?_⟩
  exact fun _ h => absurd h List.not_mem_nil
def z_Lk_16 : List (Nat × Int) := [(50, 4294967295)]
theorem z_Lk_16_ok : ∀ q ∈ z_Lk_16, Cond.constantLong (kO 16) q.1 (Int64.ofInt q.2) ∈ z_tbl := by
  unfold z_Lk_16
  refine List.forall_mem_cons.mpr ⟨z_ix 1394 (by decide +kernel), ?_⟩
  exact fun _ h => absurd h List.not_mem_nil
def z_Lk (yk : Nat) : List (Nat × Int) := match yk with | 3 => z_Lk_3 | 4 => z_Lk_4 | 5 => z_Lk_5 | 13 => z_Lk_13 | 14 => z_Lk_14 | 16 => z_Lk_16 | _ => []
theorem z_Lk_ok {yk : Nat} {q : Nat × Int} (h : q ∈ z_Lk yk) : Cond.constantLong (kO yk) q.1 (Int64.ofInt q.2) ∈ z_tbl := by
  unfold z_Lk at h
  split at h
  · exact z_Lk_3_ok q h
  · exact z_Lk_4_ok q h
  · exact z_Lk_5_ok q h
  · exact z_Lk_13_ok q h
  · exact z_Lk_14_ok q h
  · exact z_Lk_16_ok q h
  · cases h
def z_Nk_5 : List (Nat × Nat) := [(33, 6)]
theorem z_Nk_5_ok : ∀ q ∈ z_Nk_5, Cond.classLink (kO 5) q.1 (kR q.2) ∈ z_tbl := by
  unfold z_Nk_5
  refine List.forall_mem_cons.mpr ⟨z_ix 539 (by decide +kernel), ?_⟩
  exact fun _ h => absurd h List.not_mem_nil
def z_Nk_13 : List (Nat × Nat) := [(7, 11), (38, 10), (45, 5), (52, 3), (59, 12), (109, 4), (114, 2), (169, 9), (227, 8), (309, 7)]
theorem z_Nk_13_ok : ∀ q ∈ z_Nk_13, Cond.classLink (kO 13) q.1 (kR q.2) ∈ z_tbl := by
  unfold z_Nk_13
  refine List.forall_mem_cons.mpr ⟨z_ix 72 (by decide +kernel), ?_⟩
  refine List.forall_mem_cons.mpr ⟨z_ix 141 (by decide +kernel), ?_⟩
  refine List.forall_mem_cons.mpr ⟨z_ix 229 (by decide +kernel), ?_⟩
  refine List.forall_mem_cons.mpr ⟨z_ix 259 (by decide +kernel), ?_⟩
  refine List.forall_mem_cons.mpr ⟨z_ix 286 (by decide +kernel), ?_⟩
  refine List.forall_mem_cons.mpr ⟨z_ix 369 (by decide +kernel), ?_⟩
  refine List.forall_mem_cons.mpr ⟨z_ix 399 (by decide +kernel), ?_⟩
  refine List.forall_mem_cons.mpr ⟨z_ix 500 (by decide +kernel), ?_⟩
  refine List.forall_mem_cons.mpr ⟨z_ix 641 (by decide +kernel), ?_⟩
  refine List.forall_mem_cons.mpr ⟨z_ix 808 (by decide +kernel), ?_⟩
  exact fun _ h => absurd h List.not_mem_nil
def z_Nk_16 : List (Nat × Nat) := [(7, 13), (10, 14)]
theorem z_Nk_16_ok : ∀ q ∈ z_Nk_16, Cond.classLink (kO 16) q.1 (kR q.2) ∈ z_tbl := by
  unfold z_Nk_16
  refine List.forall_mem_cons.mpr ⟨z_ix 64 (by decide +kernel), ?_⟩
  refine List.forall_mem_cons.mpr ⟨z_ix 946 (by decide +kernel), ?_⟩
  exact fun _ h => absurd h List.not_mem_nil
def z_Nk (yk : Nat) : List (Nat × Nat) := match yk with | 5 => z_Nk_5 | 13 => z_Nk_13 | 16 => z_Nk_16 | _ => []
theorem z_Nk_ok {yk : Nat} {q : Nat × Nat} (h : q ∈ z_Nk yk) : Cond.classLink (kO yk) q.1 (kR q.2) ∈ z_tbl := by
  unfold z_Nk at h
  split at h
  · exact z_Nk_5_ok q h
  · exact z_Nk_13_ok q h
  · exact z_Nk_16_ok q h
  · cases h
def z_Pk_2 : List (Nat × Nat) := [(3, 7), (24, 20), (26, 8), (31, 1), (35, 2), (39, 21), (41, 5)]
theorem z_Pk_2_ok : ∀ q ∈ z_Pk_2, z_prim (kO 2) q.1 q.2 ∈ z_tbl := by
  unfold z_Pk_2
  refine List.forall_mem_cons.mpr ⟨z_ix 404 (by decide +kernel), ?_⟩
  refine List.forall_mem_cons.mpr ⟨z_ix 405 (by decide +kernel), ?_⟩
  refine List.forall_mem_cons.mpr ⟨z_ix 406 (by decide +kernel), ?_⟩
  refine List.forall_mem_cons.mpr ⟨z_ix 861 (by decide +kernel), ?_⟩
  refine List.forall_mem_cons.mpr ⟨z_ix 862 (by decide +kernel), ?_⟩
  refine List.forall_mem_cons.mpr ⟨z_ix 863 (by decide +kernel), ?_⟩
  refine List.forall_mem_cons.mpr ⟨z_ix 864 (by decide +kernel), ?_⟩
  exact fun _ h => absurd h List.not_mem_nil
def z_Pk_3 : List (Nat × Nat) := [(1, 7)]
theorem z_Pk_3_ok : ∀ q ∈ z_Pk_3, z_prim (kO 3) q.1 q.2 ∈ z_tbl := by
  unfold z_Pk_3
  refine List.forall_mem_cons.mpr ⟨z_ix 264 (by decide +kernel), ?_⟩
  exact fun _ h => absurd h List.not_mem_nil
def z_Pk_4 : List (Nat × Nat) := [(1, 7)]
theorem z_Pk_4_ok : ∀ q ∈ z_Pk_4, z_prim (kO 4) q.1 q.2 ∈ z_tbl := by
  unfold z_Pk_4
  refine List.forall_mem_cons.mpr ⟨z_ix 374 (by decide +kernel), ?_⟩
  exact fun _ h => absurd h List.not_mem_nil
def z_Pk_5 : List (Nat × Nat) := [(3, 7), (9, 20), (11, 8), (25, 1), (29, 2), (42, 3), (60, 4)]
theorem z_Pk_5_ok : ∀ q ∈ z_Pk_5, z_prim (kO 5) q.1 q.2 ∈ z_tbl := by
  unfold z_Pk_5
  refine List.forall_mem_cons.mpr ⟨z_ix 234 (by decide +kernel), ?_⟩
  refine List.forall_mem_cons.mpr ⟨z_ix 235 (by decide +kernel), ?_⟩
  refine List.forall_mem_cons.mpr ⟨z_ix 236 (by decide +kernel), ?_⟩
  refine List.forall_mem_cons.mpr ⟨z_ix 598 (by decide +kernel), ?_⟩
  refine List.forall_mem_cons.mpr ⟨z_ix 773 (by decide +kernel), ?_⟩
  refine List.forall_mem_cons.mpr ⟨z_ix 565 (by decide +kernel), ?_⟩
  refine List.forall_mem_cons.mpr ⟨z_ix 545 (by decide +kernel), ?_⟩
  exact fun _ h => absurd h List.not_mem_nil
def z_Pk_6 : List (Nat × Nat) := [(3, 7)]
theorem z_Pk_6_ok : ∀ q ∈ z_Pk_6, z_prim (kO 6) q.1 q.2 ∈ z_tbl := by
  unfold z_Pk_6
  refine List.forall_mem_cons.mpr ⟨z_ix 569 (by decide +kernel), ?_⟩
  exact fun _ h => absurd h List.not_mem_nil
def z_Pk_7 : List (Nat × Nat) := [(3, 7)]
theorem z_Pk_7_ok : ∀ q ∈ z_Pk_7, z_prim (kO 7) q.1 q.2 ∈ z_tbl := by
  unfold z_Pk_7
  refine List.forall_mem_cons.mpr ⟨z_ix 813 (by decide +kernel), ?_⟩
  exact fun _ h => absurd h List.not_mem_nil
def z_Pk_8 : List (Nat × Nat) := [(3, 7)]
theorem z_Pk_8_ok : ∀ q ∈ z_Pk_8, z_prim (kO 8) q.1 q.2 ∈ z_tbl := by
  unfold z_Pk_8
  refine List.forall_mem_cons.mpr ⟨z_ix 646 (by decide +kernel), ?_⟩
  exact fun _ h => absurd h List.not_mem_nil
def z_Pk_9 : List (Nat × Nat) := [(3, 7)]
theorem z_Pk_9_ok : ∀ q ∈ z_Pk_9, z_prim (kO 9) q.1 q.2 ∈ z_tbl := by
  unfold z_Pk_9
  refine List.forall_mem_cons.mpr ⟨z_ix 505 (by decide +kernel), ?_⟩
  exact fun _ h => absurd h List.not_mem_nil
def z_Pk_10 : List (Nat × Nat) := [(3, 7)]
theorem z_Pk_10_ok : ∀ q ∈ z_Pk_10, z_prim (kO 10) q.1 q.2 ∈ z_tbl := by
  unfold z_Pk_10
  refine List.forall_mem_cons.mpr ⟨z_ix 146 (by decide +kernel), ?_⟩
  exact fun _ h => absurd h List.not_mem_nil
def z_Pk_11 : List (Nat × Nat) := [(1, 7)]
theorem z_Pk_11_ok : ∀ q ∈ z_Pk_11, z_prim (kO 11) q.1 q.2 ∈ z_tbl := by
  unfold z_Pk_11
  refine List.forall_mem_cons.mpr ⟨z_ix 77 (by decide +kernel), ?_⟩
  exact fun _ h => absurd h List.not_mem_nil
def z_Pk_12 : List (Nat × Nat) := [(3, 7)]
theorem z_Pk_12_ok : ∀ q ∈ z_Pk_12, z_prim (kO 12) q.1 q.2 ∈ z_tbl := by
  unfold z_Pk_12
  refine List.forall_mem_cons.mpr ⟨z_ix 291 (by decide +kernel), ?_⟩
  exact fun _ h => absurd h List.not_mem_nil
def z_Pk_13 : List (Nat × Nat) := [(1, 7), (16, 20), (18, 8), (41, 3), (105, 1), (325, 2), (414, 6)]
theorem z_Pk_13_ok : ∀ q ∈ z_Pk_13, z_prim (kO 13) q.1 q.2 ∈ z_tbl := by
  unfold z_Pk_13
  refine List.forall_mem_cons.mpr ⟨z_ix 69 (by decide +kernel), ?_⟩
  refine List.forall_mem_cons.mpr ⟨z_ix 115 (by decide +kernel), ?_⟩
  refine List.forall_mem_cons.mpr ⟨z_ix 117 (by decide +kernel), ?_⟩
  refine List.forall_mem_cons.mpr ⟨z_ix 167 (by decide +kernel), ?_⟩
  refine List.forall_mem_cons.mpr ⟨z_ix 365 (by decide +kernel), ?_⟩
  refine List.forall_mem_cons.mpr ⟨z_ix 445 (by decide +kernel), ?_⟩
  refine List.forall_mem_cons.mpr ⟨z_ix 945 (by decide +kernel), ?_⟩
  exact fun _ h => absurd h List.not_mem_nil
def z_Pk_14 : List (Nat × Nat) := [(1, 7)]
theorem z_Pk_14_ok : ∀ q ∈ z_Pk_14, z_prim (kO 14) q.1 q.2 ∈ z_tbl := by
  unfold z_Pk_14
  refine List.forall_mem_cons.mpr ⟨z_ix 951 (by decide +kernel), ?_⟩
  exact fun _ h => absurd h List.not_mem_nil
def z_Pk (yk : Nat) : List (Nat × Nat) := match yk with | 2 => z_Pk_2 | 3 => z_Pk_3 | 4 => z_Pk_4 | 5 => z_Pk_5 | 6 => z_Pk_6 | 7 => z_Pk_7 | 8 => z_Pk_8 | 9 => z_Pk_9 | 10 => z_Pk_10 | 11 => z_Pk_11 | 12 => z_Pk_12 | 13 => z_Pk_13 | 14 => z_Pk_14 | _ => []
theorem z_Pk_ok {yk : Nat} {q : Nat × Nat} (h : q ∈ z_Pk yk) : z_prim (kO yk) q.1 q.2 ∈ z_tbl := by
  unfold z_Pk at h
  split at h
  · exact z_Pk_2_ok q h
  · exact z_Pk_3_ok q h
  · exact z_Pk_4_ok q h
  · exact z_Pk_5_ok q h
  · exact z_Pk_6_ok q h
  · exact z_Pk_7_ok q h
  · exact z_Pk_8_ok q h
  · exact z_Pk_9_ok q h
  · exact z_Pk_10_ok q h
  · exact z_Pk_11_ok q h
  · exact z_Pk_12_ok q h
  · exact z_Pk_13_ok q h
  · exact z_Pk_14_ok q h
  · cases h
theorem z_new_ok {K : Nat} (h : z_obj K = true) : Cond.instantiable (kR K) (kF K) ∈ z_tbl ∧ Cond.initialized (kR K) ∈ z_tbl := by
  have h2 : K = 2 ∨ K = 3 ∨ K = 4 ∨ K = 5 ∨ K = 6 ∨ K = 7 ∨ K = 8 ∨ K = 9 ∨ K = 10 ∨ K = 11 ∨ K = 12 ∨ K = 13 ∨ K = 14 := by
    simp only [z_obj, Bool.and_eq_true, decide_eq_true_eq] at h
    omega
  rcases h2 with rfl | rfl | rfl | rfl | rfl | rfl | rfl | rfl | rfl | rfl | rfl | rfl | rfl
  · exact ⟨z_ix 400 (by decide +kernel), z_ix 54 (by decide +kernel)⟩
  · exact ⟨z_ix 260 (by decide +kernel), z_ix 50 (by decide +kernel)⟩
  · exact ⟨z_ix 370 (by decide +kernel), z_ix 53 (by decide +kernel)⟩
  · exact ⟨z_ix 230 (by decide +kernel), z_ix 49 (by decide +kernel)⟩
  · exact ⟨z_ix 540 (by decide +kernel), z_ix 58 (by decide +kernel)⟩
  · exact ⟨z_ix 809 (by decide +kernel), z_ix 63 (by decide +kernel)⟩
  · exact ⟨z_ix 642 (by decide +kernel), z_ix 62 (by decide +kernel)⟩
  · exact ⟨z_ix 501 (by decide +kernel), z_ix 57 (by decide +kernel)⟩
  · exact ⟨z_ix 142 (by decide +kernel), z_ix 44 (by decide +kernel)⟩
  · exact ⟨z_ix 73 (by decide +kernel), z_ix 40 (by decide +kernel)⟩
  · exact ⟨z_ix 287 (by decide +kernel), z_ix 51 (by decide +kernel)⟩
  · exact ⟨z_ix 65 (by decide +kernel), z_ix 39 (by decide +kernel)⟩
  · exact ⟨z_ix 947 (by decide +kernel), z_ix 52 (by decide +kernel)⟩
theorem z_obj_ok : Cond.instanceMethod Lib.objectInit ∈ z_tbl ∧ Cond.code Lib.objectInit ⟨#[0xb1]⟩ 1 none ∈ z_tbl := ⟨z_ix 70 (by decide +kernel), z_ix 71 (by decide +kernel)⟩
theorem z_arrc_ok (c : Nat) : Cond.arrayClass (aTy c) ∈ z_tbl := by
  unfold aTy
  split
  · exact z_ix 258 (by decide +kernel)
  · exact z_ix 166 (by decide +kernel)
  · exact z_ix 1154 (by decide +kernel)
end
section
/-- an instruction, its length, and what its entry stands for -/
abbrev z_E : Type := Instr × Nat × Nat × Nat × Int
/-- a call's words: kd 0 virtual, 1 static, 2 <init>; n arguments, the receiver among them -/
def z_cq (kd : Nat) (y : MethodName) (cc : ByteArray) (mL : Nat) (rt : Option FieldType) (n : Nat) : Prop :=
  Cond.code y cc mL rt ∈ z_tbl ∧ Cond.initialized y.cls ∈ z_tbl ∧ (y.cls ≠ "java/lang/invoke/MethodHandle" ∧ y.cls ≠ "java/lang/invoke/VarHandle" ∧ (parseMethodDescriptor y.desc).map (fun d => d.parameters.length) = some (if kd = 1 then n else n - 1)) ∧ mL ≤ 21 ∧
  (match kd with
    | 0 => Cond.instanceMethod y ∈ z_tbl ∧ Cond.selects y.cls y y ∈ z_tbl
    | 1 => Cond.static y ∈ z_tbl
    | _ => Cond.instanceMethod y ∈ z_tbl ∧ y.name = "<init>" ∧ rt = none)
def z_ck (own : String) (idx kd : Nat) (y : MethodName) (cc : ByteArray) (mL : Nat) (rt : Option FieldType) (n : Nat) : Prop := z_cq kd y cc mL rt n ∧ Cond.methodLink own idx y ∈ z_tbl
/-! what is checked of each instruction, and the small machine's step against the machine's -/
def z_dl (e : z_E) : Nat := match e with | (.new _, _, _, 1, _) => 3 | (.invokestatic _, _, _, 10, _) => 3 | (.invokevirtual _, _, _, 11, _) => 3 | (_, n, _, _, _) => n
def z_at (cc : ByteArray) (pc : Nat) (i : Instr) (n : Nat) : Bool := match decode cc pc with | .ok q => decide (q = (i, n)) | _ => false
theorem z_at_e {cc : ByteArray} {pc : Nat} {i : Instr} {n : Nat} (h : z_at cc pc i n = true) : decode cc pc = .ok (i, n) := by
  unfold z_at at h
  split at h
  · rename_i q hq
    rw [hq, of_decide_eq_true h]
  · cases h
def z_exB (yk : Nat) (ini : Bool) (cc : ByteArray) (nL pc : Nat) (e : z_E) : Bool := match e with
  | (.aconst_null, n, _, _, _) => n == 1
  | (.dup, n, _, _, _) => n == 1
  | (.pop, n, _, _, _) => n == 1
  | (.dup2, n, _, _, _) => n == 1
  | (.iadd, n, _, _, _) => n == 1
  | (.isub, n, _, _, _) => n == 1
  | (.imul, n, _, _, _) => n == 1
  | (.iand, n, _, _, _) => n == 1
  | (.iushr, n, _, _, _) => n == 1
  | (.ineg, n, _, _, _) => n == 1
  | (.ladd, n, _, _, _) => n == 1
  | (.lsub, n, _, _, _) => n == 1
  | (.lmul, n, _, _, _) => n == 1
  | (.land, n, _, _, _) => n == 1
  | (.lor, n, _, _, _) => n == 1
  | (.ldiv, n, _, _, _) => n == 1
  | (.lrem, n, _, _, _) => n == 1
  | (.lneg, n, _, _, _) => n == 1
  | (.lshl, n, _, _, _) => n == 1
  | (.i2l, n, _, _, _) => n == 1
  | (.l2i, n, _, _, _) => n == 1
  | (.i2b, n, _, _, _) => n == 1
  | (.i2s, n, _, _, _) => n == 1
  | (.lcmp, n, _, _, _) => n == 1
  | (.arraylength, n, _, _, _) => n == 1
  | (.iaload, n, _, _, _) => n == 1
  | (.baload, n, _, _, _) => n == 1
  | (.laload, n, _, _, _) => n == 1
  | (.iastore, n, _, _, _) => n == 1
  | (.bastore, n, _, _, _) => n == 1
  | (.lastore, n, _, _, _) => n == 1
  | (.ireturn, n, _, _, _) => n == 1
  | (.lreturn, n, _, _, _) => n == 1
  | (.areturn, n, _, _, _) => n == 1
  | (.return_, n, _, _, _) => n == 1
  | (.iconst _, n, _, _, _) => n == 1
  | (.lconst _, n, _, _, _) => n == 1
  | (.iload _, n, _, _, _) => n == 2
  | (.iload_n _, n, _, _, _) => n == 1
  | (.lload _, n, _, _, _) => n == 2
  | (.lload_n _, n, _, _, _) => n == 1
  | (.aload _, n, _, _, _) => n == 2
  | (.aload_n _, n, _, _, _) => n == 1
  | (.bipush v, n, _, _, _) => n == 2 && decide ((Int8.ofInt v).toInt32 = Int32.ofInt v)
  | (.sipush v, n, _, _, _) => n == 3 && decide ((Int16.ofInt v).toInt32 = Int32.ofInt v)
  | (.ldc i, n, _, _, z) => n == 2 && false
  | (.ldc2_w i, n, _, _, z) => n == 3 && decide ((i, z) ∈ z_Lk yk)
  | (.istore i, n, _, _, _) => n == 2 && decide (i < nL)
  | (.istore_n i, n, _, _, _) => n == 1 && decide ((i : Nat) < nL)
  | (.lstore i, n, _, _, _) => n == 2 && decide (i + 1 < nL)
  | (.lstore_n i, n, _, _, _) => n == 1 && decide ((i : Nat) + 1 < nL)
  | (.astore i, n, _, _, _) => n == 2 && decide (i < nL)
  | (.astore_n i, n, _, _, _) => n == 1 && decide ((i : Nat) < nL)
  | (.iinc i _, n, _, _, _) => n == 3 && decide (i < nL)
  | (.if_icmp _ off, n, t, _, _) => n == 3 && decide ((pc : Int) + off = (t : Int))
  | (.ifCond _ off, n, t, _, _) => n == 3 && decide ((pc : Int) + off = (t : Int))
  | (.ifnull off, n, t, _, _) => n == 3 && decide ((pc : Int) + off = (t : Int))
  | (.ifnonnull off, n, t, _, _) => n == 3 && decide ((pc : Int) + off = (t : Int))
  | (.goto off, n, t, _, _) => n == 3 && decide ((pc : Int) + off = (t : Int))
  | (.tableswitch dflt lo hi offs, _, t, _, _) => t == pc && decide (0 ≤ (pc : Int) + dflt) && offs.toList.all (fun o => decide (0 ≤ (pc : Int) + o)) && decide (hi - lo + 1 = (offs.size : Int))
  | (.lookupswitch dflt ps, _, t, _, _) => t == pc && decide (0 ≤ (pc : Int) + dflt) && ps.toList.all (fun o => decide (0 ≤ (pc : Int) + o.2)) && (ps.toList.zip (ps.toList.drop 1)).all (fun (a, next) => a.1 < next.1)
  | (.getfield i, n, K, f, z) => n == 3 && z_obj K && decide (f < kF K) && decide (z = ((z_fc (kY K f) : Nat) : Int)) && decide ((i, K, f) ∈ z_Fk yk)
  | (.putfield i, n, K, f, z) => n == 3 && z_obj K && decide (f < kF K) && decide (z = ((z_fc (kY K f) : Nat) : Int)) && decide ((i, K, f) ∈ z_Fk yk) && (!(kT K f).2.2.2 || (ini && yk == K))
  | (.new i, n, K, 0, _) => n == 3 && z_obj K && decide ((i, K) ∈ z_Nk yk)
  | (.new i, n, K, 1, z) => n == 7 && z_lst K && decide ((i, 20) ∈ z_Pk yk) && z_at cc (pc + 3) .dup 1 && z_at cc (pc + 4) (.invokespecial z.toNat) 3 && decide ((z.toNat, 8) ∈ z_Pk yk)
  | (.newarray t, n, K, _, _) => n == 2 && decide (aLen K ≠ 0) && decide (newarray.typeOf t = aTy (aCod K))
  | (.checkcast i, n, K, _, _) => n == 3 && z_obj K && decide ((i, K) ∈ z_Nk yk)
  | (.invokevirtual _, n, _, 0, _) => n == 3
  | (.invokestatic _, n, _, 0, _) => n == 3
  | (.invokespecial _, n, _, 0, _) => n == 3
  | (.invokespecial i, n, _, 7, _) => n == 3 && decide ((i, 7) ∈ z_Pk yk)
  | (.invokevirtual i, n, _, 1, _) => n == 3 && decide ((i, 1) ∈ z_Pk yk)
  | (.invokevirtual i, n, _, 2, _) => n == 3 && decide ((i, 2) ∈ z_Pk yk)
  | (.invokevirtual i, n, _, 3, _) => n == 3 && decide ((i, 3) ∈ z_Pk yk)
  | (.invokestatic i, n, j, 10, _) => n == 6 && decide ((i, 4) ∈ z_Pk yk) && z_at cc (pc + 3) (.invokevirtual j) 3 && decide ((j, 3) ∈ z_Pk yk)
  | (.invokevirtual i, n, j, 11, z) => n == 9 && decide ((i, 2) ∈ z_Pk yk) && z_at cc (pc + 3) (.checkcast j) 3 && decide ((j, 21) ∈ z_Pk yk) && z_at cc (pc + 6) (.invokevirtual z.toNat) 3 && decide ((z.toNat, 5) ∈ z_Pk yk)
  | (.invokestatic i, n, _, 6, _) => n == 3 && decide ((i, 6) ∈ z_Pk yk)
  | _ => false
def z_chk (yk : Nat) (ini : Bool) (cc : ByteArray) (nL : Nat) : Nat → List z_E → Nat → Bool
  | pc, [], ep => pc == ep
  | pc, e :: r, ep => z_at cc pc e.1 (z_dl e) && z_exB yk ini cc nL pc e && z_chk yk ini cc nL (pc + e.2.1) r ep
end
section
def b_X12_init_0 : List z_E := [(.aload_n 0, 1, 0, 0, 0), (.invokespecial 1, 3, 0, 7, 0), (.aload_n 0, 1, 0, 0, 0), (.iconst 4, 1, 0, 0, 0), (.newarray .int, 2, 301, 0, 0), (.dup, 1, 0, 0, 0), (.iconst 0, 1, 0, 0, 0), (.iconst (-1), 1, 0, 0, 0), (.iastore, 1, 0, 0, 0), (.dup, 1, 0, 0, 0), (.iconst 1, 1, 0, 0, 0), (.iconst (-1), 1, 0, 0, 0), (.iastore, 1, 0, 0, 0), (.dup, 1, 0, 0, 0), (.iconst 2, 1, 0, 0, 0), (.iconst (-1), 1, 0, 0, 0), (.iastore, 1, 0, 0, 0), (.dup, 1, 0, 0, 0), (.iconst 3, 1, 0, 0, 0), (.iconst (-1), 1, 0, 0, 0), (.iastore, 1, 0, 0, 0), (.putfield 9, 3, 14, 1, 2), (.aload_n 0, 1, 0, 0, 0), (.iconst 4, 1, 0, 0, 0), (.newarray .int, 2, 302, 0, 0), (.putfield 13, 3, 14, 2, 2), (.aload_n 0, 1, 0, 0, 0), (.sipush 240, 3, 0, 0, 0), (.newarray .long, 2, 303, 0, 0), (.putfield 16, 3, 14, 3, 2), (.aload_n 0, 1, 0, 0, 0), (.bipush 60, 2, 0, 0, 0), (.newarray .long, 2, 304, 0, 0), (.putfield 20, 3, 14, 4, 2), (.aload_n 0, 1, 0, 0, 0), (.sipush 1000, 3, 0, 0, 0), (.putfield 23, 3, 14, 5, 0), (.aload_n 0, 1, 0, 0, 0), (.iconst 5, 1, 0, 0, 0), (.putfield 27, 3, 14, 6, 0)]
theorem k_X12_init_0 : z_chk 14 true cX12_init 2 0 b_X12_init_0 63 = true := by decide +kernel
def b_X12_init_63 : List z_E := [(.aload_n 0, 1, 0, 0, 0), (.sipush 180, 3, 0, 0, 0), (.putfield 30, 3, 14, 7, 0), (.aload_n 0, 1, 0, 0, 0), (.iconst 3, 1, 0, 0, 0), (.putfield 33, 3, 14, 8, 0), (.aload_n 0, 1, 0, 0, 0), (.bipush 10, 2, 0, 0, 0), (.putfield 36, 3, 14, 9, 0), (.aload_n 0, 1, 0, 0, 0), (.iconst 5, 1, 0, 0, 0), (.putfield 39, 3, 14, 10, 0), (.aload_n 0, 1, 0, 0, 0), (.bipush 30, 2, 0, 0, 0), (.putfield 42, 3, 14, 11, 0), (.aload_n 0, 1, 0, 0, 0), (.bipush 60, 2, 0, 0, 0), (.putfield 45, 3, 14, 12, 0)]
theorem k_X12_init_63 : z_chk 14 true cX12_init 2 63 b_X12_init_63 98 = true := by decide +kernel
def b_X12_init_98 : List z_E := [(.aload_n 0, 1, 0, 0, 0), (.bipush 40, 2, 0, 0, 0), (.putfield 48, 3, 14, 13, 0), (.aload_n 0, 1, 0, 0, 0), (.bipush 6, 2, 0, 0, 0), (.newarray .int, 2, 322, 0, 0), (.putfield 51, 3, 14, 22, 2), (.aload_n 0, 1, 0, 0, 0), (.bipush 6, 2, 0, 0, 0), (.newarray .int, 2, 323, 0, 0), (.putfield 54, 3, 14, 23, 2), (.aload_n 0, 1, 0, 0, 0), (.bipush 6, 2, 0, 0, 0), (.newarray .int, 2, 324, 0, 0), (.putfield 57, 3, 14, 24, 2), (.aload_n 0, 1, 0, 0, 0), (.bipush 6, 2, 0, 0, 0), (.newarray .long, 2, 325, 0, 0), (.putfield 60, 3, 14, 25, 2), (.aload_n 0, 1, 0, 0, 0), (.bipush 6, 2, 0, 0, 0), (.newarray .long, 2, 326, 0, 0), (.putfield 63, 3, 14, 26, 2)]
theorem k_X12_init_98 : z_chk 14 true cX12_init 2 98 b_X12_init_98 144 = true := by decide +kernel
def b_X12_init_144 : List z_E := [(.aload_n 0, 1, 0, 0, 0), (.bipush 24, 2, 0, 0, 0), (.newarray .long, 2, 327, 0, 0), (.putfield 66, 3, 14, 27, 2), (.aload_n 0, 1, 0, 0, 0), (.bipush 24, 2, 0, 0, 0), (.newarray .int, 2, 328, 0, 0), (.putfield 69, 3, 14, 28, 2), (.aload_n 0, 1, 0, 0, 0), (.bipush 24, 2, 0, 0, 0), (.newarray .int, 2, 329, 0, 0), (.putfield 72, 3, 14, 29, 2), (.aload_n 0, 1, 0, 0, 0), (.sipush 200, 3, 0, 0, 0), (.newarray .int, 2, 330, 0, 0), (.putfield 75, 3, 14, 30, 2), (.aload_n 0, 1, 0, 0, 0), (.sipush 200, 3, 0, 0, 0), (.newarray .int, 2, 331, 0, 0), (.putfield 78, 3, 14, 31, 2), (.aload_n 0, 1, 0, 0, 0), (.sipush 200, 3, 0, 0, 0), (.newarray .int, 2, 332, 0, 0), (.putfield 81, 3, 14, 32, 2)]
theorem k_X12_init_144 : z_chk 14 true cX12_init 2 144 b_X12_init_144 195 = true := by decide +kernel
def b_X12_init_195 : List z_E := [(.aload_n 0, 1, 0, 0, 0), (.sipush 200, 3, 0, 0, 0), (.newarray .int, 2, 333, 0, 0), (.putfield 84, 3, 14, 33, 2), (.aload_n 0, 1, 0, 0, 0), (.sipush 200, 3, 0, 0, 0), (.newarray .int, 2, 334, 0, 0), (.putfield 87, 3, 14, 34, 2), (.aload_n 0, 1, 0, 0, 0), (.sipush 200, 3, 0, 0, 0), (.newarray .long, 2, 335, 0, 0), (.putfield 90, 3, 14, 35, 2), (.aload_n 0, 1, 0, 0, 0), (.sipush 200, 3, 0, 0, 0), (.newarray .long, 2, 336, 0, 0), (.putfield 93, 3, 14, 36, 2), (.aload_n 0, 1, 0, 0, 0), (.sipush 300, 3, 0, 0, 0), (.newarray .int, 2, 337, 0, 0), (.putfield 96, 3, 14, 37, 2), (.aload_n 0, 1, 0, 0, 0), (.sipush 300, 3, 0, 0, 0), (.newarray .int, 2, 338, 0, 0), (.putfield 99, 3, 14, 38, 2)]
theorem k_X12_init_195 : z_chk 14 true cX12_init 2 195 b_X12_init_195 249 = true := by decide +kernel
def b_X12_init_249 : List z_E := [(.aload_n 0, 1, 0, 0, 0), (.sipush 300, 3, 0, 0, 0), (.newarray .int, 2, 339, 0, 0), (.putfield 102, 3, 14, 39, 2), (.aload_n 0, 1, 0, 0, 0), (.sipush 300, 3, 0, 0, 0), (.newarray .int, 2, 340, 0, 0), (.putfield 105, 3, 14, 40, 2), (.aload_n 0, 1, 0, 0, 0), (.sipush 300, 3, 0, 0, 0), (.newarray .int, 2, 341, 0, 0), (.putfield 108, 3, 14, 41, 2), (.aload_n 0, 1, 0, 0, 0), (.sipush 300, 3, 0, 0, 0), (.newarray .int, 2, 342, 0, 0), (.putfield 111, 3, 14, 42, 2), (.aload_n 0, 1, 0, 0, 0), (.sipush 300, 3, 0, 0, 0), (.newarray .int, 2, 343, 0, 0), (.putfield 114, 3, 14, 43, 2), (.aload_n 0, 1, 0, 0, 0), (.sipush 300, 3, 0, 0, 0), (.newarray .int, 2, 344, 0, 0), (.putfield 117, 3, 14, 44, 2)]
theorem k_X12_init_249 : z_chk 14 true cX12_init 2 249 b_X12_init_249 303 = true := by decide +kernel
def b_X12_init_303 : List z_E := [(.aload_n 0, 1, 0, 0, 0), (.sipush 300, 3, 0, 0, 0), (.newarray .int, 2, 345, 0, 0), (.putfield 120, 3, 14, 45, 2), (.aload_n 0, 1, 0, 0, 0), (.sipush 300, 3, 0, 0, 0), (.newarray .int, 2, 346, 0, 0), (.putfield 123, 3, 14, 46, 2), (.aload_n 0, 1, 0, 0, 0), (.sipush 300, 3, 0, 0, 0), (.newarray .long, 2, 347, 0, 0), (.putfield 126, 3, 14, 47, 2), (.aload_n 0, 1, 0, 0, 0), (.sipush 300, 3, 0, 0, 0), (.newarray .boolean, 2, 348, 0, 0), (.putfield 129, 3, 14, 48, 2), (.aload_n 0, 1, 0, 0, 0), (.sipush 2000, 3, 0, 0, 0), (.newarray .int, 2, 349, 0, 0), (.putfield 133, 3, 14, 49, 2), (.aload_n 0, 1, 0, 0, 0), (.sipush 2000, 3, 0, 0, 0), (.newarray .int, 2, 350, 0, 0), (.putfield 136, 3, 14, 50, 2)]
theorem k_X12_init_303 : z_chk 14 true cX12_init 2 303 b_X12_init_303 357 = true := by decide +kernel
def b_X12_init_357 : List z_E := [(.aload_n 0, 1, 0, 0, 0), (.sipush 2000, 3, 0, 0, 0), (.newarray .int, 2, 351, 0, 0), (.putfield 139, 3, 14, 51, 2), (.aload_n 0, 1, 0, 0, 0), (.sipush 2000, 3, 0, 0, 0), (.newarray .int, 2, 352, 0, 0), (.putfield 142, 3, 14, 52, 2), (.aload_n 0, 1, 0, 0, 0), (.sipush 2000, 3, 0, 0, 0), (.newarray .int, 2, 353, 0, 0), (.putfield 145, 3, 14, 53, 2), (.aload_n 0, 1, 0, 0, 0), (.sipush 2000, 3, 0, 0, 0), (.newarray .long, 2, 354, 0, 0), (.putfield 148, 3, 14, 54, 2), (.aload_n 0, 1, 0, 0, 0), (.sipush 2000, 3, 0, 0, 0), (.newarray .int, 2, 355, 0, 0), (.putfield 151, 3, 14, 55, 2), (.aload_n 0, 1, 0, 0, 0), (.sipush 2000, 3, 0, 0, 0), (.newarray .int, 2, 356, 0, 0), (.putfield 154, 3, 14, 56, 2)]
theorem k_X12_init_357 : z_chk 14 true cX12_init 2 357 b_X12_init_357 411 = true := by decide +kernel
def b_X12_init_411 : List z_E := [(.aload_n 0, 1, 0, 0, 0), (.bipush 20, 2, 0, 0, 0), (.newarray .int, 2, 357, 0, 0), (.putfield 157, 3, 14, 57, 2), (.aload_n 0, 1, 0, 0, 0), (.sipush 640, 3, 0, 0, 0), (.newarray .int, 2, 358, 0, 0), (.putfield 160, 3, 14, 58, 2), (.aload_n 0, 1, 0, 0, 0), (.bipush 20, 2, 0, 0, 0), (.newarray .long, 2, 359, 0, 0), (.putfield 163, 3, 14, 59, 2), (.aload_n 0, 1, 0, 0, 0), (.sipush 2000, 3, 0, 0, 0), (.newarray .int, 2, 360, 0, 0), (.putfield 166, 3, 14, 60, 2), (.aload_n 0, 1, 0, 0, 0), (.sipush 2000, 3, 0, 0, 0), (.newarray .int, 2, 361, 0, 0), (.putfield 169, 3, 14, 61, 2), (.iconst 0, 1, 0, 0, 0), (.istore_n 1, 1, 0, 0, 0)]
theorem k_X12_init_411 : z_chk 14 true cX12_init 2 411 b_X12_init_411 456 = true := by decide +kernel
def b_X12_init_456 : List z_E := [(.iload_n 1, 1, 0, 0, 0), (.bipush 24, 2, 0, 0, 0), (.if_icmp .ge 16, 3, 475, 0, 0), (.aload_n 0, 1, 0, 0, 0), (.getfield 69, 3, 14, 28, 2), (.iload_n 1, 1, 0, 0, 0), (.iconst (-1), 1, 0, 0, 0), (.iastore, 1, 0, 0, 0), (.iinc 1 1, 3, 0, 0, 0), (.goto (-16), 3, 456, 0, 0)]
theorem k_X12_init_456 : z_chk 14 true cX12_init 2 456 b_X12_init_456 475 = true := by decide +kernel
def b_X12_init_475 : List z_E := [(.return_, 1, 0, 0, 0)]
theorem k_X12_init_475 : z_chk 14 true cX12_init 2 475 b_X12_init_475 476 = true := by decide +kernel
def b_X12_in_0 : List z_E := [(.lload_n 0, 1, 0, 0, 0), (.lload_n 2, 1, 0, 0, 0), (.lcmp, 1, 0, 0, 0), (.ifCond .lt 14, 3, 17, 0, 0), (.lload_n 0, 1, 0, 0, 0), (.lload 4, 2, 0, 0, 0), (.lcmp, 1, 0, 0, 0), (.ifCond .gt 7, 3, 17, 0, 0), (.iconst 1, 1, 0, 0, 0), (.goto 4, 3, 18, 0, 0)]
theorem k_X12_in_0 : z_chk 14 false cX12_in 6 0 b_X12_in_0 17 = true := by decide +kernel
def b_X12_in_17 : List z_E := [(.iconst 0, 1, 0, 0, 0)]
theorem k_X12_in_17 : z_chk 14 false cX12_in 6 17 b_X12_in_17 18 = true := by decide +kernel
def b_X12_in_18 : List z_E := [(.ireturn, 1, 0, 0, 0)]
theorem k_X12_in_18 : z_chk 14 false cX12_in 6 18 b_X12_in_18 19 = true := by decide +kernel
def b_X12_isSlot_0 : List z_E := [(.iload_n 0, 1, 0, 0, 0), (.i2l, 1, 0, 0, 0), (.lconst 0, 1, 0, 0, 0), (.ldc2_w 175, 3, 0, 0, 3), (.invokestatic 177, 3, 3, 0, 0), (.ireturn, 1, 0, 0, 0)]
theorem k_X12_isSlot_0 : z_chk 14 false cX12_isSlot 1 0 b_X12_isSlot_0 10 = true := by decide +kernel
def b_X12_cut_0 : List z_E := [(.iload_n 0, 1, 0, 0, 0), (.ifCond .ne 10, 3, 11, 0, 0), (.lload_n 1, 1, 0, 0, 0), (.l2i, 1, 0, 0, 0), (.i2b, 1, 0, 0, 0), (.i2l, 1, 0, 0, 0), (.goto 27, 3, 35, 0, 0)]
theorem k_X12_cut_0 : z_chk 14 false cX12_cut 3 0 b_X12_cut_0 11 = true := by decide +kernel
def b_X12_cut_11 : List z_E := [(.iload_n 0, 1, 0, 0, 0), (.iconst 1, 1, 0, 0, 0), (.if_icmp .ne 10, 3, 23, 0, 0), (.lload_n 1, 1, 0, 0, 0), (.l2i, 1, 0, 0, 0), (.i2s, 1, 0, 0, 0), (.i2l, 1, 0, 0, 0), (.goto 15, 3, 35, 0, 0)]
theorem k_X12_cut_11 : z_chk 14 false cX12_cut 3 11 b_X12_cut_11 23 = true := by decide +kernel
def b_X12_cut_23 : List z_E := [(.iload_n 0, 1, 0, 0, 0), (.iconst 2, 1, 0, 0, 0), (.if_icmp .ne 9, 3, 34, 0, 0), (.lload_n 1, 1, 0, 0, 0), (.l2i, 1, 0, 0, 0), (.i2l, 1, 0, 0, 0), (.goto 4, 3, 35, 0, 0)]
theorem k_X12_cut_23 : z_chk 14 false cX12_cut 3 23 b_X12_cut_23 34 = true := by decide +kernel
def b_X12_cut_34 : List z_E := [(.lload_n 1, 1, 0, 0, 0)]
theorem k_X12_cut_34 : z_chk 14 false cX12_cut 3 34 b_X12_cut_34 35 = true := by decide +kernel
def b_X12_cut_35 : List z_E := [(.lreturn, 1, 0, 0, 0)]
theorem k_X12_cut_35 : z_chk 14 false cX12_cut 3 35 b_X12_cut_35 36 = true := by decide +kernel
def b_X12_row_0 : List z_E := [(.aload_n 0, 1, 0, 0, 0), (.iconst 0, 1, 0, 0, 0), (.putfield 172, 3, 14, 0, 0), (.iload_n 1, 1, 0, 0, 0), (.invokestatic 181, 3, 1, 0, 0), (.ifCond .eq 21, 3, 30, 0, 0), (.iload_n 2, 1, 0, 0, 0), (.i2l, 1, 0, 0, 0), (.lconst 0, 1, 0, 0, 0), (.ldc2_w 175, 3, 0, 0, 3), (.invokestatic 177, 3, 3, 0, 0), (.ifCond .eq 9, 3, 30, 0, 0), (.iload_n 3, 1, 0, 0, 0), (.bipush 60, 2, 0, 0, 0), (.if_icmp .le 6, 3, 33, 0, 0)]
theorem k_X12_row_0 : z_chk 14 false cX12_row 5 0 b_X12_row_0 30 = true := by decide +kernel
def b_X12_row_30 : List z_E := [(.bipush (-2), 2, 0, 0, 0), (.ireturn, 1, 0, 0, 0)]
theorem k_X12_row_30 : z_chk 14 false cX12_row 5 30 b_X12_row_30 33 = true := by decide +kernel
def b_X12_row_33 : List z_E := [(.iload_n 3, 1, 0, 0, 0), (.ifCond .ge 6, 3, 40, 0, 0), (.bipush (-3), 2, 0, 0, 0), (.ireturn, 1, 0, 0, 0)]
theorem k_X12_row_33 : z_chk 14 false cX12_row 5 33 b_X12_row_33 40 = true := by decide +kernel
def b_X12_row_40 : List z_E := [(.aload_n 0, 1, 0, 0, 0), (.getfield 9, 3, 14, 1, 2), (.iload_n 1, 1, 0, 0, 0), (.iload_n 2, 1, 0, 0, 0), (.iastore, 1, 0, 0, 0), (.aload_n 0, 1, 0, 0, 0), (.getfield 13, 3, 14, 2, 2), (.iload_n 1, 1, 0, 0, 0), (.iload_n 3, 1, 0, 0, 0), (.iastore, 1, 0, 0, 0), (.iconst 0, 1, 0, 0, 0), (.istore 4, 2, 0, 0, 0)]
theorem k_X12_row_40 : z_chk 14 false cX12_row 5 40 b_X12_row_40 57 = true := by decide +kernel
def b_X12_row_57 : List z_E := [(.iload 4, 2, 0, 0, 0), (.bipush 60, 2, 0, 0, 0), (.if_icmp .ge 22, 3, 83, 0, 0), (.aload_n 0, 1, 0, 0, 0), (.getfield 16, 3, 14, 3, 2), (.bipush 60, 2, 0, 0, 0), (.iload_n 1, 1, 0, 0, 0), (.imul, 1, 0, 0, 0), (.iload 4, 2, 0, 0, 0), (.iadd, 1, 0, 0, 0), (.lconst 0, 1, 0, 0, 0), (.lastore, 1, 0, 0, 0), (.iinc 4 1, 3, 0, 0, 0), (.goto (-23), 3, 57, 0, 0)]
theorem k_X12_row_57 : z_chk 14 false cX12_row 5 57 b_X12_row_57 83 = true := by decide +kernel
def b_X12_row_83 : List z_E := [(.iconst 0, 1, 0, 0, 0), (.ireturn, 1, 0, 0, 0)]
theorem k_X12_row_83 : z_chk 14 false cX12_row 5 83 b_X12_row_83 85 = true := by decide +kernel
def b_X12_tear_0 : List z_E := [(.aload_n 0, 1, 0, 0, 0), (.iconst 0, 1, 0, 0, 0), (.putfield 172, 3, 14, 0, 0), (.iload_n 1, 1, 0, 0, 0), (.invokestatic 181, 3, 1, 0, 0), (.ifCond .eq 12, 3, 21, 0, 0), (.aload_n 0, 1, 0, 0, 0), (.getfield 9, 3, 14, 1, 2), (.iload_n 1, 1, 0, 0, 0), (.iaload, 1, 0, 0, 0), (.ifCond .ge 5, 3, 23, 0, 0)]
theorem k_X12_tear_0 : z_chk 14 false cX12_tear 2 0 b_X12_tear_0 21 = true := by decide +kernel
def b_X12_tear_21 : List z_E := [(.iconst 0, 1, 0, 0, 0), (.ireturn, 1, 0, 0, 0)]
theorem k_X12_tear_21 : z_chk 14 false cX12_tear 2 21 b_X12_tear_21 23 = true := by decide +kernel
def b_X12_tear_23 : List z_E := [(.aload_n 0, 1, 0, 0, 0), (.getfield 9, 3, 14, 1, 2), (.iload_n 1, 1, 0, 0, 0), (.iconst (-1), 1, 0, 0, 0), (.iastore, 1, 0, 0, 0), (.iconst 1, 1, 0, 0, 0), (.ireturn, 1, 0, 0, 0)]
theorem k_X12_tear_23 : z_chk 14 false cX12_tear 2 23 b_X12_tear_23 32 = true := by decide +kernel
def b_X12_write_0 : List z_E := [(.aload_n 0, 1, 0, 0, 0), (.iconst 0, 1, 0, 0, 0), (.putfield 172, 3, 14, 0, 0), (.iload_n 1, 1, 0, 0, 0), (.invokestatic 181, 3, 1, 0, 0), (.ifCond .ne 6, 3, 15, 0, 0), (.bipush (-2), 2, 0, 0, 0), (.ireturn, 1, 0, 0, 0)]
theorem k_X12_write_0 : z_chk 14 false cX12_write 5 0 b_X12_write_0 15 = true := by decide +kernel
def b_X12_write_15 : List z_E := [(.aload_n 0, 1, 0, 0, 0), (.getfield 9, 3, 14, 1, 2), (.iload_n 1, 1, 0, 0, 0), (.iaload, 1, 0, 0, 0), (.ifCond .ge 6, 3, 27, 0, 0), (.bipush (-5), 2, 0, 0, 0), (.ireturn, 1, 0, 0, 0)]
theorem k_X12_write_15 : z_chk 14 false cX12_write 5 15 b_X12_write_15 27 = true := by decide +kernel
def b_X12_write_27 : List z_E := [(.iload_n 2, 1, 0, 0, 0), (.i2l, 1, 0, 0, 0), (.lconst 0, 1, 0, 0, 0), (.aload_n 0, 1, 0, 0, 0), (.getfield 13, 3, 14, 2, 2), (.iload_n 1, 1, 0, 0, 0), (.iaload, 1, 0, 0, 0), (.iconst 1, 1, 0, 0, 0), (.isub, 1, 0, 0, 0), (.i2l, 1, 0, 0, 0), (.invokestatic 177, 3, 3, 0, 0), (.ifCond .ne 6, 3, 48, 0, 0), (.bipush (-6), 2, 0, 0, 0), (.ireturn, 1, 0, 0, 0)]
theorem k_X12_write_27 : z_chk 14 false cX12_write 5 27 b_X12_write_27 48 = true := by decide +kernel
def b_X12_write_48 : List z_E := [(.aload_n 0, 1, 0, 0, 0), (.getfield 16, 3, 14, 3, 2), (.bipush 60, 2, 0, 0, 0), (.iload_n 1, 1, 0, 0, 0), (.imul, 1, 0, 0, 0), (.iload_n 2, 1, 0, 0, 0), (.iadd, 1, 0, 0, 0), (.aload_n 0, 1, 0, 0, 0), (.getfield 9, 3, 14, 1, 2), (.iload_n 1, 1, 0, 0, 0), (.iaload, 1, 0, 0, 0), (.lload_n 3, 1, 0, 0, 0), (.invokestatic 185, 3, 2, 0, 0), (.lastore, 1, 0, 0, 0), (.iconst 0, 1, 0, 0, 0), (.ireturn, 1, 0, 0, 0)]
theorem k_X12_write_48 : z_chk 14 false cX12_write 5 48 b_X12_write_48 71 = true := by decide +kernel
def b_X12_paste_0 : List z_E := [(.aload_n 0, 1, 0, 0, 0), (.iconst 0, 1, 0, 0, 0), (.putfield 172, 3, 14, 0, 0), (.iload_n 1, 1, 0, 0, 0), (.invokestatic 181, 3, 1, 0, 0), (.ifCond .eq 10, 3, 19, 0, 0), (.iload_n 3, 1, 0, 0, 0), (.invokestatic 181, 3, 1, 0, 0), (.ifCond .ne 6, 3, 22, 0, 0)]
theorem k_X12_paste_0 : z_chk 14 false cX12_paste 7 0 b_X12_paste_0 19 = true := by decide +kernel
def b_X12_paste_19 : List z_E := [(.bipush (-2), 2, 0, 0, 0), (.ireturn, 1, 0, 0, 0)]
theorem k_X12_paste_19 : z_chk 14 false cX12_paste 7 19 b_X12_paste_19 22 = true := by decide +kernel
def b_X12_paste_22 : List z_E := [(.aload_n 0, 1, 0, 0, 0), (.getfield 9, 3, 14, 1, 2), (.iload_n 1, 1, 0, 0, 0), (.iaload, 1, 0, 0, 0), (.ifCond .lt 12, 3, 40, 0, 0), (.aload_n 0, 1, 0, 0, 0), (.getfield 9, 3, 14, 1, 2), (.iload_n 3, 1, 0, 0, 0), (.iaload, 1, 0, 0, 0), (.ifCond .ge 6, 3, 43, 0, 0)]
theorem k_X12_paste_22 : z_chk 14 false cX12_paste 7 22 b_X12_paste_22 40 = true := by decide +kernel
def b_X12_paste_40 : List z_E := [(.bipush (-5), 2, 0, 0, 0), (.ireturn, 1, 0, 0, 0)]
theorem k_X12_paste_40 : z_chk 14 false cX12_paste 7 40 b_X12_paste_40 43 = true := by decide +kernel
def b_X12_paste_43 : List z_E := [(.aload_n 0, 1, 0, 0, 0), (.getfield 9, 3, 14, 1, 2), (.iload_n 1, 1, 0, 0, 0), (.iaload, 1, 0, 0, 0), (.aload_n 0, 1, 0, 0, 0), (.getfield 9, 3, 14, 1, 2), (.iload_n 3, 1, 0, 0, 0), (.iaload, 1, 0, 0, 0), (.if_icmp .eq 6, 3, 61, 0, 0), (.bipush (-7), 2, 0, 0, 0), (.ireturn, 1, 0, 0, 0)]
theorem k_X12_paste_43 : z_chk 14 false cX12_paste 7 43 b_X12_paste_43 61 = true := by decide +kernel
def b_X12_paste_61 : List z_E := [(.iload_n 2, 1, 0, 0, 0), (.ifCond .lt 48, 3, 110, 0, 0), (.iload 4, 2, 0, 0, 0), (.ifCond .lt 43, 3, 110, 0, 0), (.iload 5, 2, 0, 0, 0), (.ifCond .lt 38, 3, 110, 0, 0), (.iload_n 2, 1, 0, 0, 0), (.i2l, 1, 0, 0, 0), (.iload 5, 2, 0, 0, 0), (.i2l, 1, 0, 0, 0), (.ladd, 1, 0, 0, 0), (.aload_n 0, 1, 0, 0, 0), (.getfield 13, 3, 14, 2, 2), (.iload_n 1, 1, 0, 0, 0), (.iaload, 1, 0, 0, 0), (.i2l, 1, 0, 0, 0), (.lcmp, 1, 0, 0, 0), (.ifCond .gt 21, 3, 110, 0, 0), (.iload 4, 2, 0, 0, 0), (.i2l, 1, 0, 0, 0), (.iload 5, 2, 0, 0, 0), (.i2l, 1, 0, 0, 0), (.ladd, 1, 0, 0, 0), (.aload_n 0, 1, 0, 0, 0), (.getfield 13, 3, 14, 2, 2), (.iload_n 3, 1, 0, 0, 0), (.iaload, 1, 0, 0, 0), (.i2l, 1, 0, 0, 0), (.lcmp, 1, 0, 0, 0), (.ifCond .le 6, 3, 113, 0, 0)]
theorem k_X12_paste_61 : z_chk 14 false cX12_paste 7 61 b_X12_paste_61 110 = true := by decide +kernel
def b_X12_paste_110 : List z_E := [(.bipush (-6), 2, 0, 0, 0), (.ireturn, 1, 0, 0, 0)]
theorem k_X12_paste_110 : z_chk 14 false cX12_paste 7 110 b_X12_paste_110 113 = true := by decide +kernel
def b_X12_paste_113 : List z_E := [(.iconst 0, 1, 0, 0, 0), (.istore 6, 2, 0, 0, 0)]
theorem k_X12_paste_113 : z_chk 14 false cX12_paste 7 113 b_X12_paste_113 116 = true := by decide +kernel
def b_X12_paste_116 : List z_E := [(.iload 6, 2, 0, 0, 0), (.iload 5, 2, 0, 0, 0), (.if_icmp .ge 30, 3, 150, 0, 0), (.aload_n 0, 1, 0, 0, 0), (.getfield 20, 3, 14, 4, 2), (.iload 6, 2, 0, 0, 0), (.aload_n 0, 1, 0, 0, 0), (.getfield 16, 3, 14, 3, 2), (.bipush 60, 2, 0, 0, 0), (.iload_n 1, 1, 0, 0, 0), (.imul, 1, 0, 0, 0), (.iload_n 2, 1, 0, 0, 0), (.iadd, 1, 0, 0, 0), (.iload 6, 2, 0, 0, 0), (.iadd, 1, 0, 0, 0), (.laload, 1, 0, 0, 0), (.lastore, 1, 0, 0, 0), (.iinc 6 1, 3, 0, 0, 0), (.goto (-31), 3, 116, 0, 0)]
theorem k_X12_paste_116 : z_chk 14 false cX12_paste 7 116 b_X12_paste_116 150 = true := by decide +kernel
def b_X12_paste_150 : List z_E := [(.iconst 0, 1, 0, 0, 0), (.istore 6, 2, 0, 0, 0)]
theorem k_X12_paste_150 : z_chk 14 false cX12_paste 7 150 b_X12_paste_150 153 = true := by decide +kernel
def b_X12_paste_153 : List z_E := [(.iload 6, 2, 0, 0, 0), (.iload 5, 2, 0, 0, 0), (.if_icmp .ge 31, 3, 188, 0, 0), (.aload_n 0, 1, 0, 0, 0), (.getfield 16, 3, 14, 3, 2), (.bipush 60, 2, 0, 0, 0), (.iload_n 3, 1, 0, 0, 0), (.imul, 1, 0, 0, 0), (.iload 4, 2, 0, 0, 0), (.iadd, 1, 0, 0, 0), (.iload 6, 2, 0, 0, 0), (.iadd, 1, 0, 0, 0), (.aload_n 0, 1, 0, 0, 0), (.getfield 20, 3, 14, 4, 2), (.iload 6, 2, 0, 0, 0), (.laload, 1, 0, 0, 0), (.lastore, 1, 0, 0, 0), (.iinc 6 1, 3, 0, 0, 0), (.goto (-32), 3, 153, 0, 0)]
theorem k_X12_paste_153 : z_chk 14 false cX12_paste 7 153 b_X12_paste_153 188 = true := by decide +kernel
def b_X12_paste_188 : List z_E := [(.iconst 0, 1, 0, 0, 0), (.ireturn, 1, 0, 0, 0)]
theorem k_X12_paste_188 : z_chk 14 false cX12_paste 7 188 b_X12_paste_188 190 = true := by decide +kernel
def b_X12_terms_0 : List z_E := [(.aload_n 0, 1, 0, 0, 0), (.iconst 0, 1, 0, 0, 0), (.putfield 172, 3, 14, 0, 0), (.iload_n 1, 1, 0, 0, 0), (.i2l, 1, 0, 0, 0), (.lconst 1, 1, 0, 0, 0), (.ldc2_w 189, 3, 0, 0, 100000), (.invokestatic 177, 3, 3, 0, 0), (.ifCond .eq 96, 3, 110, 0, 0), (.iload_n 2, 1, 0, 0, 0), (.i2l, 1, 0, 0, 0), (.lconst 0, 1, 0, 0, 0), (.ldc2_w 191, 3, 0, 0, 100), (.invokestatic 177, 3, 3, 0, 0), (.ifCond .eq 84, 3, 110, 0, 0), (.iload_n 3, 1, 0, 0, 0), (.i2l, 1, 0, 0, 0), (.lconst 1, 1, 0, 0, 0), (.ldc2_w 193, 3, 0, 0, 1000), (.invokestatic 177, 3, 3, 0, 0), (.ifCond .eq 72, 3, 110, 0, 0), (.iload 4, 2, 0, 0, 0), (.i2l, 1, 0, 0, 0), (.lconst 0, 1, 0, 0, 0), (.ldc2_w 191, 3, 0, 0, 100), (.invokestatic 177, 3, 3, 0, 0), (.ifCond .eq 59, 3, 110, 0, 0), (.iload 5, 2, 0, 0, 0), (.i2l, 1, 0, 0, 0), (.lconst 0, 1, 0, 0, 0), (.ldc2_w 193, 3, 0, 0, 1000), (.invokestatic 177, 3, 3, 0, 0), (.ifCond .eq 46, 3, 110, 0, 0), (.iload 6, 2, 0, 0, 0), (.i2l, 1, 0, 0, 0), (.lconst 0, 1, 0, 0, 0), (.ldc2_w 191, 3, 0, 0, 100), (.invokestatic 177, 3, 3, 0, 0), (.ifCond .eq 33, 3, 110, 0, 0), (.iload 7, 2, 0, 0, 0), (.i2l, 1, 0, 0, 0), (.ldc2_w 195, 3, 0, 0, (-100)), (.ldc2_w 197, 3, 0, 0, 300), (.invokestatic 177, 3, 3, 0, 0), (.ifCond .eq 18, 3, 110, 0, 0), (.iload 8, 2, 0, 0, 0), (.i2l, 1, 0, 0, 0), (.iload 7, 2, 0, 0, 0), (.i2l, 1, 0, 0, 0), (.ldc2_w 197, 3, 0, 0, 300), (.invokestatic 177, 3, 3, 0, 0), (.ifCond .ne 6, 3, 113, 0, 0)]
theorem k_X12_terms_0 : z_chk 14 false cX12_terms 9 0 b_X12_terms_0 110 = true := by decide +kernel
def b_X12_terms_110 : List z_E := [(.bipush (-2), 2, 0, 0, 0), (.ireturn, 1, 0, 0, 0)]
theorem k_X12_terms_110 : z_chk 14 false cX12_terms 9 110 b_X12_terms_110 113 = true := by decide +kernel
def b_X12_terms_113 : List z_E := [(.aload_n 0, 1, 0, 0, 0), (.iload_n 1, 1, 0, 0, 0), (.putfield 23, 3, 14, 5, 0), (.aload_n 0, 1, 0, 0, 0), (.iload_n 2, 1, 0, 0, 0), (.putfield 27, 3, 14, 6, 0), (.aload_n 0, 1, 0, 0, 0), (.iload_n 3, 1, 0, 0, 0), (.putfield 30, 3, 14, 7, 0), (.aload_n 0, 1, 0, 0, 0), (.iload 4, 2, 0, 0, 0), (.putfield 33, 3, 14, 8, 0), (.aload_n 0, 1, 0, 0, 0), (.iload 5, 2, 0, 0, 0), (.putfield 36, 3, 14, 9, 0), (.aload_n 0, 1, 0, 0, 0), (.iload 6, 2, 0, 0, 0), (.putfield 39, 3, 14, 10, 0), (.aload_n 0, 1, 0, 0, 0), (.iload 7, 2, 0, 0, 0), (.putfield 42, 3, 14, 11, 0), (.aload_n 0, 1, 0, 0, 0), (.iload 8, 2, 0, 0, 0), (.putfield 45, 3, 14, 12, 0), (.iconst 0, 1, 0, 0, 0), (.ireturn, 1, 0, 0, 0)]
theorem k_X12_terms_113 : z_chk 14 false cX12_terms 9 113 b_X12_terms_113 160 = true := by decide +kernel
def b_X12_kind_0 : List z_E := [(.aload_n 0, 1, 0, 0, 0), (.iconst 0, 1, 0, 0, 0), (.putfield 172, 3, 14, 0, 0), (.iload_n 1, 1, 0, 0, 0), (.i2l, 1, 0, 0, 0), (.lconst 1, 1, 0, 0, 0), (.ldc2_w 189, 3, 0, 0, 100000), (.invokestatic 177, 3, 3, 0, 0), (.ifCond .eq 26, 3, 40, 0, 0), (.iload_n 2, 1, 0, 0, 0), (.i2l, 1, 0, 0, 0), (.lconst 1, 1, 0, 0, 0), (.iload_n 1, 1, 0, 0, 0), (.i2l, 1, 0, 0, 0), (.invokestatic 177, 3, 3, 0, 0), (.ifCond .eq 15, 3, 40, 0, 0), (.iload_n 3, 1, 0, 0, 0), (.i2l, 1, 0, 0, 0), (.lconst 1, 1, 0, 0, 0), (.ldc2_w 193, 3, 0, 0, 1000), (.invokestatic 177, 3, 3, 0, 0), (.ifCond .ne 6, 3, 43, 0, 0)]
theorem k_X12_kind_0 : z_chk 14 false cX12_kind 4 0 b_X12_kind_0 40 = true := by decide +kernel
def b_X12_kind_40 : List z_E := [(.bipush (-2), 2, 0, 0, 0), (.ireturn, 1, 0, 0, 0)]
theorem k_X12_kind_40 : z_chk 14 false cX12_kind 4 40 b_X12_kind_40 43 = true := by decide +kernel
def b_X12_kind_43 : List z_E := [(.aload_n 0, 1, 0, 0, 0), (.getfield 199, 3, 14, 15, 0), (.bipush 6, 2, 0, 0, 0), (.if_icmp .ne 6, 3, 55, 0, 0), (.bipush (-3), 2, 0, 0, 0), (.ireturn, 1, 0, 0, 0)]
theorem k_X12_kind_43 : z_chk 14 false cX12_kind 4 43 b_X12_kind_43 55 = true := by decide +kernel
def b_X12_kind_55 : List z_E := [(.aload_n 0, 1, 0, 0, 0), (.getfield 51, 3, 14, 22, 2), (.aload_n 0, 1, 0, 0, 0), (.getfield 199, 3, 14, 15, 0), (.iload_n 1, 1, 0, 0, 0), (.iastore, 1, 0, 0, 0), (.aload_n 0, 1, 0, 0, 0), (.getfield 54, 3, 14, 23, 2), (.aload_n 0, 1, 0, 0, 0), (.getfield 199, 3, 14, 15, 0), (.iload_n 2, 1, 0, 0, 0), (.iastore, 1, 0, 0, 0), (.aload_n 0, 1, 0, 0, 0), (.getfield 57, 3, 14, 24, 2), (.aload_n 0, 1, 0, 0, 0), (.getfield 199, 3, 14, 15, 0), (.iload_n 3, 1, 0, 0, 0), (.iastore, 1, 0, 0, 0), (.aload_n 0, 1, 0, 0, 0), (.dup, 1, 0, 0, 0), (.getfield 199, 3, 14, 15, 0), (.iconst 1, 1, 0, 0, 0), (.iadd, 1, 0, 0, 0), (.putfield 199, 3, 14, 15, 0), (.aload_n 0, 1, 0, 0, 0), (.getfield 199, 3, 14, 15, 0), (.iconst 1, 1, 0, 0, 0), (.isub, 1, 0, 0, 0), (.ireturn, 1, 0, 0, 0)]
theorem k_X12_kind_55 : z_chk 14 false cX12_kind 4 55 b_X12_kind_55 102 = true := by decide +kernel
def b_X12_account_0 : List z_E := [(.aload_n 0, 1, 0, 0, 0), (.iconst 0, 1, 0, 0, 0), (.putfield 172, 3, 14, 0, 0), (.aload_n 0, 1, 0, 0, 0), (.getfield 202, 3, 14, 16, 0), (.bipush 24, 2, 0, 0, 0), (.if_icmp .ne 6, 3, 17, 0, 0), (.bipush (-3), 2, 0, 0, 0), (.ireturn, 1, 0, 0, 0)]
theorem k_X12_account_0 : z_chk 14 false cX12_account 1 0 b_X12_account_0 17 = true := by decide +kernel
def b_X12_account_17 : List z_E := [(.aload_n 0, 1, 0, 0, 0), (.dup, 1, 0, 0, 0), (.getfield 202, 3, 14, 16, 0), (.iconst 1, 1, 0, 0, 0), (.iadd, 1, 0, 0, 0), (.putfield 202, 3, 14, 16, 0), (.aload_n 0, 1, 0, 0, 0), (.getfield 202, 3, 14, 16, 0), (.iconst 1, 1, 0, 0, 0), (.isub, 1, 0, 0, 0), (.ireturn, 1, 0, 0, 0)]
theorem k_X12_account_17 : z_chk 14 false cX12_account 1 17 b_X12_account_17 34 = true := by decide +kernel
def b_X12_isAccount_0 : List z_E := [(.iload_n 1, 1, 0, 0, 0), (.i2l, 1, 0, 0, 0), (.lconst 0, 1, 0, 0, 0), (.aload_n 0, 1, 0, 0, 0), (.getfield 202, 3, 14, 16, 0), (.iconst 1, 1, 0, 0, 0), (.isub, 1, 0, 0, 0), (.i2l, 1, 0, 0, 0), (.invokestatic 177, 3, 3, 0, 0), (.ireturn, 1, 0, 0, 0)]
theorem k_X12_isAccount_0 : z_chk 14 false cX12_isAccount 2 0 b_X12_isAccount_0 14 = true := by decide +kernel
def b_X12_isKind_0 : List z_E := [(.iload_n 1, 1, 0, 0, 0), (.i2l, 1, 0, 0, 0), (.lconst 0, 1, 0, 0, 0), (.aload_n 0, 1, 0, 0, 0), (.getfield 199, 3, 14, 15, 0), (.iconst 1, 1, 0, 0, 0), (.isub, 1, 0, 0, 0), (.i2l, 1, 0, 0, 0), (.invokestatic 177, 3, 3, 0, 0), (.ireturn, 1, 0, 0, 0)]
theorem k_X12_isKind_0 : z_chk 14 false cX12_isKind 2 0 b_X12_isKind_0 14 = true := by decide +kernel
def b_X12_attorney_0 : List z_E := [(.aload_n 0, 1, 0, 0, 0), (.iconst 0, 1, 0, 0, 0), (.putfield 172, 3, 14, 0, 0), (.aload_n 0, 1, 0, 0, 0), (.iload_n 1, 1, 0, 0, 0), (.invokevirtual 205, 3, 2, 0, 0), (.ifCond .eq 27, 3, 37, 0, 0), (.iload_n 2, 1, 0, 0, 0), (.i2l, 1, 0, 0, 0), (.lconst 0, 1, 0, 0, 0), (.ldc2_w 208, 3, 0, 0, 99), (.invokestatic 177, 3, 3, 0, 0), (.ifCond .eq 15, 3, 37, 0, 0), (.iload_n 3, 1, 0, 0, 0), (.i2l, 1, 0, 0, 0), (.lconst 0, 1, 0, 0, 0), (.ldc2_w 210, 3, 0, 0, 5000), (.invokestatic 177, 3, 3, 0, 0), (.ifCond .ne 6, 3, 40, 0, 0)]
theorem k_X12_attorney_0 : z_chk 14 false cX12_attorney 4 0 b_X12_attorney_0 37 = true := by decide +kernel
def b_X12_attorney_37 : List z_E := [(.bipush (-2), 2, 0, 0, 0), (.ireturn, 1, 0, 0, 0)]
theorem k_X12_attorney_37 : z_chk 14 false cX12_attorney 4 37 b_X12_attorney_37 40 = true := by decide +kernel
def b_X12_attorney_40 : List z_E := [(.aload_n 0, 1, 0, 0, 0), (.getfield 69, 3, 14, 28, 2), (.iload_n 1, 1, 0, 0, 0), (.iload_n 2, 1, 0, 0, 0), (.iastore, 1, 0, 0, 0), (.aload_n 0, 1, 0, 0, 0), (.getfield 72, 3, 14, 29, 2), (.iload_n 1, 1, 0, 0, 0), (.iload_n 3, 1, 0, 0, 0), (.iastore, 1, 0, 0, 0), (.iconst 0, 1, 0, 0, 0), (.ireturn, 1, 0, 0, 0)]
theorem k_X12_attorney_40 : z_chk 14 false cX12_attorney 4 40 b_X12_attorney_40 56 = true := by decide +kernel
def b_X12_bookOf_0 : List z_E := [(.lload_n 2, 1, 0, 0, 0), (.aload_n 0, 1, 0, 0, 0), (.getfield 57, 3, 14, 24, 2), (.iload_n 1, 1, 0, 0, 0), (.iaload, 1, 0, 0, 0), (.i2l, 1, 0, 0, 0), (.lmul, 1, 0, 0, 0), (.ldc2_w 193, 3, 0, 0, 1000), (.ldiv, 1, 0, 0, 0), (.aload_n 0, 1, 0, 0, 0), (.getfield 23, 3, 14, 5, 0), (.i2l, 1, 0, 0, 0), (.lmul, 1, 0, 0, 0), (.ldc2_w 193, 3, 0, 0, 1000), (.ldiv, 1, 0, 0, 0), (.lreturn, 1, 0, 0, 0)]
theorem k_X12_bookOf_0 : z_chk 14 false cX12_bookOf 4 0 b_X12_bookOf_0 24 = true := by decide +kernel
def b_X12_room_0 : List z_E := [(.sipush 2000, 3, 0, 0, 0), (.aload_n 0, 1, 0, 0, 0), (.getfield 212, 3, 14, 19, 0), (.isub, 1, 0, 0, 0), (.istore_n 1, 1, 0, 0, 0), (.iconst 0, 1, 0, 0, 0), (.istore_n 2, 1, 0, 0, 0)]
theorem k_X12_room_0 : z_chk 14 false cX12_room 3 0 b_X12_room_0 11 = true := by decide +kernel
def b_X12_room_11 : List z_E := [(.iload_n 2, 1, 0, 0, 0), (.aload_n 0, 1, 0, 0, 0), (.getfield 215, 3, 14, 18, 0), (.if_icmp .ge 26, 3, 42, 0, 0), (.iload_n 1, 1, 0, 0, 0), (.aload_n 0, 1, 0, 0, 0), (.getfield 111, 3, 14, 42, 2), (.iload_n 2, 1, 0, 0, 0), (.iaload, 1, 0, 0, 0), (.ifCond .ne 7, 3, 33, 0, 0), (.iconst 3, 1, 0, 0, 0), (.goto 4, 3, 34, 0, 0)]
theorem k_X12_room_11 : z_chk 14 false cX12_room 3 11 b_X12_room_11 33 = true := by decide +kernel
def b_X12_room_33 : List z_E := [(.iconst 0, 1, 0, 0, 0)]
theorem k_X12_room_33 : z_chk 14 false cX12_room 3 33 b_X12_room_33 34 = true := by decide +kernel
def b_X12_room_34 : List z_E := [(.isub, 1, 0, 0, 0), (.istore_n 1, 1, 0, 0, 0), (.iinc 2 1, 3, 0, 0, 0), (.goto (-28), 3, 11, 0, 0)]
theorem k_X12_room_34 : z_chk 14 false cX12_room 3 34 b_X12_room_34 42 = true := by decide +kernel
def b_X12_room_42 : List z_E := [(.iload_n 1, 1, 0, 0, 0), (.ireturn, 1, 0, 0, 0)]
theorem k_X12_room_42 : z_chk 14 false cX12_room 3 42 b_X12_room_42 44 = true := by decide +kernel
def b_X12_folioOf_0 : List z_E := [(.aload_n 0, 1, 0, 0, 0), (.getfield 218, 3, 14, 20, 0), (.iconst 1, 1, 0, 0, 0), (.isub, 1, 0, 0, 0), (.istore_n 2, 1, 0, 0, 0)]
theorem k_X12_folioOf_0 : z_chk 14 false cX12_folioOf 3 0 b_X12_folioOf_0 7 = true := by decide +kernel
def b_X12_folioOf_7 : List z_E := [(.iload_n 2, 1, 0, 0, 0), (.ifCond .lt 19, 3, 27, 0, 0), (.aload_n 0, 1, 0, 0, 0), (.getfield 151, 3, 14, 55, 2), (.iload_n 2, 1, 0, 0, 0), (.iaload, 1, 0, 0, 0), (.iload_n 1, 1, 0, 0, 0), (.if_icmp .eq 9, 3, 27, 0, 0), (.iinc 2 (-1), 3, 0, 0, 0), (.goto (-17), 3, 7, 0, 0)]
theorem k_X12_folioOf_7 : z_chk 14 false cX12_folioOf 3 7 b_X12_folioOf_7 27 = true := by decide +kernel
def b_X12_folioOf_27 : List z_E := [(.iload_n 2, 1, 0, 0, 0), (.ireturn, 1, 0, 0, 0)]
theorem k_X12_folioOf_27 : z_chk 14 false cX12_folioOf 3 27 b_X12_folioOf_27 29 = true := by decide +kernel
def b_X12_writes_0 : List z_E := [(.lload 4, 2, 0, 0, 0), (.lconst 0, 1, 0, 0, 0), (.lcmp, 1, 0, 0, 0), (.ifCond .ne 5, 3, 9, 0, 0), (.iconst (-1), 1, 0, 0, 0), (.ireturn, 1, 0, 0, 0)]
theorem k_X12_writes_0 : z_chk 14 false cX12_writes 8 0 b_X12_writes_0 9 = true := by decide +kernel
def b_X12_writes_9 : List z_E := [(.aload_n 0, 1, 0, 0, 0), (.iload_n 2, 1, 0, 0, 0), (.invokevirtual 221, 3, 2, 0, 0), (.istore 7, 2, 0, 0, 0), (.iload 7, 2, 0, 0, 0), (.ifCond .lt 15, 3, 33, 0, 0), (.aload_n 0, 1, 0, 0, 0), (.getfield 154, 3, 14, 56, 2), (.iload 7, 2, 0, 0, 0), (.iaload, 1, 0, 0, 0), (.bipush 8, 2, 0, 0, 0), (.if_icmp .ne 35, 3, 65, 0, 0)]
theorem k_X12_writes_9 : z_chk 14 false cX12_writes 8 9 b_X12_writes_9 33 = true := by decide +kernel
def b_X12_writes_33 : List z_E := [(.aload_n 0, 1, 0, 0, 0), (.getfield 218, 3, 14, 20, 0), (.istore 7, 2, 0, 0, 0), (.aload_n 0, 1, 0, 0, 0), (.getfield 151, 3, 14, 55, 2), (.iload 7, 2, 0, 0, 0), (.iload_n 2, 1, 0, 0, 0), (.iastore, 1, 0, 0, 0), (.aload_n 0, 1, 0, 0, 0), (.getfield 154, 3, 14, 56, 2), (.iload 7, 2, 0, 0, 0), (.iconst 0, 1, 0, 0, 0), (.iastore, 1, 0, 0, 0), (.aload_n 0, 1, 0, 0, 0), (.dup, 1, 0, 0, 0), (.getfield 218, 3, 14, 20, 0), (.iconst 1, 1, 0, 0, 0), (.iadd, 1, 0, 0, 0), (.putfield 218, 3, 14, 20, 0)]
theorem k_X12_writes_33 : z_chk 14 false cX12_writes 8 33 b_X12_writes_33 65 = true := by decide +kernel
def b_X12_writes_65 : List z_E := [(.aload_n 0, 1, 0, 0, 0), (.getfield 154, 3, 14, 56, 2), (.iload 7, 2, 0, 0, 0), (.dup2, 1, 0, 0, 0), (.iaload, 1, 0, 0, 0), (.iconst 1, 1, 0, 0, 0), (.iadd, 1, 0, 0, 0), (.iastore, 1, 0, 0, 0), (.aload_n 0, 1, 0, 0, 0), (.getfield 133, 3, 14, 49, 2), (.aload_n 0, 1, 0, 0, 0), (.getfield 212, 3, 14, 19, 0), (.iload_n 1, 1, 0, 0, 0), (.iastore, 1, 0, 0, 0), (.aload_n 0, 1, 0, 0, 0), (.getfield 136, 3, 14, 50, 2), (.aload_n 0, 1, 0, 0, 0), (.getfield 212, 3, 14, 19, 0), (.iload_n 2, 1, 0, 0, 0), (.iastore, 1, 0, 0, 0), (.aload_n 0, 1, 0, 0, 0), (.getfield 139, 3, 14, 51, 2), (.aload_n 0, 1, 0, 0, 0), (.getfield 212, 3, 14, 19, 0), (.iload 7, 2, 0, 0, 0), (.iastore, 1, 0, 0, 0), (.aload_n 0, 1, 0, 0, 0), (.getfield 142, 3, 14, 52, 2), (.aload_n 0, 1, 0, 0, 0), (.getfield 212, 3, 14, 19, 0), (.iload_n 3, 1, 0, 0, 0), (.iastore, 1, 0, 0, 0), (.aload_n 0, 1, 0, 0, 0), (.getfield 148, 3, 14, 54, 2), (.aload_n 0, 1, 0, 0, 0), (.getfield 212, 3, 14, 19, 0), (.lload 4, 2, 0, 0, 0), (.lastore, 1, 0, 0, 0), (.aload_n 0, 1, 0, 0, 0), (.getfield 145, 3, 14, 53, 2), (.aload_n 0, 1, 0, 0, 0), (.getfield 212, 3, 14, 19, 0), (.iload 6, 2, 0, 0, 0), (.iastore, 1, 0, 0, 0), (.aload_n 0, 1, 0, 0, 0), (.dup, 1, 0, 0, 0), (.getfield 212, 3, 14, 19, 0), (.iconst 1, 1, 0, 0, 0), (.iadd, 1, 0, 0, 0), (.putfield 212, 3, 14, 19, 0), (.aload_n 0, 1, 0, 0, 0), (.getfield 212, 3, 14, 19, 0), (.iconst 1, 1, 0, 0, 0), (.isub, 1, 0, 0, 0), (.ireturn, 1, 0, 0, 0)]
theorem k_X12_writes_65 : z_chk 14 false cX12_writes 8 65 b_X12_writes_65 156 = true := by decide +kernel
def b_X12_isTaken_0 : List z_E := [(.lload_n 2, 1, 0, 0, 0), (.aload_n 0, 1, 0, 0, 0), (.getfield 54, 3, 14, 23, 2), (.iload_n 1, 1, 0, 0, 0), (.iaload, 1, 0, 0, 0), (.i2l, 1, 0, 0, 0), (.aload_n 0, 1, 0, 0, 0), (.getfield 51, 3, 14, 22, 2), (.iload_n 1, 1, 0, 0, 0), (.iaload, 1, 0, 0, 0), (.i2l, 1, 0, 0, 0), (.invokestatic 177, 3, 3, 0, 0), (.ireturn, 1, 0, 0, 0)]
theorem k_X12_isTaken_0 : z_chk 14 false cX12_isTaken 4 0 b_X12_isTaken_0 19 = true := by decide +kernel
def b_X12_take_0 : List z_E := [(.aload_n 0, 1, 0, 0, 0), (.iconst 0, 1, 0, 0, 0), (.putfield 172, 3, 14, 0, 0), (.aload_n 0, 1, 0, 0, 0), (.iload_n 1, 1, 0, 0, 0), (.invokevirtual 205, 3, 2, 0, 0), (.ifCond .eq 18, 3, 28, 0, 0), (.aload_n 0, 1, 0, 0, 0), (.iload_n 2, 1, 0, 0, 0), (.invokevirtual 225, 3, 2, 0, 0), (.ifCond .eq 10, 3, 28, 0, 0), (.iload_n 3, 1, 0, 0, 0), (.invokestatic 181, 3, 1, 0, 0), (.ifCond .ne 6, 3, 31, 0, 0)]
theorem k_X12_take_0 : z_chk 14 false cX12_take 10 0 b_X12_take_0 28 = true := by decide +kernel
def b_X12_take_28 : List z_E := [(.bipush (-2), 2, 0, 0, 0), (.ireturn, 1, 0, 0, 0)]
theorem k_X12_take_28 : z_chk 14 false cX12_take 10 28 b_X12_take_28 31 = true := by decide +kernel
def b_X12_take_31 : List z_E := [(.aload_n 0, 1, 0, 0, 0), (.getfield 9, 3, 14, 1, 2), (.iload_n 3, 1, 0, 0, 0), (.iaload, 1, 0, 0, 0), (.ifCond .ge 6, 3, 43, 0, 0), (.bipush (-5), 2, 0, 0, 0), (.ireturn, 1, 0, 0, 0)]
theorem k_X12_take_31 : z_chk 14 false cX12_take 10 31 b_X12_take_31 43 = true := by decide +kernel
def b_X12_take_43 : List z_E := [(.aload_n 0, 1, 0, 0, 0), (.getfield 228, 3, 14, 17, 0), (.sipush 200, 3, 0, 0, 0), (.if_icmp .eq 11, 3, 61, 0, 0), (.aload_n 0, 1, 0, 0, 0), (.invokevirtual 231, 3, 1, 0, 0), (.iconst 1, 1, 0, 0, 0), (.if_icmp .ge 6, 3, 64, 0, 0)]
theorem k_X12_take_43 : z_chk 14 false cX12_take 10 43 b_X12_take_43 61 = true := by decide +kernel
def b_X12_take_61 : List z_E := [(.bipush (-3), 2, 0, 0, 0), (.ireturn, 1, 0, 0, 0)]
theorem k_X12_take_61 : z_chk 14 false cX12_take 10 61 b_X12_take_61 64 = true := by decide +kernel
def b_X12_take_64 : List z_E := [(.iconst 0, 1, 0, 0, 0), (.istore 4, 2, 0, 0, 0), (.lconst 0, 1, 0, 0, 0), (.lstore 5, 2, 0, 0, 0), (.iconst 0, 1, 0, 0, 0), (.istore 7, 2, 0, 0, 0)]
theorem k_X12_take_64 : z_chk 14 false cX12_take 10 64 b_X12_take_64 73 = true := by decide +kernel
def b_X12_take_73 : List z_E := [(.iload 7, 2, 0, 0, 0), (.aload_n 0, 1, 0, 0, 0), (.getfield 13, 3, 14, 2, 2), (.iload_n 3, 1, 0, 0, 0), (.iaload, 1, 0, 0, 0), (.if_icmp .ge 52, 3, 133, 0, 0), (.aload_n 0, 1, 0, 0, 0), (.iload_n 2, 1, 0, 0, 0), (.aload_n 0, 1, 0, 0, 0), (.getfield 16, 3, 14, 3, 2), (.bipush 60, 2, 0, 0, 0), (.iload_n 3, 1, 0, 0, 0), (.imul, 1, 0, 0, 0), (.iload 7, 2, 0, 0, 0), (.iadd, 1, 0, 0, 0), (.laload, 1, 0, 0, 0), (.invokevirtual 235, 3, 3, 0, 0), (.ifCond .ne 6, 3, 107, 0, 0), (.goto 23, 3, 127, 0, 0)]
theorem k_X12_take_73 : z_chk 14 false cX12_take 10 73 b_X12_take_73 107 = true := by decide +kernel
def b_X12_take_107 : List z_E := [(.iinc 4 1, 3, 0, 0, 0), (.lload 5, 2, 0, 0, 0), (.aload_n 0, 1, 0, 0, 0), (.getfield 16, 3, 14, 3, 2), (.bipush 60, 2, 0, 0, 0), (.iload_n 3, 1, 0, 0, 0), (.imul, 1, 0, 0, 0), (.iload 7, 2, 0, 0, 0), (.iadd, 1, 0, 0, 0), (.laload, 1, 0, 0, 0), (.ladd, 1, 0, 0, 0), (.lstore 5, 2, 0, 0, 0)]
theorem k_X12_take_107 : z_chk 14 false cX12_take 10 107 b_X12_take_107 127 = true := by decide +kernel
def b_X12_take_127 : List z_E := [(.iinc 7 1, 3, 0, 0, 0), (.goto (-57), 3, 73, 0, 0)]
theorem k_X12_take_127 : z_chk 14 false cX12_take 10 127 b_X12_take_127 133 = true := by decide +kernel
def b_X12_take_133 : List z_E := [(.iload 4, 2, 0, 0, 0), (.ifCond .ne 5, 3, 140, 0, 0), (.iconst 0, 1, 0, 0, 0), (.ireturn, 1, 0, 0, 0)]
theorem k_X12_take_133 : z_chk 14 false cX12_take 10 133 b_X12_take_133 140 = true := by decide +kernel
def b_X12_take_140 : List z_E := [(.aload_n 0, 1, 0, 0, 0), (.iload_n 2, 1, 0, 0, 0), (.lload 5, 2, 0, 0, 0), (.invokevirtual 239, 3, 3, 0, 0), (.lstore 7, 2, 0, 0, 0), (.aload_n 0, 1, 0, 0, 0), (.getfield 75, 3, 14, 30, 2), (.aload_n 0, 1, 0, 0, 0), (.getfield 228, 3, 14, 17, 0), (.iload_n 1, 1, 0, 0, 0), (.iastore, 1, 0, 0, 0), (.aload_n 0, 1, 0, 0, 0), (.getfield 78, 3, 14, 31, 2), (.aload_n 0, 1, 0, 0, 0), (.getfield 228, 3, 14, 17, 0), (.iload_n 2, 1, 0, 0, 0), (.iastore, 1, 0, 0, 0), (.aload_n 0, 1, 0, 0, 0), (.getfield 81, 3, 14, 32, 2), (.aload_n 0, 1, 0, 0, 0), (.getfield 228, 3, 14, 17, 0), (.iload 4, 2, 0, 0, 0), (.iastore, 1, 0, 0, 0), (.aload_n 0, 1, 0, 0, 0), (.getfield 90, 3, 14, 35, 2), (.aload_n 0, 1, 0, 0, 0), (.getfield 228, 3, 14, 17, 0), (.lload 5, 2, 0, 0, 0), (.lastore, 1, 0, 0, 0), (.aload_n 0, 1, 0, 0, 0), (.getfield 93, 3, 14, 36, 2), (.aload_n 0, 1, 0, 0, 0), (.getfield 228, 3, 14, 17, 0), (.lload 7, 2, 0, 0, 0), (.lastore, 1, 0, 0, 0), (.aload_n 0, 1, 0, 0, 0), (.getfield 84, 3, 14, 33, 2), (.aload_n 0, 1, 0, 0, 0), (.getfield 228, 3, 14, 17, 0), (.aload_n 0, 1, 0, 0, 0), (.getfield 242, 3, 14, 14, 0), (.aload_n 0, 1, 0, 0, 0), (.getfield 30, 3, 14, 7, 0), (.iadd, 1, 0, 0, 0), (.iastore, 1, 0, 0, 0), (.aload_n 0, 1, 0, 0, 0), (.getfield 87, 3, 14, 34, 2), (.aload_n 0, 1, 0, 0, 0), (.getfield 228, 3, 14, 17, 0), (.iconst 0, 1, 0, 0, 0), (.iastore, 1, 0, 0, 0), (.aload_n 0, 1, 0, 0, 0), (.dup, 1, 0, 0, 0), (.getfield 228, 3, 14, 17, 0), (.iconst 1, 1, 0, 0, 0), (.iadd, 1, 0, 0, 0), (.putfield 228, 3, 14, 17, 0), (.aload_n 0, 1, 0, 0, 0), (.getfield 60, 3, 14, 25, 2), (.iload_n 2, 1, 0, 0, 0), (.dup2, 1, 0, 0, 0), (.laload, 1, 0, 0, 0), (.iload 4, 2, 0, 0, 0), (.i2l, 1, 0, 0, 0), (.ladd, 1, 0, 0, 0), (.lastore, 1, 0, 0, 0), (.aload_n 0, 1, 0, 0, 0), (.getfield 63, 3, 14, 26, 2), (.iload_n 2, 1, 0, 0, 0), (.dup2, 1, 0, 0, 0), (.laload, 1, 0, 0, 0), (.lload 5, 2, 0, 0, 0), (.ladd, 1, 0, 0, 0), (.lastore, 1, 0, 0, 0), (.aload_n 0, 1, 0, 0, 0), (.getfield 66, 3, 14, 27, 2), (.iload_n 1, 1, 0, 0, 0), (.dup2, 1, 0, 0, 0), (.laload, 1, 0, 0, 0), (.lload 7, 2, 0, 0, 0), (.ladd, 1, 0, 0, 0), (.lastore, 1, 0, 0, 0), (.aload_n 0, 1, 0, 0, 0), (.dup, 1, 0, 0, 0), (.getfield 245, 3, 14, 63, 1), (.lload 7, 2, 0, 0, 0), (.ladd, 1, 0, 0, 0), (.putfield 245, 3, 14, 63, 1), (.aload_n 0, 1, 0, 0, 0), (.aload_n 0, 1, 0, 0, 0), (.getfield 242, 3, 14, 14, 0), (.iload_n 1, 1, 0, 0, 0), (.iconst 1, 1, 0, 0, 0), (.lload 7, 2, 0, 0, 0), (.iconst (-1), 1, 0, 0, 0), (.invokevirtual 249, 3, 6, 0, 0), (.istore 9, 2, 0, 0, 0), (.iload 4, 2, 0, 0, 0), (.ireturn, 1, 0, 0, 0)]
theorem k_X12_take_140 : z_chk 14 false cX12_take 10 140 b_X12_take_140 303 = true := by decide +kernel
def b_X12_isOpen_0 : List z_E := [(.iload_n 1, 1, 0, 0, 0), (.i2l, 1, 0, 0, 0), (.lconst 0, 1, 0, 0, 0), (.aload_n 0, 1, 0, 0, 0), (.getfield 228, 3, 14, 17, 0), (.iconst 1, 1, 0, 0, 0), (.isub, 1, 0, 0, 0), (.i2l, 1, 0, 0, 0), (.invokestatic 177, 3, 3, 0, 0), (.ifCond .eq 16, 3, 29, 0, 0), (.aload_n 0, 1, 0, 0, 0), (.getfield 87, 3, 14, 34, 2), (.iload_n 1, 1, 0, 0, 0), (.iaload, 1, 0, 0, 0), (.ifCond .ne 7, 3, 29, 0, 0), (.iconst 1, 1, 0, 0, 0), (.goto 4, 3, 30, 0, 0)]
theorem k_X12_isOpen_0 : z_chk 14 false cX12_isOpen 2 0 b_X12_isOpen_0 29 = true := by decide +kernel
def b_X12_isOpen_29 : List z_E := [(.iconst 0, 1, 0, 0, 0)]
theorem k_X12_isOpen_29 : z_chk 14 false cX12_isOpen 2 29 b_X12_isOpen_29 30 = true := by decide +kernel
def b_X12_isOpen_30 : List z_E := [(.ireturn, 1, 0, 0, 0)]
theorem k_X12_isOpen_30 : z_chk 14 false cX12_isOpen 2 30 b_X12_isOpen_30 31 = true := by decide +kernel
def b_X12_pays_0 : List z_E := [(.aload_n 0, 1, 0, 0, 0), (.getfield 66, 3, 14, 27, 2), (.iload_n 1, 1, 0, 0, 0), (.dup2, 1, 0, 0, 0), (.laload, 1, 0, 0, 0), (.lload_n 2, 1, 0, 0, 0), (.lsub, 1, 0, 0, 0), (.lastore, 1, 0, 0, 0), (.aload_n 0, 1, 0, 0, 0), (.aload_n 0, 1, 0, 0, 0), (.getfield 242, 3, 14, 14, 0), (.iload_n 1, 1, 0, 0, 0), (.iconst 0, 1, 0, 0, 0), (.lload_n 2, 1, 0, 0, 0), (.iconst (-1), 1, 0, 0, 0), (.invokevirtual 249, 3, 6, 0, 0), (.istore 4, 2, 0, 0, 0), (.return_, 1, 0, 0, 0)]
theorem k_X12_pays_0 : z_chk 14 false cX12_pays 5 0 b_X12_pays_0 25 = true := by decide +kernel
def b_X12_redeem_0 : List z_E := [(.aload_n 0, 1, 0, 0, 0), (.iconst 0, 1, 0, 0, 0), (.putfield 172, 3, 14, 0, 0), (.aload_n 0, 1, 0, 0, 0), (.iload_n 1, 1, 0, 0, 0), (.invokevirtual 253, 3, 2, 0, 0), (.ifCond .ne 7, 3, 17, 0, 0), (.ldc2_w 256, 3, 0, 0, (-2)), (.lreturn, 1, 0, 0, 0)]
theorem k_X12_redeem_0 : z_chk 14 false cX12_redeem 5 0 b_X12_redeem_0 17 = true := by decide +kernel
def b_X12_redeem_17 : List z_E := [(.aload_n 0, 1, 0, 0, 0), (.getfield 93, 3, 14, 36, 2), (.iload_n 1, 1, 0, 0, 0), (.laload, 1, 0, 0, 0), (.aload_n 0, 1, 0, 0, 0), (.getfield 27, 3, 14, 6, 0), (.i2l, 1, 0, 0, 0), (.lmul, 1, 0, 0, 0), (.ldc2_w 193, 3, 0, 0, 1000), (.ldiv, 1, 0, 0, 0), (.lstore_n 2, 1, 0, 0, 0), (.aload_n 0, 1, 0, 0, 0), (.getfield 78, 3, 14, 31, 2), (.iload_n 1, 1, 0, 0, 0), (.iaload, 1, 0, 0, 0), (.istore 4, 2, 0, 0, 0), (.aload_n 0, 1, 0, 0, 0), (.getfield 66, 3, 14, 27, 2), (.aload_n 0, 1, 0, 0, 0), (.getfield 75, 3, 14, 30, 2), (.iload_n 1, 1, 0, 0, 0), (.iaload, 1, 0, 0, 0), (.laload, 1, 0, 0, 0), (.aload_n 0, 1, 0, 0, 0), (.getfield 93, 3, 14, 36, 2), (.iload_n 1, 1, 0, 0, 0), (.laload, 1, 0, 0, 0), (.lload_n 2, 1, 0, 0, 0), (.ladd, 1, 0, 0, 0), (.lcmp, 1, 0, 0, 0), (.ifCond .ge 7, 3, 69, 0, 0), (.ldc2_w 258, 3, 0, 0, (-7)), (.lreturn, 1, 0, 0, 0)]
theorem k_X12_redeem_17 : z_chk 14 false cX12_redeem 5 17 b_X12_redeem_17 69 = true := by decide +kernel
def b_X12_redeem_69 : List z_E := [(.aload_n 0, 1, 0, 0, 0), (.invokevirtual 231, 3, 1, 0, 0), (.iconst 1, 1, 0, 0, 0), (.if_icmp .ge 7, 3, 81, 0, 0), (.ldc2_w 260, 3, 0, 0, (-3)), (.lreturn, 1, 0, 0, 0)]
theorem k_X12_redeem_69 : z_chk 14 false cX12_redeem 5 69 b_X12_redeem_69 81 = true := by decide +kernel
def b_X12_redeem_81 : List z_E := [(.aload_n 0, 1, 0, 0, 0), (.getfield 60, 3, 14, 25, 2), (.iload 4, 2, 0, 0, 0), (.laload, 1, 0, 0, 0), (.aload_n 0, 1, 0, 0, 0), (.getfield 81, 3, 14, 32, 2), (.iload_n 1, 1, 0, 0, 0), (.iaload, 1, 0, 0, 0), (.i2l, 1, 0, 0, 0), (.lcmp, 1, 0, 0, 0), (.ifCond .lt 20, 3, 116, 0, 0), (.aload_n 0, 1, 0, 0, 0), (.getfield 63, 3, 14, 26, 2), (.iload 4, 2, 0, 0, 0), (.laload, 1, 0, 0, 0), (.aload_n 0, 1, 0, 0, 0), (.getfield 90, 3, 14, 35, 2), (.iload_n 1, 1, 0, 0, 0), (.laload, 1, 0, 0, 0), (.lcmp, 1, 0, 0, 0), (.ifCond .ge 7, 3, 120, 0, 0)]
theorem k_X12_redeem_81 : z_chk 14 false cX12_redeem 5 81 b_X12_redeem_81 116 = true := by decide +kernel
def b_X12_redeem_116 : List z_E := [(.ldc2_w 262, 3, 0, 0, (-8)), (.lreturn, 1, 0, 0, 0)]
theorem k_X12_redeem_116 : z_chk 14 false cX12_redeem 5 116 b_X12_redeem_116 120 = true := by decide +kernel
def b_X12_redeem_120 : List z_E := [(.aload_n 0, 1, 0, 0, 0), (.getfield 60, 3, 14, 25, 2), (.iload 4, 2, 0, 0, 0), (.dup2, 1, 0, 0, 0), (.laload, 1, 0, 0, 0), (.aload_n 0, 1, 0, 0, 0), (.getfield 81, 3, 14, 32, 2), (.iload_n 1, 1, 0, 0, 0), (.iaload, 1, 0, 0, 0), (.i2l, 1, 0, 0, 0), (.lsub, 1, 0, 0, 0), (.lastore, 1, 0, 0, 0), (.aload_n 0, 1, 0, 0, 0), (.getfield 63, 3, 14, 26, 2), (.iload 4, 2, 0, 0, 0), (.dup2, 1, 0, 0, 0), (.laload, 1, 0, 0, 0), (.aload_n 0, 1, 0, 0, 0), (.getfield 90, 3, 14, 35, 2), (.iload_n 1, 1, 0, 0, 0), (.laload, 1, 0, 0, 0), (.lsub, 1, 0, 0, 0), (.lastore, 1, 0, 0, 0), (.aload_n 0, 1, 0, 0, 0), (.getfield 87, 3, 14, 34, 2), (.iload_n 1, 1, 0, 0, 0), (.iconst 1, 1, 0, 0, 0), (.iastore, 1, 0, 0, 0), (.aload_n 0, 1, 0, 0, 0), (.dup, 1, 0, 0, 0), (.getfield 264, 3, 14, 64, 1), (.lload_n 2, 1, 0, 0, 0), (.ladd, 1, 0, 0, 0), (.putfield 264, 3, 14, 64, 1), (.aload_n 0, 1, 0, 0, 0), (.aload_n 0, 1, 0, 0, 0), (.getfield 75, 3, 14, 30, 2), (.iload_n 1, 1, 0, 0, 0), (.iaload, 1, 0, 0, 0), (.aload_n 0, 1, 0, 0, 0), (.getfield 93, 3, 14, 36, 2), (.iload_n 1, 1, 0, 0, 0), (.laload, 1, 0, 0, 0), (.lload_n 2, 1, 0, 0, 0), (.ladd, 1, 0, 0, 0), (.invokevirtual 267, 3, 3, 0, 0), (.aload_n 0, 1, 0, 0, 0), (.getfield 93, 3, 14, 36, 2), (.iload_n 1, 1, 0, 0, 0), (.laload, 1, 0, 0, 0), (.lload_n 2, 1, 0, 0, 0), (.ladd, 1, 0, 0, 0), (.lreturn, 1, 0, 0, 0)]
theorem k_X12_redeem_120 : z_chk 14 false cX12_redeem 5 120 b_X12_redeem_120 197 = true := by decide +kernel
def b_X12_prolong_0 : List z_E := [(.aload_n 0, 1, 0, 0, 0), (.iconst 0, 1, 0, 0, 0), (.putfield 172, 3, 14, 0, 0), (.aload_n 0, 1, 0, 0, 0), (.iload_n 1, 1, 0, 0, 0), (.invokevirtual 253, 3, 2, 0, 0), (.ifCond .ne 7, 3, 17, 0, 0), (.ldc2_w 256, 3, 0, 0, (-2)), (.lreturn, 1, 0, 0, 0)]
theorem k_X12_prolong_0 : z_chk 14 false cX12_prolong 4 0 b_X12_prolong_0 17 = true := by decide +kernel
def b_X12_prolong_17 : List z_E := [(.aload_n 0, 1, 0, 0, 0), (.getfield 93, 3, 14, 36, 2), (.iload_n 1, 1, 0, 0, 0), (.laload, 1, 0, 0, 0), (.aload_n 0, 1, 0, 0, 0), (.getfield 27, 3, 14, 6, 0), (.i2l, 1, 0, 0, 0), (.lmul, 1, 0, 0, 0), (.ldc2_w 193, 3, 0, 0, 1000), (.ldiv, 1, 0, 0, 0), (.lstore_n 2, 1, 0, 0, 0), (.aload_n 0, 1, 0, 0, 0), (.getfield 66, 3, 14, 27, 2), (.aload_n 0, 1, 0, 0, 0), (.getfield 75, 3, 14, 30, 2), (.iload_n 1, 1, 0, 0, 0), (.iaload, 1, 0, 0, 0), (.laload, 1, 0, 0, 0), (.lload_n 2, 1, 0, 0, 0), (.lcmp, 1, 0, 0, 0), (.ifCond .ge 7, 3, 54, 0, 0), (.ldc2_w 258, 3, 0, 0, (-7)), (.lreturn, 1, 0, 0, 0)]
theorem k_X12_prolong_17 : z_chk 14 false cX12_prolong 4 17 b_X12_prolong_17 54 = true := by decide +kernel
def b_X12_prolong_54 : List z_E := [(.aload_n 0, 1, 0, 0, 0), (.invokevirtual 231, 3, 1, 0, 0), (.iconst 1, 1, 0, 0, 0), (.if_icmp .ge 7, 3, 66, 0, 0), (.ldc2_w 260, 3, 0, 0, (-3)), (.lreturn, 1, 0, 0, 0)]
theorem k_X12_prolong_54 : z_chk 14 false cX12_prolong 4 54 b_X12_prolong_54 66 = true := by decide +kernel
def b_X12_prolong_66 : List z_E := [(.aload_n 0, 1, 0, 0, 0), (.getfield 84, 3, 14, 33, 2), (.iload_n 1, 1, 0, 0, 0), (.dup2, 1, 0, 0, 0), (.iaload, 1, 0, 0, 0), (.aload_n 0, 1, 0, 0, 0), (.getfield 30, 3, 14, 7, 0), (.iadd, 1, 0, 0, 0), (.iastore, 1, 0, 0, 0), (.aload_n 0, 1, 0, 0, 0), (.dup, 1, 0, 0, 0), (.getfield 264, 3, 14, 64, 1), (.lload_n 2, 1, 0, 0, 0), (.ladd, 1, 0, 0, 0), (.putfield 264, 3, 14, 64, 1), (.aload_n 0, 1, 0, 0, 0), (.aload_n 0, 1, 0, 0, 0), (.getfield 75, 3, 14, 30, 2), (.iload_n 1, 1, 0, 0, 0), (.iaload, 1, 0, 0, 0), (.lload_n 2, 1, 0, 0, 0), (.invokevirtual 267, 3, 3, 0, 0), (.lload_n 2, 1, 0, 0, 0), (.lreturn, 1, 0, 0, 0)]
theorem k_X12_prolong_66 : z_chk 14 false cX12_prolong 4 66 b_X12_prolong_66 102 = true := by decide +kernel
def b_X12_give_0 : List z_E := [(.aload_n 0, 1, 0, 0, 0), (.iconst 0, 1, 0, 0, 0), (.putfield 172, 3, 14, 0, 0), (.aload_n 0, 1, 0, 0, 0), (.iload_n 1, 1, 0, 0, 0), (.invokevirtual 253, 3, 2, 0, 0), (.ifCond .eq 11, 3, 21, 0, 0), (.aload_n 0, 1, 0, 0, 0), (.iload_n 2, 1, 0, 0, 0), (.invokevirtual 205, 3, 2, 0, 0), (.ifCond .ne 6, 3, 24, 0, 0)]
theorem k_X12_give_0 : z_chk 14 false cX12_give 3 0 b_X12_give_0 21 = true := by decide +kernel
def b_X12_give_21 : List z_E := [(.bipush (-2), 2, 0, 0, 0), (.ireturn, 1, 0, 0, 0)]
theorem k_X12_give_21 : z_chk 14 false cX12_give 3 21 b_X12_give_21 24 = true := by decide +kernel
def b_X12_give_24 : List z_E := [(.aload_n 0, 1, 0, 0, 0), (.getfield 75, 3, 14, 30, 2), (.iload_n 1, 1, 0, 0, 0), (.iload_n 2, 1, 0, 0, 0), (.iastore, 1, 0, 0, 0), (.iconst 0, 1, 0, 0, 0), (.ireturn, 1, 0, 0, 0)]
theorem k_X12_give_24 : z_chk 14 false cX12_give 3 24 b_X12_give_24 33 = true := by decide +kernel
def b_X12_waits_0 : List z_E := [(.aload_n 0, 1, 0, 0, 0), (.iload_n 1, 1, 0, 0, 0), (.invokevirtual 205, 3, 2, 0, 0), (.ifCond .eq 27, 3, 32, 0, 0), (.aload_n 0, 1, 0, 0, 0), (.iload_n 2, 1, 0, 0, 0), (.invokevirtual 205, 3, 2, 0, 0), (.ifCond .eq 19, 3, 32, 0, 0), (.iload_n 1, 1, 0, 0, 0), (.iload_n 2, 1, 0, 0, 0), (.if_icmp .eq 14, 3, 32, 0, 0), (.lload_n 3, 1, 0, 0, 0), (.lconst 1, 1, 0, 0, 0), (.ldc2_w 271, 3, 0, 0, 1000000000), (.invokestatic 177, 3, 3, 0, 0), (.ifCond .ne 6, 3, 35, 0, 0)]
theorem k_X12_waits_0 : z_chk 14 false cX12_waits 8 0 b_X12_waits_0 32 = true := by decide +kernel
def b_X12_waits_32 : List z_E := [(.bipush (-2), 2, 0, 0, 0), (.ireturn, 1, 0, 0, 0)]
theorem k_X12_waits_32 : z_chk 14 false cX12_waits 8 32 b_X12_waits_32 35 = true := by decide +kernel
def b_X12_waits_35 : List z_E := [(.aload_n 0, 1, 0, 0, 0), (.getfield 215, 3, 14, 18, 0), (.sipush 300, 3, 0, 0, 0), (.if_icmp .eq 11, 3, 53, 0, 0), (.aload_n 0, 1, 0, 0, 0), (.invokevirtual 231, 3, 1, 0, 0), (.iconst 3, 1, 0, 0, 0), (.if_icmp .ge 6, 3, 56, 0, 0)]
theorem k_X12_waits_35 : z_chk 14 false cX12_waits 8 35 b_X12_waits_35 53 = true := by decide +kernel
def b_X12_waits_53 : List z_E := [(.bipush (-3), 2, 0, 0, 0), (.ireturn, 1, 0, 0, 0)]
theorem k_X12_waits_53 : z_chk 14 false cX12_waits 8 53 b_X12_waits_53 56 = true := by decide +kernel
def b_X12_waits_56 : List z_E := [(.aload_n 0, 1, 0, 0, 0), (.getfield 96, 3, 14, 37, 2), (.aload_n 0, 1, 0, 0, 0), (.getfield 215, 3, 14, 18, 0), (.iload_n 1, 1, 0, 0, 0), (.iastore, 1, 0, 0, 0), (.aload_n 0, 1, 0, 0, 0), (.getfield 99, 3, 14, 38, 2), (.aload_n 0, 1, 0, 0, 0), (.getfield 215, 3, 14, 18, 0), (.iload_n 2, 1, 0, 0, 0), (.iastore, 1, 0, 0, 0), (.aload_n 0, 1, 0, 0, 0), (.getfield 126, 3, 14, 47, 2), (.aload_n 0, 1, 0, 0, 0), (.getfield 215, 3, 14, 18, 0), (.lload_n 3, 1, 0, 0, 0), (.lastore, 1, 0, 0, 0), (.aload_n 0, 1, 0, 0, 0), (.getfield 102, 3, 14, 39, 2), (.aload_n 0, 1, 0, 0, 0), (.getfield 215, 3, 14, 18, 0), (.iload 5, 2, 0, 0, 0), (.iastore, 1, 0, 0, 0), (.aload_n 0, 1, 0, 0, 0), (.getfield 105, 3, 14, 40, 2), (.aload_n 0, 1, 0, 0, 0), (.getfield 215, 3, 14, 18, 0), (.iload 6, 2, 0, 0, 0), (.iastore, 1, 0, 0, 0), (.aload_n 0, 1, 0, 0, 0), (.getfield 108, 3, 14, 41, 2), (.aload_n 0, 1, 0, 0, 0), (.getfield 215, 3, 14, 18, 0), (.iload 7, 2, 0, 0, 0), (.iastore, 1, 0, 0, 0), (.aload_n 0, 1, 0, 0, 0), (.getfield 111, 3, 14, 42, 2), (.aload_n 0, 1, 0, 0, 0), (.getfield 215, 3, 14, 18, 0), (.iconst 0, 1, 0, 0, 0), (.iastore, 1, 0, 0, 0), (.aload_n 0, 1, 0, 0, 0), (.getfield 114, 3, 14, 43, 2), (.aload_n 0, 1, 0, 0, 0), (.getfield 215, 3, 14, 18, 0), (.iconst (-1), 1, 0, 0, 0), (.iastore, 1, 0, 0, 0), (.aload_n 0, 1, 0, 0, 0), (.getfield 123, 3, 14, 46, 2), (.aload_n 0, 1, 0, 0, 0), (.getfield 215, 3, 14, 18, 0), (.iconst (-1), 1, 0, 0, 0), (.iastore, 1, 0, 0, 0), (.aload_n 0, 1, 0, 0, 0), (.dup, 1, 0, 0, 0), (.getfield 215, 3, 14, 18, 0), (.iconst 1, 1, 0, 0, 0), (.iadd, 1, 0, 0, 0), (.putfield 215, 3, 14, 18, 0), (.aload_n 0, 1, 0, 0, 0), (.getfield 215, 3, 14, 18, 0), (.iconst 1, 1, 0, 0, 0), (.isub, 1, 0, 0, 0), (.ireturn, 1, 0, 0, 0)]
theorem k_X12_waits_56 : z_chk 14 false cX12_waits 8 56 b_X12_waits_56 166 = true := by decide +kernel
def b_X12_order_0 : List z_E := [(.aload_n 0, 1, 0, 0, 0), (.iconst 0, 1, 0, 0, 0), (.putfield 172, 3, 14, 0, 0), (.iload 5, 2, 0, 0, 0), (.i2l, 1, 0, 0, 0), (.lconst 0, 1, 0, 0, 0), (.ldc2_w 273, 3, 0, 0, 23), (.invokestatic 177, 3, 3, 0, 0), (.ifCond .eq 16, 3, 31, 0, 0), (.iload 6, 2, 0, 0, 0), (.i2l, 1, 0, 0, 0), (.lconst 0, 1, 0, 0, 0), (.ldc2_w 208, 3, 0, 0, 99), (.invokestatic 177, 3, 3, 0, 0), (.ifCond .ne 6, 3, 34, 0, 0)]
theorem k_X12_order_0 : z_chk 14 false cX12_order 7 0 b_X12_order_0 31 = true := by decide +kernel
def b_X12_order_31 : List z_E := [(.bipush (-2), 2, 0, 0, 0), (.ireturn, 1, 0, 0, 0)]
theorem k_X12_order_31 : z_chk 14 false cX12_order 7 31 b_X12_order_31 34 = true := by decide +kernel
def b_X12_order_34 : List z_E := [(.aload_n 0, 1, 0, 0, 0), (.iload_n 1, 1, 0, 0, 0), (.iload_n 2, 1, 0, 0, 0), (.lload_n 3, 1, 0, 0, 0), (.iload 5, 2, 0, 0, 0), (.bipush 11, 2, 0, 0, 0), (.if_icmp .ge 10, 3, 52, 0, 0), (.aload_n 0, 1, 0, 0, 0), (.getfield 242, 3, 14, 14, 0), (.goto 9, 3, 58, 0, 0)]
theorem k_X12_order_34 : z_chk 14 false cX12_order 7 34 b_X12_order_34 52 = true := by decide +kernel
def b_X12_order_52 : List z_E := [(.aload_n 0, 1, 0, 0, 0), (.getfield 242, 3, 14, 14, 0), (.iconst 1, 1, 0, 0, 0), (.iadd, 1, 0, 0, 0)]
theorem k_X12_order_52 : z_chk 14 false cX12_order 7 52 b_X12_order_52 58 = true := by decide +kernel
def b_X12_order_58 : List z_E := [(.iload 5, 2, 0, 0, 0), (.iload 6, 2, 0, 0, 0), (.invokevirtual 275, 3, 7, 0, 0), (.ireturn, 1, 0, 0, 0)]
theorem k_X12_order_58 : z_chk 14 false cX12_order 7 58 b_X12_order_58 66 = true := by decide +kernel
def b_X12_bill_0 : List z_E := [(.aload_n 0, 1, 0, 0, 0), (.iconst 0, 1, 0, 0, 0), (.putfield 172, 3, 14, 0, 0), (.iload 5, 2, 0, 0, 0), (.i2l, 1, 0, 0, 0), (.lconst 0, 1, 0, 0, 0), (.ldc2_w 193, 3, 0, 0, 1000), (.invokestatic 177, 3, 3, 0, 0), (.ifCond .ne 6, 3, 21, 0, 0), (.bipush (-2), 2, 0, 0, 0), (.ireturn, 1, 0, 0, 0)]
theorem k_X12_bill_0 : z_chk 14 false cX12_bill 6 0 b_X12_bill_0 21 = true := by decide +kernel
def b_X12_bill_21 : List z_E := [(.aload_n 0, 1, 0, 0, 0), (.iload_n 1, 1, 0, 0, 0), (.iload_n 2, 1, 0, 0, 0), (.lload_n 3, 1, 0, 0, 0), (.aload_n 0, 1, 0, 0, 0), (.getfield 242, 3, 14, 14, 0), (.iload 5, 2, 0, 0, 0), (.iadd, 1, 0, 0, 0), (.bipush 9, 2, 0, 0, 0), (.iload_n 1, 1, 0, 0, 0), (.invokevirtual 275, 3, 7, 0, 0), (.ireturn, 1, 0, 0, 0)]
theorem k_X12_bill_21 : z_chk 14 false cX12_bill 6 21 b_X12_bill_21 39 = true := by decide +kernel
def b_X12_slip_0 : List z_E := [(.aload_n 0, 1, 0, 0, 0), (.iconst 0, 1, 0, 0, 0), (.putfield 172, 3, 14, 0, 0), (.iload_n 1, 1, 0, 0, 0), (.i2l, 1, 0, 0, 0), (.lconst 0, 1, 0, 0, 0), (.aload_n 0, 1, 0, 0, 0), (.getfield 215, 3, 14, 18, 0), (.iconst 1, 1, 0, 0, 0), (.isub, 1, 0, 0, 0), (.i2l, 1, 0, 0, 0), (.invokestatic 177, 3, 3, 0, 0), (.ifCond .eq 24, 3, 42, 0, 0), (.aload_n 0, 1, 0, 0, 0), (.getfield 111, 3, 14, 42, 2), (.iload_n 1, 1, 0, 0, 0), (.iaload, 1, 0, 0, 0), (.ifCond .ne 15, 3, 42, 0, 0), (.iload_n 2, 1, 0, 0, 0), (.i2l, 1, 0, 0, 0), (.lconst 0, 1, 0, 0, 0), (.ldc2_w 175, 3, 0, 0, 3), (.invokestatic 177, 3, 3, 0, 0), (.ifCond .ne 6, 3, 45, 0, 0)]
theorem k_X12_slip_0 : z_chk 14 false cX12_slip 5 0 b_X12_slip_0 42 = true := by decide +kernel
def b_X12_slip_42 : List z_E := [(.bipush (-2), 2, 0, 0, 0), (.ireturn, 1, 0, 0, 0)]
theorem k_X12_slip_42 : z_chk 14 false cX12_slip 5 42 b_X12_slip_42 45 = true := by decide +kernel
def b_X12_slip_45 : List z_E := [(.iload_n 2, 1, 0, 0, 0), (.iconst 2, 1, 0, 0, 0), (.if_icmp .ne 15, 3, 62, 0, 0), (.iload_n 3, 1, 0, 0, 0), (.i2l, 1, 0, 0, 0), (.lconst 0, 1, 0, 0, 0), (.ldc2_w 279, 3, 0, 0, 8), (.invokestatic 177, 3, 3, 0, 0), (.goto 53, 3, 112, 0, 0)]
theorem k_X12_slip_45 : z_chk 14 false cX12_slip 5 45 b_X12_slip_45 62 = true := by decide +kernel
def b_X12_slip_62 : List z_E := [(.iload_n 2, 1, 0, 0, 0), (.iconst 3, 1, 0, 0, 0), (.if_icmp .ne 39, 3, 103, 0, 0), (.aload_n 0, 1, 0, 0, 0), (.iload_n 3, 1, 0, 0, 0), (.invokevirtual 205, 3, 2, 0, 0), (.ifCond .eq 27, 3, 99, 0, 0), (.iload_n 3, 1, 0, 0, 0), (.aload_n 0, 1, 0, 0, 0), (.getfield 96, 3, 14, 37, 2), (.iload_n 1, 1, 0, 0, 0), (.iaload, 1, 0, 0, 0), (.if_icmp .eq 17, 3, 99, 0, 0), (.iload_n 3, 1, 0, 0, 0), (.aload_n 0, 1, 0, 0, 0), (.getfield 99, 3, 14, 38, 2), (.iload_n 1, 1, 0, 0, 0), (.iaload, 1, 0, 0, 0), (.if_icmp .eq 7, 3, 99, 0, 0), (.iconst 1, 1, 0, 0, 0), (.goto 16, 3, 112, 0, 0)]
theorem k_X12_slip_62 : z_chk 14 false cX12_slip 5 62 b_X12_slip_62 99 = true := by decide +kernel
def b_X12_slip_99 : List z_E := [(.iconst 0, 1, 0, 0, 0), (.goto 12, 3, 112, 0, 0)]
theorem k_X12_slip_99 : z_chk 14 false cX12_slip 5 99 b_X12_slip_99 103 = true := by decide +kernel
def b_X12_slip_103 : List z_E := [(.iload_n 3, 1, 0, 0, 0), (.ifCond .ne 7, 3, 111, 0, 0), (.iconst 1, 1, 0, 0, 0), (.goto 4, 3, 112, 0, 0)]
theorem k_X12_slip_103 : z_chk 14 false cX12_slip 5 103 b_X12_slip_103 111 = true := by decide +kernel
def b_X12_slip_111 : List z_E := [(.iconst 0, 1, 0, 0, 0)]
theorem k_X12_slip_111 : z_chk 14 false cX12_slip 5 111 b_X12_slip_111 112 = true := by decide +kernel
def b_X12_slip_112 : List z_E := [(.istore 4, 2, 0, 0, 0), (.iload 4, 2, 0, 0, 0), (.ifCond .ne 6, 3, 122, 0, 0), (.bipush (-2), 2, 0, 0, 0), (.ireturn, 1, 0, 0, 0)]
theorem k_X12_slip_112 : z_chk 14 false cX12_slip 5 112 b_X12_slip_112 122 = true := by decide +kernel
def b_X12_slip_122 : List z_E := [(.aload_n 0, 1, 0, 0, 0), (.getfield 114, 3, 14, 43, 2), (.iload_n 1, 1, 0, 0, 0), (.iload_n 2, 1, 0, 0, 0), (.iastore, 1, 0, 0, 0), (.aload_n 0, 1, 0, 0, 0), (.getfield 117, 3, 14, 44, 2), (.iload_n 1, 1, 0, 0, 0), (.iload_n 3, 1, 0, 0, 0), (.iastore, 1, 0, 0, 0), (.iconst 0, 1, 0, 0, 0), (.ireturn, 1, 0, 0, 0)]
theorem k_X12_slip_122 : z_chk 14 false cX12_slip 5 122 b_X12_slip_122 138 = true := by decide +kernel
def b_X12_swapped_0 : List z_E := [(.lconst 1, 1, 0, 0, 0), (.lstore_n 3, 1, 0, 0, 0), (.iconst 0, 1, 0, 0, 0), (.istore 5, 2, 0, 0, 0)]
theorem k_X12_swapped_0 : z_chk 14 false cX12_swapped 9 0 b_X12_swapped_0 5 = true := by decide +kernel
def b_X12_swapped_5 : List z_E := [(.iload 5, 2, 0, 0, 0), (.iload_n 2, 1, 0, 0, 0), (.if_icmp .ge 15, 3, 23, 0, 0), (.lload_n 3, 1, 0, 0, 0), (.ldc2_w 281, 3, 0, 0, 10), (.lmul, 1, 0, 0, 0), (.lstore_n 3, 1, 0, 0, 0), (.iinc 5 1, 3, 0, 0, 0), (.goto (-15), 3, 5, 0, 0)]
theorem k_X12_swapped_5 : z_chk 14 false cX12_swapped 9 5 b_X12_swapped_5 23 = true := by decide +kernel
def b_X12_swapped_23 : List z_E := [(.lload_n 0, 1, 0, 0, 0), (.lload_n 3, 1, 0, 0, 0), (.ldiv, 1, 0, 0, 0), (.ldc2_w 281, 3, 0, 0, 10), (.lrem, 1, 0, 0, 0), (.lstore 5, 2, 0, 0, 0), (.lload_n 0, 1, 0, 0, 0), (.lload_n 3, 1, 0, 0, 0), (.ldiv, 1, 0, 0, 0), (.ldc2_w 281, 3, 0, 0, 10), (.ldiv, 1, 0, 0, 0), (.ldc2_w 281, 3, 0, 0, 10), (.lrem, 1, 0, 0, 0), (.lstore 7, 2, 0, 0, 0), (.lload_n 0, 1, 0, 0, 0), (.lload 7, 2, 0, 0, 0), (.lload 5, 2, 0, 0, 0), (.lsub, 1, 0, 0, 0), (.lload_n 3, 1, 0, 0, 0), (.lmul, 1, 0, 0, 0), (.ladd, 1, 0, 0, 0), (.lload 5, 2, 0, 0, 0), (.lload 7, 2, 0, 0, 0), (.lsub, 1, 0, 0, 0), (.lload_n 3, 1, 0, 0, 0), (.lmul, 1, 0, 0, 0), (.ldc2_w 281, 3, 0, 0, 10), (.lmul, 1, 0, 0, 0), (.ladd, 1, 0, 0, 0), (.lreturn, 1, 0, 0, 0)]
theorem k_X12_swapped_23 : z_chk 14 false cX12_swapped 9 23 b_X12_swapped_23 67 = true := by decide +kernel
def b_X12_does_0 : List z_E := [(.aload_n 0, 1, 0, 0, 0), (.getfield 96, 3, 14, 37, 2), (.iload_n 1, 1, 0, 0, 0), (.iaload, 1, 0, 0, 0), (.istore_n 2, 1, 0, 0, 0), (.aload_n 0, 1, 0, 0, 0), (.getfield 99, 3, 14, 38, 2), (.iload_n 1, 1, 0, 0, 0), (.iaload, 1, 0, 0, 0), (.istore_n 3, 1, 0, 0, 0), (.aload_n 0, 1, 0, 0, 0), (.getfield 126, 3, 14, 47, 2), (.iload_n 1, 1, 0, 0, 0), (.laload, 1, 0, 0, 0), (.lstore 4, 2, 0, 0, 0), (.aload_n 0, 1, 0, 0, 0), (.getfield 108, 3, 14, 41, 2), (.iload_n 1, 1, 0, 0, 0), (.iaload, 1, 0, 0, 0), (.iload_n 2, 1, 0, 0, 0), (.if_icmp .eq 40, 3, 69, 0, 0), (.aload_n 0, 1, 0, 0, 0), (.getfield 69, 3, 14, 28, 2), (.iload_n 2, 1, 0, 0, 0), (.iaload, 1, 0, 0, 0), (.aload_n 0, 1, 0, 0, 0), (.getfield 108, 3, 14, 41, 2), (.iload_n 1, 1, 0, 0, 0), (.iaload, 1, 0, 0, 0), (.if_icmp .ne 16, 3, 60, 0, 0), (.aload_n 0, 1, 0, 0, 0), (.getfield 242, 3, 14, 14, 0), (.aload_n 0, 1, 0, 0, 0), (.getfield 72, 3, 14, 29, 2), (.iload_n 2, 1, 0, 0, 0), (.iaload, 1, 0, 0, 0), (.if_icmp .le 12, 3, 69, 0, 0)]
theorem k_X12_does_0 : z_chk 14 false cX12_does 8 0 b_X12_does_0 60 = true := by decide +kernel
def b_X12_does_60 : List z_E := [(.aload_n 0, 1, 0, 0, 0), (.getfield 111, 3, 14, 42, 2), (.iload_n 1, 1, 0, 0, 0), (.iconst 2, 1, 0, 0, 0), (.iastore, 1, 0, 0, 0), (.iconst 0, 1, 0, 0, 0), (.ireturn, 1, 0, 0, 0)]
theorem k_X12_does_60 : z_chk 14 false cX12_does 8 60 b_X12_does_60 69 = true := by decide +kernel
def b_X12_does_69 : List z_E := [(.aload_n 0, 1, 0, 0, 0), (.getfield 66, 3, 14, 27, 2), (.iload_n 2, 1, 0, 0, 0), (.laload, 1, 0, 0, 0), (.lload 4, 2, 0, 0, 0), (.lcmp, 1, 0, 0, 0), (.ifCond .ge 53, 3, 131, 0, 0), (.aload_n 0, 1, 0, 0, 0), (.getfield 111, 3, 14, 42, 2), (.iload_n 1, 1, 0, 0, 0), (.iconst 3, 1, 0, 0, 0), (.iastore, 1, 0, 0, 0), (.aload_n 0, 1, 0, 0, 0), (.getfield 66, 3, 14, 27, 2), (.iload_n 2, 1, 0, 0, 0), (.laload, 1, 0, 0, 0), (.lload 4, 2, 0, 0, 0), (.aload_n 0, 1, 0, 0, 0), (.getfield 33, 3, 14, 8, 0), (.i2l, 1, 0, 0, 0), (.lmul, 1, 0, 0, 0), (.ldc2_w 191, 3, 0, 0, 100), (.ldiv, 1, 0, 0, 0), (.invokestatic 283, 3, 2, 0, 0), (.lstore 6, 2, 0, 0, 0), (.aload_n 0, 1, 0, 0, 0), (.dup, 1, 0, 0, 0), (.getfield 264, 3, 14, 64, 1), (.lload 6, 2, 0, 0, 0), (.ladd, 1, 0, 0, 0), (.putfield 264, 3, 14, 64, 1), (.aload_n 0, 1, 0, 0, 0), (.iload_n 2, 1, 0, 0, 0), (.lload 6, 2, 0, 0, 0), (.invokevirtual 267, 3, 3, 0, 0), (.iconst 0, 1, 0, 0, 0), (.ireturn, 1, 0, 0, 0)]
theorem k_X12_does_69 : z_chk 14 false cX12_does 8 69 b_X12_does_69 131 = true := by decide +kernel
def b_X12_does_131 : List z_E := [(.aload_n 0, 1, 0, 0, 0), (.getfield 111, 3, 14, 42, 2), (.iload_n 1, 1, 0, 0, 0), (.iconst 1, 1, 0, 0, 0), (.iastore, 1, 0, 0, 0), (.aload_n 0, 1, 0, 0, 0), (.getfield 120, 3, 14, 45, 2), (.iload_n 1, 1, 0, 0, 0), (.aload_n 0, 1, 0, 0, 0), (.getfield 242, 3, 14, 14, 0), (.iastore, 1, 0, 0, 0), (.aload_n 0, 1, 0, 0, 0), (.getfield 66, 3, 14, 27, 2), (.iload_n 2, 1, 0, 0, 0), (.dup2, 1, 0, 0, 0), (.laload, 1, 0, 0, 0), (.lload 4, 2, 0, 0, 0), (.lsub, 1, 0, 0, 0), (.lastore, 1, 0, 0, 0), (.aload_n 0, 1, 0, 0, 0), (.getfield 66, 3, 14, 27, 2), (.iload_n 3, 1, 0, 0, 0), (.dup2, 1, 0, 0, 0), (.laload, 1, 0, 0, 0), (.lload 4, 2, 0, 0, 0), (.ladd, 1, 0, 0, 0), (.lastore, 1, 0, 0, 0), (.aload_n 0, 1, 0, 0, 0), (.aload_n 0, 1, 0, 0, 0), (.getfield 242, 3, 14, 14, 0), (.iload_n 2, 1, 0, 0, 0), (.iconst 0, 1, 0, 0, 0), (.lload 4, 2, 0, 0, 0), (.iload_n 1, 1, 0, 0, 0), (.invokevirtual 249, 3, 6, 0, 0), (.istore 6, 2, 0, 0, 0), (.aload_n 0, 1, 0, 0, 0), (.getfield 114, 3, 14, 43, 2), (.iload_n 1, 1, 0, 0, 0), (.iaload, 1, 0, 0, 0), (.istore 7, 2, 0, 0, 0), (.iload 7, 2, 0, 0, 0), (.ifCond .eq 67, 3, 262, 0, 0), (.aload_n 0, 1, 0, 0, 0), (.getfield 123, 3, 14, 46, 2), (.iload_n 1, 1, 0, 0, 0), (.aload_n 0, 1, 0, 0, 0), (.aload_n 0, 1, 0, 0, 0), (.getfield 242, 3, 14, 14, 0), (.iload 7, 2, 0, 0, 0), (.iconst 3, 1, 0, 0, 0), (.if_icmp .ne 12, 3, 223, 0, 0), (.aload_n 0, 1, 0, 0, 0), (.getfield 117, 3, 14, 44, 2), (.iload_n 1, 1, 0, 0, 0), (.iaload, 1, 0, 0, 0), (.goto 4, 3, 224, 0, 0)]
theorem k_X12_does_131 : z_chk 14 false cX12_does 8 131 b_X12_does_131 223 = true := by decide +kernel
def b_X12_does_223 : List z_E := [(.iload_n 3, 1, 0, 0, 0)]
theorem k_X12_does_223 : z_chk 14 false cX12_does 8 223 b_X12_does_223 224 = true := by decide +kernel
def b_X12_does_224 : List z_E := [(.iload 7, 2, 0, 0, 0), (.iconst 1, 1, 0, 0, 0), (.if_icmp .ne 7, 3, 234, 0, 0), (.iconst 0, 1, 0, 0, 0), (.goto 4, 3, 235, 0, 0)]
theorem k_X12_does_224 : z_chk 14 false cX12_does 8 224 b_X12_does_224 234 = true := by decide +kernel
def b_X12_does_234 : List z_E := [(.iconst 1, 1, 0, 0, 0)]
theorem k_X12_does_234 : z_chk 14 false cX12_does 8 234 b_X12_does_234 235 = true := by decide +kernel
def b_X12_does_235 : List z_E := [(.iload 7, 2, 0, 0, 0), (.iconst 2, 1, 0, 0, 0), (.if_icmp .ne 17, 3, 255, 0, 0), (.lload 4, 2, 0, 0, 0), (.aload_n 0, 1, 0, 0, 0), (.getfield 117, 3, 14, 44, 2), (.iload_n 1, 1, 0, 0, 0), (.iaload, 1, 0, 0, 0), (.invokestatic 289, 3, 2, 0, 0), (.goto 5, 3, 257, 0, 0)]
theorem k_X12_does_235 : z_chk 14 false cX12_does 8 235 b_X12_does_235 255 = true := by decide +kernel
def b_X12_does_255 : List z_E := [(.lload 4, 2, 0, 0, 0)]
theorem k_X12_does_255 : z_chk 14 false cX12_does 8 255 b_X12_does_255 257 = true := by decide +kernel
def b_X12_does_257 : List z_E := [(.iload_n 1, 1, 0, 0, 0), (.invokevirtual 249, 3, 6, 0, 0), (.iastore, 1, 0, 0, 0)]
theorem k_X12_does_257 : z_chk 14 false cX12_does 8 257 b_X12_does_257 262 = true := by decide +kernel
def b_X12_does_262 : List z_E := [(.iconst 1, 1, 0, 0, 0), (.ireturn, 1, 0, 0, 0)]
theorem k_X12_does_262 : z_chk 14 false cX12_does 8 262 b_X12_does_262 264 = true := by decide +kernel
def b_X12_close_0 : List z_E := [(.aload_n 0, 1, 0, 0, 0), (.iconst 0, 1, 0, 0, 0), (.putfield 172, 3, 14, 0, 0), (.aload_n 0, 1, 0, 0, 0), (.getfield 242, 3, 14, 14, 0), (.sipush 5000, 3, 0, 0, 0), (.if_icmp .ne 6, 3, 18, 0, 0), (.bipush (-9), 2, 0, 0, 0), (.ireturn, 1, 0, 0, 0)]
theorem k_X12_close_0 : z_chk 14 false cX12_close 6 0 b_X12_close_0 18 = true := by decide +kernel
def b_X12_close_18 : List z_E := [(.iconst 0, 1, 0, 0, 0), (.istore_n 1, 1, 0, 0, 0), (.lconst 0, 1, 0, 0, 0), (.lstore_n 2, 1, 0, 0, 0), (.iconst 0, 1, 0, 0, 0), (.istore 4, 2, 0, 0, 0)]
theorem k_X12_close_18 : z_chk 14 false cX12_close 6 18 b_X12_close_18 25 = true := by decide +kernel
def b_X12_close_25 : List z_E := [(.iload 4, 2, 0, 0, 0), (.bipush 24, 2, 0, 0, 0), (.if_icmp .ge 88, 3, 117, 0, 0), (.iconst 0, 1, 0, 0, 0), (.istore 5, 2, 0, 0, 0)]
theorem k_X12_close_25 : z_chk 14 false cX12_close 6 25 b_X12_close_25 35 = true := by decide +kernel
def b_X12_close_35 : List z_E := [(.iload 5, 2, 0, 0, 0), (.aload_n 0, 1, 0, 0, 0), (.getfield 215, 3, 14, 18, 0), (.if_icmp .ge 70, 3, 111, 0, 0), (.aload_n 0, 1, 0, 0, 0), (.getfield 111, 3, 14, 42, 2), (.iload 5, 2, 0, 0, 0), (.iaload, 1, 0, 0, 0), (.ifCond .ne 54, 3, 105, 0, 0), (.aload_n 0, 1, 0, 0, 0), (.getfield 102, 3, 14, 39, 2), (.iload 5, 2, 0, 0, 0), (.iaload, 1, 0, 0, 0), (.aload_n 0, 1, 0, 0, 0), (.getfield 242, 3, 14, 14, 0), (.if_icmp .gt 40, 3, 105, 0, 0), (.aload_n 0, 1, 0, 0, 0), (.getfield 105, 3, 14, 40, 2), (.iload 5, 2, 0, 0, 0), (.iaload, 1, 0, 0, 0), (.iload 4, 2, 0, 0, 0), (.if_icmp .ne 28, 3, 105, 0, 0), (.aload_n 0, 1, 0, 0, 0), (.iload 5, 2, 0, 0, 0), (.invokevirtual 293, 3, 2, 0, 0), (.ifCond .ne 6, 3, 92, 0, 0), (.goto 16, 3, 105, 0, 0)]
theorem k_X12_close_35 : z_chk 14 false cX12_close 6 35 b_X12_close_35 92 = true := by decide +kernel
def b_X12_close_92 : List z_E := [(.iinc 1 1, 3, 0, 0, 0), (.lload_n 2, 1, 0, 0, 0), (.aload_n 0, 1, 0, 0, 0), (.getfield 126, 3, 14, 47, 2), (.iload 5, 2, 0, 0, 0), (.laload, 1, 0, 0, 0), (.ladd, 1, 0, 0, 0), (.lstore_n 2, 1, 0, 0, 0)]
theorem k_X12_close_92 : z_chk 14 false cX12_close 6 92 b_X12_close_92 105 = true := by decide +kernel
def b_X12_close_105 : List z_E := [(.iinc 5 1, 3, 0, 0, 0), (.goto (-73), 3, 35, 0, 0)]
theorem k_X12_close_105 : z_chk 14 false cX12_close 6 105 b_X12_close_105 111 = true := by decide +kernel
def b_X12_close_111 : List z_E := [(.iinc 4 1, 3, 0, 0, 0), (.goto (-89), 3, 25, 0, 0)]
theorem k_X12_close_111 : z_chk 14 false cX12_close 6 111 b_X12_close_111 117 = true := by decide +kernel
def b_X12_close_117 : List z_E := [(.iconst 0, 1, 0, 0, 0), (.istore 4, 2, 0, 0, 0)]
theorem k_X12_close_117 : z_chk 14 false cX12_close 6 117 b_X12_close_117 120 = true := by decide +kernel
def b_X12_close_120 : List z_E := [(.iload 4, 2, 0, 0, 0), (.aload_n 0, 1, 0, 0, 0), (.getfield 228, 3, 14, 17, 0), (.if_icmp .ge 41, 3, 167, 0, 0), (.aload_n 0, 1, 0, 0, 0), (.getfield 87, 3, 14, 34, 2), (.iload 4, 2, 0, 0, 0), (.iaload, 1, 0, 0, 0), (.ifCond .ne 25, 3, 161, 0, 0), (.aload_n 0, 1, 0, 0, 0), (.getfield 84, 3, 14, 33, 2), (.iload 4, 2, 0, 0, 0), (.iaload, 1, 0, 0, 0), (.aload_n 0, 1, 0, 0, 0), (.getfield 242, 3, 14, 14, 0), (.if_icmp .gt 11, 3, 161, 0, 0), (.aload_n 0, 1, 0, 0, 0), (.getfield 87, 3, 14, 34, 2), (.iload 4, 2, 0, 0, 0), (.iconst 2, 1, 0, 0, 0), (.iastore, 1, 0, 0, 0)]
theorem k_X12_close_120 : z_chk 14 false cX12_close 6 120 b_X12_close_120 161 = true := by decide +kernel
def b_X12_close_161 : List z_E := [(.iinc 4 1, 3, 0, 0, 0), (.goto (-44), 3, 120, 0, 0)]
theorem k_X12_close_161 : z_chk 14 false cX12_close 6 161 b_X12_close_161 167 = true := by decide +kernel
def b_X12_close_167 : List z_E := [(.aload_n 0, 1, 0, 0, 0), (.getfield 36, 3, 14, 9, 0), (.i2l, 1, 0, 0, 0), (.lload_n 2, 1, 0, 0, 0), (.aload_n 0, 1, 0, 0, 0), (.getfield 245, 3, 14, 63, 1), (.lsub, 1, 0, 0, 0), (.lmul, 1, 0, 0, 0), (.lload_n 2, 1, 0, 0, 0), (.aload_n 0, 1, 0, 0, 0), (.getfield 245, 3, 14, 63, 1), (.ladd, 1, 0, 0, 0), (.ldc2_w 193, 3, 0, 0, 1000), (.ladd, 1, 0, 0, 0), (.ldiv, 1, 0, 0, 0), (.lstore 4, 2, 0, 0, 0), (.aload_n 0, 1, 0, 0, 0), (.dup, 1, 0, 0, 0), (.getfield 48, 3, 14, 13, 0), (.aload_n 0, 1, 0, 0, 0), (.getfield 39, 3, 14, 10, 0), (.ineg, 1, 0, 0, 0), (.i2l, 1, 0, 0, 0), (.aload_n 0, 1, 0, 0, 0), (.getfield 39, 3, 14, 10, 0), (.i2l, 1, 0, 0, 0), (.lload 4, 2, 0, 0, 0), (.invokestatic 283, 3, 2, 0, 0), (.invokestatic 296, 3, 2, 0, 0), (.l2i, 1, 0, 0, 0), (.iadd, 1, 0, 0, 0), (.putfield 48, 3, 14, 13, 0), (.aload_n 0, 1, 0, 0, 0), (.bipush (-100), 2, 0, 0, 0), (.sipush 300, 3, 0, 0, 0), (.aload_n 0, 1, 0, 0, 0), (.getfield 48, 3, 14, 13, 0), (.invokestatic 299, 3, 2, 0, 0), (.invokestatic 302, 3, 2, 0, 0), (.putfield 48, 3, 14, 13, 0), (.aload_n 0, 1, 0, 0, 0), (.dup, 1, 0, 0, 0), (.getfield 304, 3, 14, 65, 1), (.iconst 0, 1, 0, 0, 0), (.aload_n 0, 1, 0, 0, 0), (.getfield 48, 3, 14, 13, 0), (.aload_n 0, 1, 0, 0, 0), (.getfield 45, 3, 14, 12, 0), (.isub, 1, 0, 0, 0), (.invokestatic 302, 3, 2, 0, 0), (.i2l, 1, 0, 0, 0), (.ladd, 1, 0, 0, 0), (.putfield 304, 3, 14, 65, 1), (.aload_n 0, 1, 0, 0, 0), (.dup, 1, 0, 0, 0), (.getfield 307, 3, 14, 66, 1), (.iconst 0, 1, 0, 0, 0), (.aload_n 0, 1, 0, 0, 0), (.getfield 42, 3, 14, 11, 0), (.aload_n 0, 1, 0, 0, 0), (.getfield 48, 3, 14, 13, 0), (.isub, 1, 0, 0, 0), (.invokestatic 302, 3, 2, 0, 0), (.i2l, 1, 0, 0, 0), (.ladd, 1, 0, 0, 0), (.putfield 307, 3, 14, 66, 1), (.aload_n 0, 1, 0, 0, 0), (.aload_n 0, 1, 0, 0, 0), (.getfield 42, 3, 14, 11, 0), (.aload_n 0, 1, 0, 0, 0), (.getfield 45, 3, 14, 12, 0), (.aload_n 0, 1, 0, 0, 0), (.getfield 48, 3, 14, 13, 0), (.invokestatic 299, 3, 2, 0, 0), (.invokestatic 302, 3, 2, 0, 0), (.putfield 48, 3, 14, 13, 0), (.aload_n 0, 1, 0, 0, 0), (.lconst 0, 1, 0, 0, 0), (.putfield 245, 3, 14, 63, 1), (.aload_n 0, 1, 0, 0, 0), (.dup, 1, 0, 0, 0), (.getfield 242, 3, 14, 14, 0), (.iconst 1, 1, 0, 0, 0), (.iadd, 1, 0, 0, 0), (.putfield 242, 3, 14, 14, 0), (.iload_n 1, 1, 0, 0, 0), (.ireturn, 1, 0, 0, 0)]
theorem k_X12_close_167 : z_chk 14 false cX12_close 6 167 b_X12_close_167 325 = true := by decide +kernel
def b_X12_suspects_0 : List z_E := [(.aload_n 0, 1, 0, 0, 0), (.iconst 0, 1, 0, 0, 0), (.putfield 172, 3, 14, 0, 0), (.iload_n 1, 1, 0, 0, 0), (.i2l, 1, 0, 0, 0), (.lconst 0, 1, 0, 0, 0), (.aload_n 0, 1, 0, 0, 0), (.getfield 242, 3, 14, 14, 0), (.iconst 1, 1, 0, 0, 0), (.isub, 1, 0, 0, 0), (.i2l, 1, 0, 0, 0), (.invokestatic 177, 3, 3, 0, 0), (.ifCond .ne 6, 3, 24, 0, 0), (.bipush (-2), 2, 0, 0, 0), (.ireturn, 1, 0, 0, 0)]
theorem k_X12_suspects_0 : z_chk 14 false cX12_suspects 6 0 b_X12_suspects_0 24 = true := by decide +kernel
def b_X12_suspects_24 : List z_E := [(.lconst 0, 1, 0, 0, 0), (.lstore_n 2, 1, 0, 0, 0), (.iconst 0, 1, 0, 0, 0), (.istore 4, 2, 0, 0, 0)]
theorem k_X12_suspects_24 : z_chk 14 false cX12_suspects 6 24 b_X12_suspects_24 29 = true := by decide +kernel
def b_X12_suspects_29 : List z_E := [(.iload 4, 2, 0, 0, 0), (.aload_n 0, 1, 0, 0, 0), (.getfield 212, 3, 14, 19, 0), (.if_icmp .ge 62, 3, 97, 0, 0), (.aload_n 0, 1, 0, 0, 0), (.getfield 133, 3, 14, 49, 2), (.iload 4, 2, 0, 0, 0), (.iaload, 1, 0, 0, 0), (.iload_n 1, 1, 0, 0, 0), (.if_icmp .ne 45, 3, 91, 0, 0), (.aload_n 0, 1, 0, 0, 0), (.getfield 145, 3, 14, 53, 2), (.iload 4, 2, 0, 0, 0), (.iaload, 1, 0, 0, 0), (.iconst (-1), 1, 0, 0, 0), (.if_icmp .eq 34, 3, 91, 0, 0), (.lload_n 2, 1, 0, 0, 0), (.aload_n 0, 1, 0, 0, 0), (.getfield 142, 3, 14, 52, 2), (.iload 4, 2, 0, 0, 0), (.iaload, 1, 0, 0, 0), (.ifCond .ne 13, 3, 81, 0, 0), (.aload_n 0, 1, 0, 0, 0), (.getfield 148, 3, 14, 54, 2), (.iload 4, 2, 0, 0, 0), (.laload, 1, 0, 0, 0), (.goto 11, 3, 89, 0, 0)]
theorem k_X12_suspects_29 : z_chk 14 false cX12_suspects 6 29 b_X12_suspects_29 81 = true := by decide +kernel
def b_X12_suspects_81 : List z_E := [(.aload_n 0, 1, 0, 0, 0), (.getfield 148, 3, 14, 54, 2), (.iload 4, 2, 0, 0, 0), (.laload, 1, 0, 0, 0), (.lneg, 1, 0, 0, 0)]
theorem k_X12_suspects_81 : z_chk 14 false cX12_suspects 6 81 b_X12_suspects_81 89 = true := by decide +kernel
def b_X12_suspects_89 : List z_E := [(.ladd, 1, 0, 0, 0), (.lstore_n 2, 1, 0, 0, 0)]
theorem k_X12_suspects_89 : z_chk 14 false cX12_suspects 6 89 b_X12_suspects_89 91 = true := by decide +kernel
def b_X12_suspects_91 : List z_E := [(.iinc 4 1, 3, 0, 0, 0), (.goto (-65), 3, 29, 0, 0)]
theorem k_X12_suspects_91 : z_chk 14 false cX12_suspects 6 91 b_X12_suspects_91 97 = true := by decide +kernel
def b_X12_suspects_97 : List z_E := [(.aload_n 0, 1, 0, 0, 0), (.iconst 0, 1, 0, 0, 0), (.putfield 310, 3, 14, 62, 0), (.lload_n 2, 1, 0, 0, 0), (.lconst 0, 1, 0, 0, 0), (.lcmp, 1, 0, 0, 0), (.ifCond .ne 5, 3, 110, 0, 0), (.iconst (-1), 1, 0, 0, 0), (.ireturn, 1, 0, 0, 0)]
theorem k_X12_suspects_97 : z_chk 14 false cX12_suspects 6 97 b_X12_suspects_97 110 = true := by decide +kernel
def b_X12_suspects_110 : List z_E := [(.iconst 0, 1, 0, 0, 0), (.istore 4, 2, 0, 0, 0)]
theorem k_X12_suspects_110 : z_chk 14 false cX12_suspects 6 110 b_X12_suspects_110 113 = true := by decide +kernel
def b_X12_suspects_113 : List z_E := [(.iload 4, 2, 0, 0, 0), (.aload_n 0, 1, 0, 0, 0), (.getfield 212, 3, 14, 19, 0), (.if_icmp .ge 84, 3, 203, 0, 0), (.aload_n 0, 1, 0, 0, 0), (.getfield 133, 3, 14, 49, 2), (.iload 4, 2, 0, 0, 0), (.iaload, 1, 0, 0, 0), (.iload_n 1, 1, 0, 0, 0), (.if_icmp .ne 67, 3, 197, 0, 0), (.aload_n 0, 1, 0, 0, 0), (.getfield 145, 3, 14, 53, 2), (.iload 4, 2, 0, 0, 0), (.iaload, 1, 0, 0, 0), (.iconst (-1), 1, 0, 0, 0), (.if_icmp .ne 6, 3, 147, 0, 0), (.goto 53, 3, 197, 0, 0)]
theorem k_X12_suspects_113 : z_chk 14 false cX12_suspects 6 113 b_X12_suspects_113 147 = true := by decide +kernel
def b_X12_suspects_147 : List z_E := [(.aload_n 0, 1, 0, 0, 0), (.iload 4, 2, 0, 0, 0), (.lload_n 2, 1, 0, 0, 0), (.invokevirtual 313, 3, 3, 0, 0), (.istore 5, 2, 0, 0, 0), (.iload 5, 2, 0, 0, 0), (.iconst (-1), 1, 0, 0, 0), (.if_icmp .ne 6, 3, 165, 0, 0), (.goto 35, 3, 197, 0, 0)]
theorem k_X12_suspects_147 : z_chk 14 false cX12_suspects 6 147 b_X12_suspects_147 165 = true := by decide +kernel
def b_X12_suspects_165 : List z_E := [(.aload_n 0, 1, 0, 0, 0), (.getfield 166, 3, 14, 60, 2), (.aload_n 0, 1, 0, 0, 0), (.getfield 310, 3, 14, 62, 0), (.iload 4, 2, 0, 0, 0), (.iastore, 1, 0, 0, 0), (.aload_n 0, 1, 0, 0, 0), (.getfield 169, 3, 14, 61, 2), (.aload_n 0, 1, 0, 0, 0), (.getfield 310, 3, 14, 62, 0), (.iload 5, 2, 0, 0, 0), (.iastore, 1, 0, 0, 0), (.aload_n 0, 1, 0, 0, 0), (.dup, 1, 0, 0, 0), (.getfield 310, 3, 14, 62, 0), (.iconst 1, 1, 0, 0, 0), (.iadd, 1, 0, 0, 0), (.putfield 310, 3, 14, 62, 0)]
theorem k_X12_suspects_165 : z_chk 14 false cX12_suspects 6 165 b_X12_suspects_165 197 = true := by decide +kernel
def b_X12_suspects_197 : List z_E := [(.iinc 4 1, 3, 0, 0, 0), (.goto (-87), 3, 113, 0, 0)]
theorem k_X12_suspects_197 : z_chk 14 false cX12_suspects 6 197 b_X12_suspects_197 203 = true := by decide +kernel
def b_X12_suspects_203 : List z_E := [(.aload_n 0, 1, 0, 0, 0), (.getfield 310, 3, 14, 62, 0), (.ireturn, 1, 0, 0, 0)]
theorem k_X12_suspects_203 : z_chk 14 false cX12_suspects 6 203 b_X12_suspects_203 208 = true := by decide +kernel
def b_X12_howOf_0 : List z_E := [(.aload_n 0, 1, 0, 0, 0), (.getfield 142, 3, 14, 52, 2), (.iload_n 1, 1, 0, 0, 0), (.iaload, 1, 0, 0, 0), (.ifCond .ne 49, 3, 55, 0, 0), (.aload_n 0, 1, 0, 0, 0), (.getfield 148, 3, 14, 54, 2), (.iload_n 1, 1, 0, 0, 0), (.laload, 1, 0, 0, 0), (.lload_n 2, 1, 0, 0, 0), (.lcmp, 1, 0, 0, 0), (.ifCond .ne 7, 3, 24, 0, 0), (.iconst 0, 1, 0, 0, 0), (.goto 33, 3, 54, 0, 0)]
theorem k_X12_howOf_0 : z_chk 14 false cX12_howOf 5 0 b_X12_howOf_0 24 = true := by decide +kernel
def b_X12_howOf_24 : List z_E := [(.lload_n 2, 1, 0, 0, 0), (.ldc2_w 317, 3, 0, 0, 2), (.lrem, 1, 0, 0, 0), (.lconst 0, 1, 0, 0, 0), (.lcmp, 1, 0, 0, 0), (.ifCond .ne 22, 3, 53, 0, 0), (.aload_n 0, 1, 0, 0, 0), (.getfield 148, 3, 14, 54, 2), (.iload_n 1, 1, 0, 0, 0), (.laload, 1, 0, 0, 0), (.lload_n 2, 1, 0, 0, 0), (.ldc2_w 317, 3, 0, 0, 2), (.ldiv, 1, 0, 0, 0), (.lcmp, 1, 0, 0, 0), (.ifCond .ne 7, 3, 53, 0, 0), (.iconst 1, 1, 0, 0, 0), (.goto 4, 3, 54, 0, 0)]
theorem k_X12_howOf_24 : z_chk 14 false cX12_howOf 5 24 b_X12_howOf_24 53 = true := by decide +kernel
def b_X12_howOf_53 : List z_E := [(.iconst (-1), 1, 0, 0, 0)]
theorem k_X12_howOf_53 : z_chk 14 false cX12_howOf 5 53 b_X12_howOf_53 54 = true := by decide +kernel
def b_X12_howOf_54 : List z_E := [(.ireturn, 1, 0, 0, 0)]
theorem k_X12_howOf_54 : z_chk 14 false cX12_howOf 5 54 b_X12_howOf_54 55 = true := by decide +kernel
def b_X12_howOf_55 : List z_E := [(.lload_n 2, 1, 0, 0, 0), (.ldc2_w 319, 3, 0, 0, 9), (.lrem, 1, 0, 0, 0), (.lconst 0, 1, 0, 0, 0), (.lcmp, 1, 0, 0, 0), (.ifCond .eq 5, 3, 67, 0, 0), (.iconst (-1), 1, 0, 0, 0), (.ireturn, 1, 0, 0, 0)]
theorem k_X12_howOf_55 : z_chk 14 false cX12_howOf 5 55 b_X12_howOf_55 67 = true := by decide +kernel
def b_X12_howOf_67 : List z_E := [(.iconst 0, 1, 0, 0, 0), (.istore 4, 2, 0, 0, 0)]
theorem k_X12_howOf_67 : z_chk 14 false cX12_howOf 5 67 b_X12_howOf_67 70 = true := by decide +kernel
def b_X12_howOf_70 : List z_E := [(.iload 4, 2, 0, 0, 0), (.bipush 9, 2, 0, 0, 0), (.if_icmp .ge 34, 3, 108, 0, 0), (.aload_n 0, 1, 0, 0, 0), (.getfield 148, 3, 14, 54, 2), (.iload_n 1, 1, 0, 0, 0), (.laload, 1, 0, 0, 0), (.iload 4, 2, 0, 0, 0), (.invokestatic 289, 3, 2, 0, 0), (.aload_n 0, 1, 0, 0, 0), (.getfield 148, 3, 14, 54, 2), (.iload_n 1, 1, 0, 0, 0), (.laload, 1, 0, 0, 0), (.lload_n 2, 1, 0, 0, 0), (.ladd, 1, 0, 0, 0), (.lcmp, 1, 0, 0, 0), (.ifCond .ne 5, 3, 102, 0, 0), (.iconst 2, 1, 0, 0, 0), (.ireturn, 1, 0, 0, 0)]
theorem k_X12_howOf_70 : z_chk 14 false cX12_howOf 5 70 b_X12_howOf_70 102 = true := by decide +kernel
def b_X12_howOf_102 : List z_E := [(.iinc 4 1, 3, 0, 0, 0), (.goto (-35), 3, 70, 0, 0)]
theorem k_X12_howOf_102 : z_chk 14 false cX12_howOf 5 102 b_X12_howOf_102 108 = true := by decide +kernel
def b_X12_howOf_108 : List z_E := [(.iconst (-1), 1, 0, 0, 0), (.ireturn, 1, 0, 0, 0)]
theorem k_X12_howOf_108 : z_chk 14 false cX12_howOf 5 108 b_X12_howOf_108 110 = true := by decide +kernel
def b_X12_suspect_0 : List z_E := [(.aload_n 0, 1, 0, 0, 0), (.iconst 0, 1, 0, 0, 0), (.putfield 172, 3, 14, 0, 0), (.iload_n 1, 1, 0, 0, 0), (.i2l, 1, 0, 0, 0), (.lconst 0, 1, 0, 0, 0), (.aload_n 0, 1, 0, 0, 0), (.getfield 310, 3, 14, 62, 0), (.iconst 1, 1, 0, 0, 0), (.isub, 1, 0, 0, 0), (.i2l, 1, 0, 0, 0), (.invokestatic 177, 3, 3, 0, 0), (.ifCond .ne 5, 3, 23, 0, 0), (.iconst (-1), 1, 0, 0, 0), (.ireturn, 1, 0, 0, 0)]
theorem k_X12_suspect_0 : z_chk 14 false cX12_suspect 3 0 b_X12_suspect_0 23 = true := by decide +kernel
def b_X12_suspect_23 : List z_E := [(.iload_n 2, 1, 0, 0, 0), (.ifCond .ne 12, 3, 36, 0, 0), (.aload_n 0, 1, 0, 0, 0), (.getfield 166, 3, 14, 60, 2), (.iload_n 1, 1, 0, 0, 0), (.iaload, 1, 0, 0, 0), (.goto 18, 3, 51, 0, 0)]
theorem k_X12_suspect_23 : z_chk 14 false cX12_suspect 3 23 b_X12_suspect_23 36 = true := by decide +kernel
def b_X12_suspect_36 : List z_E := [(.iload_n 2, 1, 0, 0, 0), (.iconst 1, 1, 0, 0, 0), (.if_icmp .ne 12, 3, 50, 0, 0), (.aload_n 0, 1, 0, 0, 0), (.getfield 169, 3, 14, 61, 2), (.iload_n 1, 1, 0, 0, 0), (.iaload, 1, 0, 0, 0), (.goto 4, 3, 51, 0, 0)]
theorem k_X12_suspect_36 : z_chk 14 false cX12_suspect 3 36 b_X12_suspect_36 50 = true := by decide +kernel
def b_X12_suspect_50 : List z_E := [(.iconst (-1), 1, 0, 0, 0)]
theorem k_X12_suspect_50 : z_chk 14 false cX12_suspect 3 50 b_X12_suspect_50 51 = true := by decide +kernel
def b_X12_suspect_51 : List z_E := [(.ireturn, 1, 0, 0, 0)]
theorem k_X12_suspect_51 : z_chk 14 false cX12_suspect 3 51 b_X12_suspect_51 52 = true := by decide +kernel
def b_X12_mend_0 : List z_E := [(.aload_n 0, 1, 0, 0, 0), (.iconst 0, 1, 0, 0, 0), (.putfield 172, 3, 14, 0, 0), (.iload_n 1, 1, 0, 0, 0), (.i2l, 1, 0, 0, 0), (.lconst 0, 1, 0, 0, 0), (.aload_n 0, 1, 0, 0, 0), (.getfield 215, 3, 14, 18, 0), (.iconst 1, 1, 0, 0, 0), (.isub, 1, 0, 0, 0), (.i2l, 1, 0, 0, 0), (.invokestatic 177, 3, 3, 0, 0), (.ifCond .eq 32, 3, 50, 0, 0), (.aload_n 0, 1, 0, 0, 0), (.getfield 111, 3, 14, 42, 2), (.iload_n 1, 1, 0, 0, 0), (.iaload, 1, 0, 0, 0), (.iconst 1, 1, 0, 0, 0), (.if_icmp .ne 22, 3, 50, 0, 0), (.aload_n 0, 1, 0, 0, 0), (.getfield 114, 3, 14, 43, 2), (.iload_n 1, 1, 0, 0, 0), (.iaload, 1, 0, 0, 0), (.iconst (-1), 1, 0, 0, 0), (.if_icmp .eq 12, 3, 50, 0, 0), (.aload_n 0, 1, 0, 0, 0), (.getfield 129, 3, 14, 48, 2), (.iload_n 1, 1, 0, 0, 0), (.baload, 1, 0, 0, 0), (.ifCond .eq 5, 3, 52, 0, 0)]
theorem k_X12_mend_0 : z_chk 14 false cX12_mend 3 0 b_X12_mend_0 50 = true := by decide +kernel
def b_X12_mend_50 : List z_E := [(.iconst 0, 1, 0, 0, 0), (.ireturn, 1, 0, 0, 0)]
theorem k_X12_mend_50 : z_chk 14 false cX12_mend 3 50 b_X12_mend_50 52 = true := by decide +kernel
def b_X12_mend_52 : List z_E := [(.aload_n 0, 1, 0, 0, 0), (.getfield 123, 3, 14, 46, 2), (.iload_n 1, 1, 0, 0, 0), (.iaload, 1, 0, 0, 0), (.istore_n 2, 1, 0, 0, 0), (.iload_n 2, 1, 0, 0, 0), (.iconst (-1), 1, 0, 0, 0), (.if_icmp .ne 46, 3, 107, 0, 0), (.aload_n 0, 1, 0, 0, 0), (.invokevirtual 231, 3, 1, 0, 0), (.iconst 1, 1, 0, 0, 0), (.if_icmp .ge 5, 3, 74, 0, 0), (.iconst 0, 1, 0, 0, 0), (.ireturn, 1, 0, 0, 0)]
theorem k_X12_mend_52 : z_chk 14 false cX12_mend 3 52 b_X12_mend_52 74 = true := by decide +kernel
def b_X12_mend_74 : List z_E := [(.aload_n 0, 1, 0, 0, 0), (.getfield 123, 3, 14, 46, 2), (.iload_n 1, 1, 0, 0, 0), (.aload_n 0, 1, 0, 0, 0), (.aload_n 0, 1, 0, 0, 0), (.getfield 120, 3, 14, 45, 2), (.iload_n 1, 1, 0, 0, 0), (.iaload, 1, 0, 0, 0), (.aload_n 0, 1, 0, 0, 0), (.getfield 99, 3, 14, 38, 2), (.iload_n 1, 1, 0, 0, 0), (.iaload, 1, 0, 0, 0), (.iconst 1, 1, 0, 0, 0), (.aload_n 0, 1, 0, 0, 0), (.getfield 126, 3, 14, 47, 2), (.iload_n 1, 1, 0, 0, 0), (.laload, 1, 0, 0, 0), (.iload_n 1, 1, 0, 0, 0), (.invokevirtual 249, 3, 6, 0, 0), (.iastore, 1, 0, 0, 0), (.goto 34, 3, 138, 0, 0)]
theorem k_X12_mend_74 : z_chk 14 false cX12_mend 3 74 b_X12_mend_74 107 = true := by decide +kernel
def b_X12_mend_107 : List z_E := [(.aload_n 0, 1, 0, 0, 0), (.getfield 136, 3, 14, 50, 2), (.iload_n 2, 1, 0, 0, 0), (.aload_n 0, 1, 0, 0, 0), (.getfield 99, 3, 14, 38, 2), (.iload_n 1, 1, 0, 0, 0), (.iaload, 1, 0, 0, 0), (.iastore, 1, 0, 0, 0), (.aload_n 0, 1, 0, 0, 0), (.getfield 142, 3, 14, 52, 2), (.iload_n 2, 1, 0, 0, 0), (.iconst 1, 1, 0, 0, 0), (.iastore, 1, 0, 0, 0), (.aload_n 0, 1, 0, 0, 0), (.getfield 148, 3, 14, 54, 2), (.iload_n 2, 1, 0, 0, 0), (.aload_n 0, 1, 0, 0, 0), (.getfield 126, 3, 14, 47, 2), (.iload_n 1, 1, 0, 0, 0), (.laload, 1, 0, 0, 0), (.lastore, 1, 0, 0, 0)]
theorem k_X12_mend_107 : z_chk 14 false cX12_mend 3 107 b_X12_mend_107 138 = true := by decide +kernel
def b_X12_mend_138 : List z_E := [(.aload_n 0, 1, 0, 0, 0), (.getfield 129, 3, 14, 48, 2), (.iload_n 1, 1, 0, 0, 0), (.iconst 1, 1, 0, 0, 0), (.bastore, 1, 0, 0, 0), (.iconst 1, 1, 0, 0, 0), (.ireturn, 1, 0, 0, 0)]
theorem k_X12_mend_138 : z_chk 14 false cX12_mend 3 138 b_X12_mend_138 147 = true := by decide +kernel
def b_X12_weighed_0 : List z_E := [(.aload_n 0, 1, 0, 0, 0), (.iconst 0, 1, 0, 0, 0), (.putfield 172, 3, 14, 0, 0), (.aload_n 0, 1, 0, 0, 0), (.iload_n 1, 1, 0, 0, 0), (.invokevirtual 225, 3, 2, 0, 0), (.ifCond .eq 22, 3, 32, 0, 0), (.iload_n 2, 1, 0, 0, 0), (.invokestatic 181, 3, 1, 0, 0), (.ifCond .eq 15, 3, 32, 0, 0), (.iload_n 3, 1, 0, 0, 0), (.i2l, 1, 0, 0, 0), (.lconst 0, 1, 0, 0, 0), (.ldc2_w 321, 3, 0, 0, 4), (.invokestatic 177, 3, 3, 0, 0), (.ifCond .ne 7, 3, 36, 0, 0)]
theorem k_X12_weighed_0 : z_chk 14 false cX12_weighed 15 0 b_X12_weighed_0 32 = true := by decide +kernel
def b_X12_weighed_32 : List z_E := [(.ldc2_w 256, 3, 0, 0, (-2)), (.lreturn, 1, 0, 0, 0)]
theorem k_X12_weighed_32 : z_chk 14 false cX12_weighed 15 32 b_X12_weighed_32 36 = true := by decide +kernel
def b_X12_weighed_36 : List z_E := [(.aload_n 0, 1, 0, 0, 0), (.getfield 9, 3, 14, 1, 2), (.iload_n 2, 1, 0, 0, 0), (.iaload, 1, 0, 0, 0), (.ifCond .ge 7, 3, 49, 0, 0), (.ldc2_w 323, 3, 0, 0, (-5)), (.lreturn, 1, 0, 0, 0)]
theorem k_X12_weighed_36 : z_chk 14 false cX12_weighed 15 36 b_X12_weighed_36 49 = true := by decide +kernel
def b_X12_weighed_49 : List z_E := [(.ldc2_w 327, 3, 0, 0, 9223372036854775807), (.lstore 4, 2, 0, 0, 0), (.lconst 0, 1, 0, 0, 0), (.lstore 6, 2, 0, 0, 0), (.lconst 0, 1, 0, 0, 0), (.lstore 8, 2, 0, 0, 0), (.lconst 0, 1, 0, 0, 0), (.lstore 10, 2, 0, 0, 0), (.iconst 0, 1, 0, 0, 0), (.istore 12, 2, 0, 0, 0)]
theorem k_X12_weighed_49 : z_chk 14 false cX12_weighed 15 49 b_X12_weighed_49 66 = true := by decide +kernel
def b_X12_weighed_66 : List z_E := [(.iload 12, 2, 0, 0, 0), (.aload_n 0, 1, 0, 0, 0), (.getfield 13, 3, 14, 2, 2), (.iload_n 2, 1, 0, 0, 0), (.iaload, 1, 0, 0, 0), (.if_icmp .ge 67, 3, 141, 0, 0), (.aload_n 0, 1, 0, 0, 0), (.getfield 16, 3, 14, 3, 2), (.bipush 60, 2, 0, 0, 0), (.iload_n 2, 1, 0, 0, 0), (.imul, 1, 0, 0, 0), (.iload 12, 2, 0, 0, 0), (.iadd, 1, 0, 0, 0), (.laload, 1, 0, 0, 0), (.lstore 13, 2, 0, 0, 0), (.aload_n 0, 1, 0, 0, 0), (.iload_n 1, 1, 0, 0, 0), (.lload 13, 2, 0, 0, 0), (.invokevirtual 235, 3, 3, 0, 0), (.ifCond .ne 6, 3, 104, 0, 0), (.goto 34, 3, 135, 0, 0)]
theorem k_X12_weighed_66 : z_chk 14 false cX12_weighed 15 66 b_X12_weighed_66 104 = true := by decide +kernel
def b_X12_weighed_104 : List z_E := [(.lload 4, 2, 0, 0, 0), (.lload 13, 2, 0, 0, 0), (.invokestatic 283, 3, 2, 0, 0), (.lstore 4, 2, 0, 0, 0), (.lload 6, 2, 0, 0, 0), (.lload 13, 2, 0, 0, 0), (.invokestatic 296, 3, 2, 0, 0), (.lstore 6, 2, 0, 0, 0), (.lload 8, 2, 0, 0, 0), (.lconst 1, 1, 0, 0, 0), (.ladd, 1, 0, 0, 0), (.lstore 8, 2, 0, 0, 0), (.lload 10, 2, 0, 0, 0), (.lload 13, 2, 0, 0, 0), (.ladd, 1, 0, 0, 0), (.lstore 10, 2, 0, 0, 0)]
theorem k_X12_weighed_104 : z_chk 14 false cX12_weighed 15 104 b_X12_weighed_104 135 = true := by decide +kernel
def b_X12_weighed_135 : List z_E := [(.iinc 12 1, 3, 0, 0, 0), (.goto (-72), 3, 66, 0, 0)]
theorem k_X12_weighed_135 : z_chk 14 false cX12_weighed 15 135 b_X12_weighed_135 141 = true := by decide +kernel
def b_X12_weighed_141 : List z_E := [(.iload_n 3, 1, 0, 0, 0), (.iconst 2, 1, 0, 0, 0), (.if_icmp .ge 14, 3, 157, 0, 0), (.lload 8, 2, 0, 0, 0), (.lconst 0, 1, 0, 0, 0), (.lcmp, 1, 0, 0, 0), (.ifCond .ne 7, 3, 157, 0, 0), (.ldc2_w 262, 3, 0, 0, (-8)), (.lreturn, 1, 0, 0, 0)]
theorem k_X12_weighed_141 : z_chk 14 false cX12_weighed 15 141 b_X12_weighed_141 157 = true := by decide +kernel
def b_X12_weighed_157 : List z_E := [(.iload_n 3, 1, 0, 0, 0), (.ifCond .ne 8, 3, 166, 0, 0), (.lload 4, 2, 0, 0, 0), (.goto 40, 3, 203, 0, 0)]
theorem k_X12_weighed_157 : z_chk 14 false cX12_weighed 15 157 b_X12_weighed_157 166 = true := by decide +kernel
def b_X12_weighed_166 : List z_E := [(.iload_n 3, 1, 0, 0, 0), (.iconst 1, 1, 0, 0, 0), (.if_icmp .ne 8, 3, 176, 0, 0), (.lload 6, 2, 0, 0, 0), (.goto 30, 3, 203, 0, 0)]
theorem k_X12_weighed_166 : z_chk 14 false cX12_weighed 15 166 b_X12_weighed_166 176 = true := by decide +kernel
def b_X12_weighed_176 : List z_E := [(.iload_n 3, 1, 0, 0, 0), (.iconst 2, 1, 0, 0, 0), (.if_icmp .ne 8, 3, 186, 0, 0), (.lload 8, 2, 0, 0, 0), (.goto 20, 3, 203, 0, 0)]
theorem k_X12_weighed_176 : z_chk 14 false cX12_weighed 15 176 b_X12_weighed_176 186 = true := by decide +kernel
def b_X12_weighed_186 : List z_E := [(.iload_n 3, 1, 0, 0, 0), (.iconst 3, 1, 0, 0, 0), (.if_icmp .ne 8, 3, 196, 0, 0), (.lload 10, 2, 0, 0, 0), (.goto 10, 3, 203, 0, 0)]
theorem k_X12_weighed_186 : z_chk 14 false cX12_weighed 15 186 b_X12_weighed_186 196 = true := by decide +kernel
def b_X12_weighed_196 : List z_E := [(.aload_n 0, 1, 0, 0, 0), (.iload_n 1, 1, 0, 0, 0), (.lload 10, 2, 0, 0, 0), (.invokevirtual 239, 3, 3, 0, 0)]
theorem k_X12_weighed_196 : z_chk 14 false cX12_weighed 15 196 b_X12_weighed_196 203 = true := by decide +kernel
def b_X12_weighed_203 : List z_E := [(.lreturn, 1, 0, 0, 0)]
theorem k_X12_weighed_203 : z_chk 14 false cX12_weighed 15 203 b_X12_weighed_203 204 = true := by decide +kernel
def b_X12_loan_0 : List z_E := [(.aload_n 0, 1, 0, 0, 0), (.iconst 0, 1, 0, 0, 0), (.putfield 172, 3, 14, 0, 0), (.aload_n 0, 1, 0, 0, 0), (.iload_n 1, 1, 0, 0, 0), (.invokevirtual 225, 3, 2, 0, 0), (.ifCond .eq 8, 3, 18, 0, 0), (.iload_n 2, 1, 0, 0, 0), (.iconst 1, 1, 0, 0, 0), (.if_icmp .ge 6, 3, 21, 0, 0)]
theorem k_X12_loan_0 : z_chk 14 false cX12_loan 7 0 b_X12_loan_0 18 = true := by decide +kernel
def b_X12_loan_18 : List z_E := [(.bipush (-2), 2, 0, 0, 0), (.ireturn, 1, 0, 0, 0)]
theorem k_X12_loan_18 : z_chk 14 false cX12_loan 7 18 b_X12_loan_18 21 = true := by decide +kernel
def b_X12_loan_21 : List z_E := [(.aload_n 0, 1, 0, 0, 0), (.getfield 60, 3, 14, 25, 2), (.iload_n 1, 1, 0, 0, 0), (.laload, 1, 0, 0, 0), (.iload_n 2, 1, 0, 0, 0), (.i2l, 1, 0, 0, 0), (.lcmp, 1, 0, 0, 0), (.ifCond .ge 6, 3, 36, 0, 0), (.bipush (-8), 2, 0, 0, 0), (.ireturn, 1, 0, 0, 0)]
theorem k_X12_loan_21 : z_chk 14 false cX12_loan 7 21 b_X12_loan_21 36 = true := by decide +kernel
def b_X12_loan_36 : List z_E := [(.aload_n 0, 1, 0, 0, 0), (.getfield 329, 3, 14, 21, 0), (.bipush 20, 2, 0, 0, 0), (.if_icmp .ne 6, 3, 48, 0, 0), (.bipush (-3), 2, 0, 0, 0), (.ireturn, 1, 0, 0, 0)]
theorem k_X12_loan_36 : z_chk 14 false cX12_loan 7 36 b_X12_loan_36 48 = true := by decide +kernel
def b_X12_loan_48 : List z_E := [(.aload_n 0, 1, 0, 0, 0), (.getfield 63, 3, 14, 26, 2), (.iload_n 1, 1, 0, 0, 0), (.laload, 1, 0, 0, 0), (.iload_n 2, 1, 0, 0, 0), (.i2l, 1, 0, 0, 0), (.lmul, 1, 0, 0, 0), (.aload_n 0, 1, 0, 0, 0), (.getfield 60, 3, 14, 25, 2), (.iload_n 1, 1, 0, 0, 0), (.laload, 1, 0, 0, 0), (.ldiv, 1, 0, 0, 0), (.lstore 4, 2, 0, 0, 0), (.aload_n 0, 1, 0, 0, 0), (.getfield 60, 3, 14, 25, 2), (.iload_n 1, 1, 0, 0, 0), (.dup2, 1, 0, 0, 0), (.laload, 1, 0, 0, 0), (.iload_n 2, 1, 0, 0, 0), (.i2l, 1, 0, 0, 0), (.lsub, 1, 0, 0, 0), (.lastore, 1, 0, 0, 0), (.aload_n 0, 1, 0, 0, 0), (.getfield 63, 3, 14, 26, 2), (.iload_n 1, 1, 0, 0, 0), (.dup2, 1, 0, 0, 0), (.laload, 1, 0, 0, 0), (.lload 4, 2, 0, 0, 0), (.lsub, 1, 0, 0, 0), (.lastore, 1, 0, 0, 0), (.aload_n 0, 1, 0, 0, 0), (.getfield 157, 3, 14, 57, 2), (.aload_n 0, 1, 0, 0, 0), (.getfield 329, 3, 14, 21, 0), (.aload_n 0, 1, 0, 0, 0), (.getfield 242, 3, 14, 14, 0), (.iastore, 1, 0, 0, 0), (.aload_n 0, 1, 0, 0, 0), (.getfield 163, 3, 14, 59, 2), (.aload_n 0, 1, 0, 0, 0), (.getfield 329, 3, 14, 21, 0), (.aload_n 0, 1, 0, 0, 0), (.iload_n 1, 1, 0, 0, 0), (.lload 4, 2, 0, 0, 0), (.invokevirtual 239, 3, 3, 0, 0), (.lastore, 1, 0, 0, 0), (.iconst 0, 1, 0, 0, 0), (.istore 6, 2, 0, 0, 0)]
theorem k_X12_loan_48 : z_chk 14 false cX12_loan 7 48 b_X12_loan_48 120 = true := by decide +kernel
def b_X12_loan_120 : List z_E := [(.iload 6, 2, 0, 0, 0), (.bipush 32, 2, 0, 0, 0), (.if_icmp .ge 42, 3, 166, 0, 0), (.aload_n 0, 1, 0, 0, 0), (.getfield 160, 3, 14, 58, 2), (.bipush 32, 2, 0, 0, 0), (.aload_n 0, 1, 0, 0, 0), (.getfield 329, 3, 14, 21, 0), (.imul, 1, 0, 0, 0), (.iload 6, 2, 0, 0, 0), (.iadd, 1, 0, 0, 0), (.iload_n 3, 1, 0, 0, 0), (.iload 6, 2, 0, 0, 0), (.iushr, 1, 0, 0, 0), (.iconst 1, 1, 0, 0, 0), (.iand, 1, 0, 0, 0), (.iconst 1, 1, 0, 0, 0), (.if_icmp .ne 10, 3, 158, 0, 0), (.aload_n 0, 1, 0, 0, 0), (.getfield 242, 3, 14, 14, 0), (.goto 4, 3, 159, 0, 0)]
theorem k_X12_loan_120 : z_chk 14 false cX12_loan 7 120 b_X12_loan_120 158 = true := by decide +kernel
def b_X12_loan_158 : List z_E := [(.iconst (-1), 1, 0, 0, 0)]
theorem k_X12_loan_158 : z_chk 14 false cX12_loan 7 158 b_X12_loan_158 159 = true := by decide +kernel
def b_X12_loan_159 : List z_E := [(.iastore, 1, 0, 0, 0), (.iinc 6 1, 3, 0, 0, 0), (.goto (-43), 3, 120, 0, 0)]
theorem k_X12_loan_159 : z_chk 14 false cX12_loan 7 159 b_X12_loan_159 166 = true := by decide +kernel
def b_X12_loan_166 : List z_E := [(.aload_n 0, 1, 0, 0, 0), (.dup, 1, 0, 0, 0), (.getfield 329, 3, 14, 21, 0), (.iconst 1, 1, 0, 0, 0), (.iadd, 1, 0, 0, 0), (.putfield 329, 3, 14, 21, 0), (.aload_n 0, 1, 0, 0, 0), (.getfield 329, 3, 14, 21, 0), (.iconst 1, 1, 0, 0, 0), (.isub, 1, 0, 0, 0), (.ireturn, 1, 0, 0, 0)]
theorem k_X12_loan_166 : z_chk 14 false cX12_loan 7 166 b_X12_loan_166 183 = true := by decide +kernel
def b_X12_tell_0 : List z_E := [(.aload_n 0, 1, 0, 0, 0), (.iconst 0, 1, 0, 0, 0), (.putfield 172, 3, 14, 0, 0), (.iload_n 1, 1, 0, 0, 0), (.i2l, 1, 0, 0, 0), (.lconst 0, 1, 0, 0, 0), (.aload_n 0, 1, 0, 0, 0), (.getfield 329, 3, 14, 21, 0), (.iconst 1, 1, 0, 0, 0), (.isub, 1, 0, 0, 0), (.i2l, 1, 0, 0, 0), (.invokestatic 177, 3, 3, 0, 0), (.ifCond .eq 30, 3, 48, 0, 0), (.iload_n 2, 1, 0, 0, 0), (.i2l, 1, 0, 0, 0), (.lconst 0, 1, 0, 0, 0), (.ldc2_w 332, 3, 0, 0, 31), (.invokestatic 177, 3, 3, 0, 0), (.ifCond .eq 18, 3, 48, 0, 0), (.aload_n 0, 1, 0, 0, 0), (.getfield 160, 3, 14, 58, 2), (.bipush 32, 2, 0, 0, 0), (.iload_n 1, 1, 0, 0, 0), (.imul, 1, 0, 0, 0), (.iload_n 2, 1, 0, 0, 0), (.iadd, 1, 0, 0, 0), (.iaload, 1, 0, 0, 0), (.iconst (-1), 1, 0, 0, 0), (.if_icmp .eq 5, 3, 50, 0, 0)]
theorem k_X12_tell_0 : z_chk 14 false cX12_tell 3 0 b_X12_tell_0 48 = true := by decide +kernel
def b_X12_tell_48 : List z_E := [(.iconst 0, 1, 0, 0, 0), (.ireturn, 1, 0, 0, 0)]
theorem k_X12_tell_48 : z_chk 14 false cX12_tell 3 48 b_X12_tell_48 50 = true := by decide +kernel
def b_X12_tell_50 : List z_E := [(.aload_n 0, 1, 0, 0, 0), (.getfield 160, 3, 14, 58, 2), (.bipush 32, 2, 0, 0, 0), (.iload_n 1, 1, 0, 0, 0), (.imul, 1, 0, 0, 0), (.iload_n 2, 1, 0, 0, 0), (.iadd, 1, 0, 0, 0), (.aload_n 0, 1, 0, 0, 0), (.getfield 242, 3, 14, 14, 0), (.iastore, 1, 0, 0, 0), (.iconst 1, 1, 0, 0, 0), (.ireturn, 1, 0, 0, 0)]
theorem k_X12_tell_50 : z_chk 14 false cX12_tell 3 50 b_X12_tell_50 67 = true := by decide +kernel
def b_X12_gap_0 : List z_E := [(.aload_n 0, 1, 0, 0, 0), (.iconst 0, 1, 0, 0, 0), (.putfield 172, 3, 14, 0, 0), (.iload_n 1, 1, 0, 0, 0), (.i2l, 1, 0, 0, 0), (.lconst 0, 1, 0, 0, 0), (.ldc2_w 332, 3, 0, 0, 31), (.invokestatic 177, 3, 3, 0, 0), (.ifCond .eq 17, 3, 31, 0, 0), (.iload_n 2, 1, 0, 0, 0), (.i2l, 1, 0, 0, 0), (.lconst 0, 1, 0, 0, 0), (.aload_n 0, 1, 0, 0, 0), (.getfield 242, 3, 14, 14, 0), (.i2l, 1, 0, 0, 0), (.invokestatic 177, 3, 3, 0, 0), (.ifCond .ne 7, 3, 35, 0, 0)]
theorem k_X12_gap_0 : z_chk 14 false cX12_gap 6 0 b_X12_gap_0 31 = true := by decide +kernel
def b_X12_gap_31 : List z_E := [(.ldc2_w 334, 3, 0, 0, (-1)), (.lreturn, 1, 0, 0, 0)]
theorem k_X12_gap_31 : z_chk 14 false cX12_gap 6 31 b_X12_gap_31 35 = true := by decide +kernel
def b_X12_gap_35 : List z_E := [(.lconst 0, 1, 0, 0, 0), (.lstore_n 3, 1, 0, 0, 0), (.iconst 0, 1, 0, 0, 0), (.istore 5, 2, 0, 0, 0)]
theorem k_X12_gap_35 : z_chk 14 false cX12_gap 6 35 b_X12_gap_35 40 = true := by decide +kernel
def b_X12_gap_40 : List z_E := [(.iload 5, 2, 0, 0, 0), (.aload_n 0, 1, 0, 0, 0), (.getfield 329, 3, 14, 21, 0), (.if_icmp .ge 52, 3, 98, 0, 0), (.aload_n 0, 1, 0, 0, 0), (.getfield 157, 3, 14, 57, 2), (.iload 5, 2, 0, 0, 0), (.iaload, 1, 0, 0, 0), (.iload_n 2, 1, 0, 0, 0), (.if_icmp .gt 35, 3, 92, 0, 0), (.aload_n 0, 1, 0, 0, 0), (.getfield 160, 3, 14, 58, 2), (.bipush 32, 2, 0, 0, 0), (.iload 5, 2, 0, 0, 0), (.imul, 1, 0, 0, 0), (.iload_n 1, 1, 0, 0, 0), (.iadd, 1, 0, 0, 0), (.iaload, 1, 0, 0, 0), (.i2l, 1, 0, 0, 0), (.lconst 0, 1, 0, 0, 0), (.iload_n 2, 1, 0, 0, 0), (.i2l, 1, 0, 0, 0), (.invokestatic 177, 3, 3, 0, 0), (.ifCond .eq 13, 3, 92, 0, 0), (.lload_n 3, 1, 0, 0, 0), (.aload_n 0, 1, 0, 0, 0), (.getfield 163, 3, 14, 59, 2), (.iload 5, 2, 0, 0, 0), (.laload, 1, 0, 0, 0), (.ladd, 1, 0, 0, 0), (.lstore_n 3, 1, 0, 0, 0)]
theorem k_X12_gap_40 : z_chk 14 false cX12_gap 6 40 b_X12_gap_40 92 = true := by decide +kernel
def b_X12_gap_92 : List z_E := [(.iinc 5 1, 3, 0, 0, 0), (.goto (-55), 3, 40, 0, 0)]
theorem k_X12_gap_92 : z_chk 14 false cX12_gap 6 92 b_X12_gap_92 98 = true := by decide +kernel
def b_X12_gap_98 : List z_E := [(.lload_n 3, 1, 0, 0, 0), (.lreturn, 1, 0, 0, 0)]
theorem k_X12_gap_98 : z_chk 14 false cX12_gap 6 98 b_X12_gap_98 100 = true := by decide +kernel
def b_X12_vaultBook_0 : List z_E := [(.lconst 0, 1, 0, 0, 0), (.lstore_n 1, 1, 0, 0, 0), (.iconst 0, 1, 0, 0, 0), (.istore_n 3, 1, 0, 0, 0)]
theorem k_X12_vaultBook_0 : z_chk 14 false cX12_vaultBook 4 0 b_X12_vaultBook_0 4 = true := by decide +kernel
def b_X12_vaultBook_4 : List z_E := [(.iload_n 3, 1, 0, 0, 0), (.aload_n 0, 1, 0, 0, 0), (.getfield 199, 3, 14, 15, 0), (.if_icmp .ge 23, 3, 32, 0, 0), (.lload_n 1, 1, 0, 0, 0), (.aload_n 0, 1, 0, 0, 0), (.iload_n 3, 1, 0, 0, 0), (.aload_n 0, 1, 0, 0, 0), (.getfield 63, 3, 14, 26, 2), (.iload_n 3, 1, 0, 0, 0), (.laload, 1, 0, 0, 0), (.invokevirtual 239, 3, 3, 0, 0), (.ladd, 1, 0, 0, 0), (.lstore_n 1, 1, 0, 0, 0), (.iinc 3 1, 3, 0, 0, 0), (.goto (-25), 3, 4, 0, 0)]
theorem k_X12_vaultBook_4 : z_chk 14 false cX12_vaultBook 4 4 b_X12_vaultBook_4 32 = true := by decide +kernel
def b_X12_vaultBook_32 : List z_E := [(.lload_n 1, 1, 0, 0, 0), (.lreturn, 1, 0, 0, 0)]
theorem k_X12_vaultBook_32 : z_chk 14 false cX12_vaultBook 4 32 b_X12_vaultBook_32 34 = true := by decide +kernel
def b_X12_balances_0 : List z_E := [(.lconst 0, 1, 0, 0, 0), (.lstore_n 1, 1, 0, 0, 0), (.iconst 0, 1, 0, 0, 0), (.istore_n 3, 1, 0, 0, 0)]
theorem k_X12_balances_0 : z_chk 14 false cX12_balances 4 0 b_X12_balances_0 4 = true := by decide +kernel
def b_X12_balances_4 : List z_E := [(.iload_n 3, 1, 0, 0, 0), (.aload_n 0, 1, 0, 0, 0), (.getfield 202, 3, 14, 16, 0), (.if_icmp .ge 18, 3, 27, 0, 0), (.lload_n 1, 1, 0, 0, 0), (.aload_n 0, 1, 0, 0, 0), (.getfield 66, 3, 14, 27, 2), (.iload_n 3, 1, 0, 0, 0), (.laload, 1, 0, 0, 0), (.ladd, 1, 0, 0, 0), (.lstore_n 1, 1, 0, 0, 0), (.iinc 3 1, 3, 0, 0, 0), (.goto (-20), 3, 4, 0, 0)]
theorem k_X12_balances_4 : z_chk 14 false cX12_balances 4 4 b_X12_balances_4 27 = true := by decide +kernel
def b_X12_balances_27 : List z_E := [(.lload_n 1, 1, 0, 0, 0), (.lreturn, 1, 0, 0, 0)]
theorem k_X12_balances_27 : z_chk 14 false cX12_balances 4 27 b_X12_balances_27 29 = true := by decide +kernel
def b_X12_run_0 : List z_E := [(.aload_n 0, 1, 0, 0, 0), (.iconst 0, 1, 0, 0, 0), (.putfield 172, 3, 14, 0, 0), (.lload_n 1, 1, 0, 0, 0), (.lconst 1, 1, 0, 0, 0), (.ldc2_w 271, 3, 0, 0, 1000000000), (.invokestatic 177, 3, 3, 0, 0), (.ifCond .ne 7, 3, 20, 0, 0), (.ldc2_w 256, 3, 0, 0, (-2)), (.lreturn, 1, 0, 0, 0)]
theorem k_X12_run_0 : z_chk 14 false cX12_run 5 0 b_X12_run_0 20 = true := by decide +kernel
def b_X12_run_20 : List z_E := [(.aload_n 0, 1, 0, 0, 0), (.invokevirtual 336, 3, 1, 0, 0), (.lstore_n 3, 1, 0, 0, 0), (.lload_n 3, 1, 0, 0, 0), (.aload_n 0, 1, 0, 0, 0), (.invokevirtual 340, 3, 1, 0, 0), (.lcmp, 1, 0, 0, 0), (.ifCond .lt 9, 3, 40, 0, 0), (.ldc2_w 334, 3, 0, 0, (-1)), (.goto 10, 3, 47, 0, 0)]
theorem k_X12_run_20 : z_chk 14 false cX12_run 5 20 b_X12_run_20 40 = true := by decide +kernel
def b_X12_run_40 : List z_E := [(.lload_n 3, 1, 0, 0, 0), (.lload_n 1, 1, 0, 0, 0), (.ladd, 1, 0, 0, 0), (.lconst 1, 1, 0, 0, 0), (.lsub, 1, 0, 0, 0), (.lload_n 1, 1, 0, 0, 0), (.ldiv, 1, 0, 0, 0)]
theorem k_X12_run_40 : z_chk 14 false cX12_run 5 40 b_X12_run_40 47 = true := by decide +kernel
def b_X12_run_47 : List z_E := [(.lreturn, 1, 0, 0, 0)]
theorem k_X12_run_47 : z_chk 14 false cX12_run 5 47 b_X12_run_47 48 = true := by decide +kernel
def b_X12_accountOf_0 : List z_E := [(.aload_n 0, 1, 0, 0, 0), (.iconst 0, 1, 0, 0, 0), (.putfield 172, 3, 14, 0, 0), (.aload_n 0, 1, 0, 0, 0), (.iload_n 1, 1, 0, 0, 0), (.invokevirtual 205, 3, 2, 0, 0), (.ifCond .ne 6, 3, 16, 0, 0), (.bipush (-2), 2, 0, 0, 0), (.ireturn, 1, 0, 0, 0)]
theorem k_X12_accountOf_0 : z_chk 14 false cX12_accountOf 5 0 b_X12_accountOf_0 16 = true := by decide +kernel
def b_X12_accountOf_16 : List z_E := [(.iload_n 2, 1, 0, 0, 0), (.tableswitch 106 0 3 #[31, 37, 78, 85], 31, 17, 0, 0)]
theorem k_X12_accountOf_16 : z_chk 14 false cX12_accountOf 5 16 b_X12_accountOf_16 48 = true := by decide +kernel
def b_X12_accountOf_48 : List z_E := [(.aload_n 0, 1, 0, 0, 0), (.iload_n 1, 1, 0, 0, 0), (.invokevirtual 221, 3, 2, 0, 0), (.ireturn, 1, 0, 0, 0)]
theorem k_X12_accountOf_48 : z_chk 14 false cX12_accountOf 5 48 b_X12_accountOf_48 54 = true := by decide +kernel
def b_X12_accountOf_54 : List z_E := [(.iconst 0, 1, 0, 0, 0), (.istore_n 3, 1, 0, 0, 0), (.iconst 0, 1, 0, 0, 0), (.istore 4, 2, 0, 0, 0)]
theorem k_X12_accountOf_54 : z_chk 14 false cX12_accountOf 5 54 b_X12_accountOf_54 59 = true := by decide +kernel
def b_X12_accountOf_59 : List z_E := [(.iload 4, 2, 0, 0, 0), (.aload_n 0, 1, 0, 0, 0), (.getfield 218, 3, 14, 20, 0), (.if_icmp .ge 28, 3, 93, 0, 0), (.iload_n 3, 1, 0, 0, 0), (.aload_n 0, 1, 0, 0, 0), (.getfield 151, 3, 14, 55, 2), (.iload 4, 2, 0, 0, 0), (.iaload, 1, 0, 0, 0), (.iload_n 1, 1, 0, 0, 0), (.if_icmp .ne 7, 3, 84, 0, 0), (.iconst 1, 1, 0, 0, 0), (.goto 4, 3, 85, 0, 0)]
theorem k_X12_accountOf_59 : z_chk 14 false cX12_accountOf 5 59 b_X12_accountOf_59 84 = true := by decide +kernel
def b_X12_accountOf_84 : List z_E := [(.iconst 0, 1, 0, 0, 0)]
theorem k_X12_accountOf_84 : z_chk 14 false cX12_accountOf 5 84 b_X12_accountOf_84 85 = true := by decide +kernel
def b_X12_accountOf_85 : List z_E := [(.iadd, 1, 0, 0, 0), (.istore_n 3, 1, 0, 0, 0), (.iinc 4 1, 3, 0, 0, 0), (.goto (-31), 3, 59, 0, 0)]
theorem k_X12_accountOf_85 : z_chk 14 false cX12_accountOf 5 85 b_X12_accountOf_85 93 = true := by decide +kernel
def b_X12_accountOf_93 : List z_E := [(.iload_n 3, 1, 0, 0, 0), (.ireturn, 1, 0, 0, 0)]
theorem k_X12_accountOf_93 : z_chk 14 false cX12_accountOf 5 93 b_X12_accountOf_93 95 = true := by decide +kernel
def b_X12_accountOf_95 : List z_E := [(.aload_n 0, 1, 0, 0, 0), (.getfield 69, 3, 14, 28, 2), (.iload_n 1, 1, 0, 0, 0), (.iaload, 1, 0, 0, 0), (.ireturn, 1, 0, 0, 0)]
theorem k_X12_accountOf_95 : z_chk 14 false cX12_accountOf 5 95 b_X12_accountOf_95 102 = true := by decide +kernel
def b_X12_accountOf_102 : List z_E := [(.aload_n 0, 1, 0, 0, 0), (.getfield 69, 3, 14, 28, 2), (.iload_n 1, 1, 0, 0, 0), (.iaload, 1, 0, 0, 0), (.iconst (-1), 1, 0, 0, 0), (.if_icmp .ne 7, 3, 116, 0, 0), (.iconst (-1), 1, 0, 0, 0), (.goto 9, 3, 122, 0, 0)]
theorem k_X12_accountOf_102 : z_chk 14 false cX12_accountOf 5 102 b_X12_accountOf_102 116 = true := by decide +kernel
def b_X12_accountOf_116 : List z_E := [(.aload_n 0, 1, 0, 0, 0), (.getfield 72, 3, 14, 29, 2), (.iload_n 1, 1, 0, 0, 0), (.iaload, 1, 0, 0, 0)]
theorem k_X12_accountOf_116 : z_chk 14 false cX12_accountOf 5 116 b_X12_accountOf_116 122 = true := by decide +kernel
def b_X12_accountOf_122 : List z_E := [(.ireturn, 1, 0, 0, 0)]
theorem k_X12_accountOf_122 : z_chk 14 false cX12_accountOf 5 122 b_X12_accountOf_122 123 = true := by decide +kernel
def b_X12_accountOf_123 : List z_E := [(.bipush (-2), 2, 0, 0, 0), (.ireturn, 1, 0, 0, 0)]
theorem k_X12_accountOf_123 : z_chk 14 false cX12_accountOf 5 123 b_X12_accountOf_123 126 = true := by decide +kernel
def b_X12_folio_0 : List z_E := [(.aload_n 0, 1, 0, 0, 0), (.iconst 0, 1, 0, 0, 0), (.putfield 172, 3, 14, 0, 0), (.aload_n 0, 1, 0, 0, 0), (.iload_n 1, 1, 0, 0, 0), (.invokevirtual 205, 3, 2, 0, 0), (.ifCond .eq 7, 3, 17, 0, 0), (.iload_n 2, 1, 0, 0, 0), (.ifCond .ge 5, 3, 19, 0, 0)]
theorem k_X12_folio_0 : z_chk 14 false cX12_folio 5 0 b_X12_folio_0 17 = true := by decide +kernel
def b_X12_folio_17 : List z_E := [(.iconst (-1), 1, 0, 0, 0), (.ireturn, 1, 0, 0, 0)]
theorem k_X12_folio_17 : z_chk 14 false cX12_folio 5 17 b_X12_folio_17 19 = true := by decide +kernel
def b_X12_folio_19 : List z_E := [(.iload_n 2, 1, 0, 0, 0), (.istore_n 3, 1, 0, 0, 0), (.iconst 0, 1, 0, 0, 0), (.istore 4, 2, 0, 0, 0)]
theorem k_X12_folio_19 : z_chk 14 false cX12_folio 5 19 b_X12_folio_19 24 = true := by decide +kernel
def b_X12_folio_24 : List z_E := [(.iload 4, 2, 0, 0, 0), (.aload_n 0, 1, 0, 0, 0), (.getfield 218, 3, 14, 20, 0), (.if_icmp .ge 33, 3, 63, 0, 0), (.aload_n 0, 1, 0, 0, 0), (.getfield 151, 3, 14, 55, 2), (.iload 4, 2, 0, 0, 0), (.iaload, 1, 0, 0, 0), (.iload_n 1, 1, 0, 0, 0), (.if_icmp .eq 6, 3, 47, 0, 0), (.goto 13, 3, 57, 0, 0)]
theorem k_X12_folio_24 : z_chk 14 false cX12_folio 5 24 b_X12_folio_24 47 = true := by decide +kernel
def b_X12_folio_47 : List z_E := [(.iload_n 3, 1, 0, 0, 0), (.ifCond .ne 6, 3, 54, 0, 0), (.iload 4, 2, 0, 0, 0), (.ireturn, 1, 0, 0, 0)]
theorem k_X12_folio_47 : z_chk 14 false cX12_folio 5 47 b_X12_folio_47 54 = true := by decide +kernel
def b_X12_folio_54 : List z_E := [(.iinc 3 (-1), 3, 0, 0, 0)]
theorem k_X12_folio_54 : z_chk 14 false cX12_folio 5 54 b_X12_folio_54 57 = true := by decide +kernel
def b_X12_folio_57 : List z_E := [(.iinc 4 1, 3, 0, 0, 0), (.goto (-36), 3, 24, 0, 0)]
theorem k_X12_folio_57 : z_chk 14 false cX12_folio 5 57 b_X12_folio_57 63 = true := by decide +kernel
def b_X12_folio_63 : List z_E := [(.iconst (-1), 1, 0, 0, 0), (.ireturn, 1, 0, 0, 0)]
theorem k_X12_folio_63 : z_chk 14 false cX12_folio 5 63 b_X12_folio_63 65 = true := by decide +kernel
def b_X12_balance_0 : List z_E := [(.aload_n 0, 1, 0, 0, 0), (.iconst 0, 1, 0, 0, 0), (.putfield 172, 3, 14, 0, 0), (.aload_n 0, 1, 0, 0, 0), (.iload_n 1, 1, 0, 0, 0), (.invokevirtual 205, 3, 2, 0, 0), (.ifCond .eq 12, 3, 22, 0, 0), (.aload_n 0, 1, 0, 0, 0), (.getfield 66, 3, 14, 27, 2), (.iload_n 1, 1, 0, 0, 0), (.laload, 1, 0, 0, 0), (.goto 4, 3, 23, 0, 0)]
theorem k_X12_balance_0 : z_chk 14 false cX12_balance 2 0 b_X12_balance_0 22 = true := by decide +kernel
def b_X12_balance_22 : List z_E := [(.lconst 0, 1, 0, 0, 0)]
theorem k_X12_balance_22 : z_chk 14 false cX12_balance 2 22 b_X12_balance_22 23 = true := by decide +kernel
def b_X12_balance_23 : List z_E := [(.lreturn, 1, 0, 0, 0)]
theorem k_X12_balance_23 : z_chk 14 false cX12_balance 2 23 b_X12_balance_23 24 = true := by decide +kernel
def b_X12_written_0 : List z_E := [(.aload_n 0, 1, 0, 0, 0), (.iconst 0, 1, 0, 0, 0), (.putfield 172, 3, 14, 0, 0), (.lconst 0, 1, 0, 0, 0), (.lstore_n 2, 1, 0, 0, 0), (.iconst 0, 1, 0, 0, 0), (.istore 4, 2, 0, 0, 0)]
theorem k_X12_written_0 : z_chk 14 false cX12_written 5 0 b_X12_written_0 10 = true := by decide +kernel
def b_X12_written_10 : List z_E := [(.iload 4, 2, 0, 0, 0), (.aload_n 0, 1, 0, 0, 0), (.getfield 212, 3, 14, 19, 0), (.if_icmp .ge 52, 3, 68, 0, 0), (.aload_n 0, 1, 0, 0, 0), (.getfield 136, 3, 14, 50, 2), (.iload 4, 2, 0, 0, 0), (.iaload, 1, 0, 0, 0), (.iload_n 1, 1, 0, 0, 0), (.if_icmp .ne 35, 3, 62, 0, 0), (.lload_n 2, 1, 0, 0, 0), (.aload_n 0, 1, 0, 0, 0), (.getfield 142, 3, 14, 52, 2), (.iload 4, 2, 0, 0, 0), (.iaload, 1, 0, 0, 0), (.iconst 1, 1, 0, 0, 0), (.if_icmp .ne 13, 3, 52, 0, 0), (.aload_n 0, 1, 0, 0, 0), (.getfield 148, 3, 14, 54, 2), (.iload 4, 2, 0, 0, 0), (.laload, 1, 0, 0, 0), (.goto 11, 3, 60, 0, 0)]
theorem k_X12_written_10 : z_chk 14 false cX12_written 5 10 b_X12_written_10 52 = true := by decide +kernel
def b_X12_written_52 : List z_E := [(.aload_n 0, 1, 0, 0, 0), (.getfield 148, 3, 14, 54, 2), (.iload 4, 2, 0, 0, 0), (.laload, 1, 0, 0, 0), (.lneg, 1, 0, 0, 0)]
theorem k_X12_written_52 : z_chk 14 false cX12_written 5 52 b_X12_written_52 60 = true := by decide +kernel
def b_X12_written_60 : List z_E := [(.ladd, 1, 0, 0, 0), (.lstore_n 2, 1, 0, 0, 0)]
theorem k_X12_written_60 : z_chk 14 false cX12_written 5 60 b_X12_written_60 62 = true := by decide +kernel
def b_X12_written_62 : List z_E := [(.iinc 4 1, 3, 0, 0, 0), (.goto (-55), 3, 10, 0, 0)]
theorem k_X12_written_62 : z_chk 14 false cX12_written 5 62 b_X12_written_62 68 = true := by decide +kernel
def b_X12_written_68 : List z_E := [(.lload_n 2, 1, 0, 0, 0), (.lreturn, 1, 0, 0, 0)]
theorem k_X12_written_68 : z_chk 14 false cX12_written 5 68 b_X12_written_68 70 = true := by decide +kernel
def b_X12_line_0 : List z_E := [(.aload_n 0, 1, 0, 0, 0), (.iconst 0, 1, 0, 0, 0), (.putfield 172, 3, 14, 0, 0), (.iload_n 1, 1, 0, 0, 0), (.i2l, 1, 0, 0, 0), (.lconst 0, 1, 0, 0, 0), (.aload_n 0, 1, 0, 0, 0), (.getfield 212, 3, 14, 19, 0), (.iconst 1, 1, 0, 0, 0), (.isub, 1, 0, 0, 0), (.i2l, 1, 0, 0, 0), (.invokestatic 177, 3, 3, 0, 0), (.ifCond .ne 6, 3, 24, 0, 0), (.bipush (-2), 2, 0, 0, 0), (.ireturn, 1, 0, 0, 0)]
theorem k_X12_line_0 : z_chk 14 false cX12_line 3 0 b_X12_line_0 24 = true := by decide +kernel
def b_X12_line_24 : List z_E := [(.iload_n 2, 1, 0, 0, 0), (.tableswitch 70 0 4 #[35, 42, 49, 56, 63], 35, 25, 0, 0)]
theorem k_X12_line_24 : z_chk 14 false cX12_line 3 24 b_X12_line_24 60 = true := by decide +kernel
def b_X12_line_60 : List z_E := [(.aload_n 0, 1, 0, 0, 0), (.getfield 133, 3, 14, 49, 2), (.iload_n 1, 1, 0, 0, 0), (.iaload, 1, 0, 0, 0), (.ireturn, 1, 0, 0, 0)]
theorem k_X12_line_60 : z_chk 14 false cX12_line 3 60 b_X12_line_60 67 = true := by decide +kernel
def b_X12_line_67 : List z_E := [(.aload_n 0, 1, 0, 0, 0), (.getfield 136, 3, 14, 50, 2), (.iload_n 1, 1, 0, 0, 0), (.iaload, 1, 0, 0, 0), (.ireturn, 1, 0, 0, 0)]
theorem k_X12_line_67 : z_chk 14 false cX12_line 3 67 b_X12_line_67 74 = true := by decide +kernel
def b_X12_line_74 : List z_E := [(.aload_n 0, 1, 0, 0, 0), (.getfield 139, 3, 14, 51, 2), (.iload_n 1, 1, 0, 0, 0), (.iaload, 1, 0, 0, 0), (.ireturn, 1, 0, 0, 0)]
theorem k_X12_line_74 : z_chk 14 false cX12_line 3 74 b_X12_line_74 81 = true := by decide +kernel
def b_X12_line_81 : List z_E := [(.aload_n 0, 1, 0, 0, 0), (.getfield 142, 3, 14, 52, 2), (.iload_n 1, 1, 0, 0, 0), (.iaload, 1, 0, 0, 0), (.ireturn, 1, 0, 0, 0)]
theorem k_X12_line_81 : z_chk 14 false cX12_line 3 81 b_X12_line_81 88 = true := by decide +kernel
def b_X12_line_88 : List z_E := [(.aload_n 0, 1, 0, 0, 0), (.getfield 145, 3, 14, 53, 2), (.iload_n 1, 1, 0, 0, 0), (.iaload, 1, 0, 0, 0), (.ireturn, 1, 0, 0, 0)]
theorem k_X12_line_88 : z_chk 14 false cX12_line 3 88 b_X12_line_88 95 = true := by decide +kernel
def b_X12_line_95 : List z_E := [(.bipush (-2), 2, 0, 0, 0), (.ireturn, 1, 0, 0, 0)]
theorem k_X12_line_95 : z_chk 14 false cX12_line 3 95 b_X12_line_95 98 = true := by decide +kernel
def b_X12_lineSum_0 : List z_E := [(.aload_n 0, 1, 0, 0, 0), (.iconst 0, 1, 0, 0, 0), (.putfield 172, 3, 14, 0, 0), (.iload_n 1, 1, 0, 0, 0), (.i2l, 1, 0, 0, 0), (.lconst 0, 1, 0, 0, 0), (.aload_n 0, 1, 0, 0, 0), (.getfield 212, 3, 14, 19, 0), (.iconst 1, 1, 0, 0, 0), (.isub, 1, 0, 0, 0), (.i2l, 1, 0, 0, 0), (.invokestatic 177, 3, 3, 0, 0), (.ifCond .eq 12, 3, 30, 0, 0), (.aload_n 0, 1, 0, 0, 0), (.getfield 148, 3, 14, 54, 2), (.iload_n 1, 1, 0, 0, 0), (.laload, 1, 0, 0, 0), (.goto 4, 3, 31, 0, 0)]
theorem k_X12_lineSum_0 : z_chk 14 false cX12_lineSum 2 0 b_X12_lineSum_0 30 = true := by decide +kernel
def b_X12_lineSum_30 : List z_E := [(.lconst 0, 1, 0, 0, 0)]
theorem k_X12_lineSum_30 : z_chk 14 false cX12_lineSum 2 30 b_X12_lineSum_30 31 = true := by decide +kernel
def b_X12_lineSum_31 : List z_E := [(.lreturn, 1, 0, 0, 0)]
theorem k_X12_lineSum_31 : z_chk 14 false cX12_lineSum 2 31 b_X12_lineSum_31 32 = true := by decide +kernel
def b_X12_orderOf_0 : List z_E := [(.aload_n 0, 1, 0, 0, 0), (.iconst 0, 1, 0, 0, 0), (.putfield 172, 3, 14, 0, 0), (.iload_n 1, 1, 0, 0, 0), (.i2l, 1, 0, 0, 0), (.lconst 0, 1, 0, 0, 0), (.aload_n 0, 1, 0, 0, 0), (.getfield 215, 3, 14, 18, 0), (.iconst 1, 1, 0, 0, 0), (.isub, 1, 0, 0, 0), (.i2l, 1, 0, 0, 0), (.invokestatic 177, 3, 3, 0, 0), (.ifCond .ne 6, 3, 24, 0, 0), (.bipush (-2), 2, 0, 0, 0), (.ireturn, 1, 0, 0, 0)]
theorem k_X12_orderOf_0 : z_chk 14 false cX12_orderOf 3 0 b_X12_orderOf_0 24 = true := by decide +kernel
def b_X12_orderOf_24 : List z_E := [(.iload_n 2, 1, 0, 0, 0), (.tableswitch 100 0 6 #[43, 50, 57, 64, 71, 78, 85], 43, 25, 0, 0)]
theorem k_X12_orderOf_24 : z_chk 14 false cX12_orderOf 3 24 b_X12_orderOf_24 68 = true := by decide +kernel
def b_X12_orderOf_68 : List z_E := [(.aload_n 0, 1, 0, 0, 0), (.getfield 96, 3, 14, 37, 2), (.iload_n 1, 1, 0, 0, 0), (.iaload, 1, 0, 0, 0), (.ireturn, 1, 0, 0, 0)]
theorem k_X12_orderOf_68 : z_chk 14 false cX12_orderOf 3 68 b_X12_orderOf_68 75 = true := by decide +kernel
def b_X12_orderOf_75 : List z_E := [(.aload_n 0, 1, 0, 0, 0), (.getfield 99, 3, 14, 38, 2), (.iload_n 1, 1, 0, 0, 0), (.iaload, 1, 0, 0, 0), (.ireturn, 1, 0, 0, 0)]
theorem k_X12_orderOf_75 : z_chk 14 false cX12_orderOf 3 75 b_X12_orderOf_75 82 = true := by decide +kernel
def b_X12_orderOf_82 : List z_E := [(.aload_n 0, 1, 0, 0, 0), (.getfield 102, 3, 14, 39, 2), (.iload_n 1, 1, 0, 0, 0), (.iaload, 1, 0, 0, 0), (.ireturn, 1, 0, 0, 0)]
theorem k_X12_orderOf_82 : z_chk 14 false cX12_orderOf 3 82 b_X12_orderOf_82 89 = true := by decide +kernel
def b_X12_orderOf_89 : List z_E := [(.aload_n 0, 1, 0, 0, 0), (.getfield 105, 3, 14, 40, 2), (.iload_n 1, 1, 0, 0, 0), (.iaload, 1, 0, 0, 0), (.ireturn, 1, 0, 0, 0)]
theorem k_X12_orderOf_89 : z_chk 14 false cX12_orderOf 3 89 b_X12_orderOf_89 96 = true := by decide +kernel
def b_X12_orderOf_96 : List z_E := [(.aload_n 0, 1, 0, 0, 0), (.getfield 111, 3, 14, 42, 2), (.iload_n 1, 1, 0, 0, 0), (.iaload, 1, 0, 0, 0), (.ireturn, 1, 0, 0, 0)]
theorem k_X12_orderOf_96 : z_chk 14 false cX12_orderOf 3 96 b_X12_orderOf_96 103 = true := by decide +kernel
def b_X12_orderOf_103 : List z_E := [(.aload_n 0, 1, 0, 0, 0), (.getfield 114, 3, 14, 43, 2), (.iload_n 1, 1, 0, 0, 0), (.iaload, 1, 0, 0, 0), (.ireturn, 1, 0, 0, 0)]
theorem k_X12_orderOf_103 : z_chk 14 false cX12_orderOf 3 103 b_X12_orderOf_103 110 = true := by decide +kernel
def b_X12_orderOf_110 : List z_E := [(.aload_n 0, 1, 0, 0, 0), (.getfield 129, 3, 14, 48, 2), (.iload_n 1, 1, 0, 0, 0), (.baload, 1, 0, 0, 0), (.ifCond .eq 7, 3, 123, 0, 0), (.iconst 1, 1, 0, 0, 0), (.goto 4, 3, 124, 0, 0)]
theorem k_X12_orderOf_110 : z_chk 14 false cX12_orderOf 3 110 b_X12_orderOf_110 123 = true := by decide +kernel
def b_X12_orderOf_123 : List z_E := [(.iconst 0, 1, 0, 0, 0)]
theorem k_X12_orderOf_123 : z_chk 14 false cX12_orderOf 3 123 b_X12_orderOf_123 124 = true := by decide +kernel
def b_X12_orderOf_124 : List z_E := [(.ireturn, 1, 0, 0, 0)]
theorem k_X12_orderOf_124 : z_chk 14 false cX12_orderOf 3 124 b_X12_orderOf_124 125 = true := by decide +kernel
def b_X12_orderOf_125 : List z_E := [(.bipush (-2), 2, 0, 0, 0), (.ireturn, 1, 0, 0, 0)]
theorem k_X12_orderOf_125 : z_chk 14 false cX12_orderOf 3 125 b_X12_orderOf_125 128 = true := by decide +kernel
def b_X12_receipt_0 : List z_E := [(.aload_n 0, 1, 0, 0, 0), (.iconst 0, 1, 0, 0, 0), (.putfield 172, 3, 14, 0, 0), (.iload_n 1, 1, 0, 0, 0), (.i2l, 1, 0, 0, 0), (.lconst 0, 1, 0, 0, 0), (.aload_n 0, 1, 0, 0, 0), (.getfield 228, 3, 14, 17, 0), (.iconst 1, 1, 0, 0, 0), (.isub, 1, 0, 0, 0), (.i2l, 1, 0, 0, 0), (.invokestatic 177, 3, 3, 0, 0), (.ifCond .ne 6, 3, 24, 0, 0), (.bipush (-2), 2, 0, 0, 0), (.ireturn, 1, 0, 0, 0)]
theorem k_X12_receipt_0 : z_chk 14 false cX12_receipt 3 0 b_X12_receipt_0 24 = true := by decide +kernel
def b_X12_receipt_24 : List z_E := [(.iload_n 2, 1, 0, 0, 0), (.tableswitch 82 0 5 #[39, 46, 53, 60, 68, 75], 39, 25, 0, 0)]
theorem k_X12_receipt_24 : z_chk 14 false cX12_receipt 3 24 b_X12_receipt_24 64 = true := by decide +kernel
def b_X12_receipt_64 : List z_E := [(.aload_n 0, 1, 0, 0, 0), (.getfield 75, 3, 14, 30, 2), (.iload_n 1, 1, 0, 0, 0), (.iaload, 1, 0, 0, 0), (.ireturn, 1, 0, 0, 0)]
theorem k_X12_receipt_64 : z_chk 14 false cX12_receipt 3 64 b_X12_receipt_64 71 = true := by decide +kernel
def b_X12_receipt_71 : List z_E := [(.aload_n 0, 1, 0, 0, 0), (.getfield 78, 3, 14, 31, 2), (.iload_n 1, 1, 0, 0, 0), (.iaload, 1, 0, 0, 0), (.ireturn, 1, 0, 0, 0)]
theorem k_X12_receipt_71 : z_chk 14 false cX12_receipt 3 71 b_X12_receipt_71 78 = true := by decide +kernel
def b_X12_receipt_78 : List z_E := [(.aload_n 0, 1, 0, 0, 0), (.getfield 81, 3, 14, 32, 2), (.iload_n 1, 1, 0, 0, 0), (.iaload, 1, 0, 0, 0), (.ireturn, 1, 0, 0, 0)]
theorem k_X12_receipt_78 : z_chk 14 false cX12_receipt 3 78 b_X12_receipt_78 85 = true := by decide +kernel
def b_X12_receipt_85 : List z_E := [(.aload_n 0, 1, 0, 0, 0), (.getfield 90, 3, 14, 35, 2), (.iload_n 1, 1, 0, 0, 0), (.laload, 1, 0, 0, 0), (.l2i, 1, 0, 0, 0), (.ireturn, 1, 0, 0, 0)]
theorem k_X12_receipt_85 : z_chk 14 false cX12_receipt 3 85 b_X12_receipt_85 93 = true := by decide +kernel
def b_X12_receipt_93 : List z_E := [(.aload_n 0, 1, 0, 0, 0), (.getfield 84, 3, 14, 33, 2), (.iload_n 1, 1, 0, 0, 0), (.iaload, 1, 0, 0, 0), (.ireturn, 1, 0, 0, 0)]
theorem k_X12_receipt_93 : z_chk 14 false cX12_receipt 3 93 b_X12_receipt_93 100 = true := by decide +kernel
def b_X12_receipt_100 : List z_E := [(.aload_n 0, 1, 0, 0, 0), (.getfield 87, 3, 14, 34, 2), (.iload_n 1, 1, 0, 0, 0), (.iaload, 1, 0, 0, 0), (.ireturn, 1, 0, 0, 0)]
theorem k_X12_receipt_100 : z_chk 14 false cX12_receipt 3 100 b_X12_receipt_100 107 = true := by decide +kernel
def b_X12_receipt_107 : List z_E := [(.bipush (-2), 2, 0, 0, 0), (.ireturn, 1, 0, 0, 0)]
theorem k_X12_receipt_107 : z_chk 14 false cX12_receipt 3 107 b_X12_receipt_107 110 = true := by decide +kernel
def b_X12_book_0 : List z_E := [(.aload_n 0, 1, 0, 0, 0), (.iconst 0, 1, 0, 0, 0), (.putfield 172, 3, 14, 0, 0), (.iload_n 1, 1, 0, 0, 0), (.i2l, 1, 0, 0, 0), (.lconst 0, 1, 0, 0, 0), (.aload_n 0, 1, 0, 0, 0), (.getfield 228, 3, 14, 17, 0), (.iconst 1, 1, 0, 0, 0), (.isub, 1, 0, 0, 0), (.i2l, 1, 0, 0, 0), (.invokestatic 177, 3, 3, 0, 0), (.ifCond .eq 12, 3, 30, 0, 0), (.aload_n 0, 1, 0, 0, 0), (.getfield 93, 3, 14, 36, 2), (.iload_n 1, 1, 0, 0, 0), (.laload, 1, 0, 0, 0), (.goto 4, 3, 31, 0, 0)]
theorem k_X12_book_0 : z_chk 14 false cX12_book 2 0 b_X12_book_0 30 = true := by decide +kernel
def b_X12_book_30 : List z_E := [(.lconst 0, 1, 0, 0, 0)]
theorem k_X12_book_30 : z_chk 14 false cX12_book 2 30 b_X12_book_30 31 = true := by decide +kernel
def b_X12_book_31 : List z_E := [(.lreturn, 1, 0, 0, 0)]
theorem k_X12_book_31 : z_chk 14 false cX12_book 2 31 b_X12_book_31 32 = true := by decide +kernel
def b_X12_vault_0 : List z_E := [(.aload_n 0, 1, 0, 0, 0), (.iconst 0, 1, 0, 0, 0), (.putfield 172, 3, 14, 0, 0), (.aload_n 0, 1, 0, 0, 0), (.iload_n 1, 1, 0, 0, 0), (.invokevirtual 225, 3, 2, 0, 0), (.ifCond .ne 7, 3, 17, 0, 0), (.ldc2_w 334, 3, 0, 0, (-1)), (.lreturn, 1, 0, 0, 0)]
theorem k_X12_vault_0 : z_chk 14 false cX12_vault 3 0 b_X12_vault_0 17 = true := by decide +kernel
def b_X12_vault_17 : List z_E := [(.iload_n 2, 1, 0, 0, 0), (.ifCond .ne 12, 3, 30, 0, 0), (.aload_n 0, 1, 0, 0, 0), (.getfield 60, 3, 14, 25, 2), (.iload_n 1, 1, 0, 0, 0), (.laload, 1, 0, 0, 0), (.goto 39, 3, 66, 0, 0)]
theorem k_X12_vault_17 : z_chk 14 false cX12_vault 3 17 b_X12_vault_17 30 = true := by decide +kernel
def b_X12_vault_30 : List z_E := [(.iload_n 2, 1, 0, 0, 0), (.iconst 1, 1, 0, 0, 0), (.if_icmp .ne 12, 3, 44, 0, 0), (.aload_n 0, 1, 0, 0, 0), (.getfield 63, 3, 14, 26, 2), (.iload_n 1, 1, 0, 0, 0), (.laload, 1, 0, 0, 0), (.goto 25, 3, 66, 0, 0)]
theorem k_X12_vault_30 : z_chk 14 false cX12_vault 3 30 b_X12_vault_30 44 = true := by decide +kernel
def b_X12_vault_44 : List z_E := [(.iload_n 2, 1, 0, 0, 0), (.iconst 2, 1, 0, 0, 0), (.if_icmp .ne 17, 3, 63, 0, 0), (.aload_n 0, 1, 0, 0, 0), (.iload_n 1, 1, 0, 0, 0), (.aload_n 0, 1, 0, 0, 0), (.getfield 63, 3, 14, 26, 2), (.iload_n 1, 1, 0, 0, 0), (.laload, 1, 0, 0, 0), (.invokevirtual 239, 3, 3, 0, 0), (.goto 6, 3, 66, 0, 0)]
theorem k_X12_vault_44 : z_chk 14 false cX12_vault 3 44 b_X12_vault_44 63 = true := by decide +kernel
def b_X12_vault_63 : List z_E := [(.ldc2_w 334, 3, 0, 0, (-1))]
theorem k_X12_vault_63 : z_chk 14 false cX12_vault 3 63 b_X12_vault_63 66 = true := by decide +kernel
def b_X12_vault_66 : List z_E := [(.lreturn, 1, 0, 0, 0)]
theorem k_X12_vault_66 : z_chk 14 false cX12_vault 3 66 b_X12_vault_66 67 = true := by decide +kernel
def b_X12_count_0 : List z_E := [(.aload_n 0, 1, 0, 0, 0), (.iconst 0, 1, 0, 0, 0), (.putfield 172, 3, 14, 0, 0), (.iconst 0, 1, 0, 0, 0), (.istore_n 2, 1, 0, 0, 0), (.iload_n 1, 1, 0, 0, 0), (.tableswitch 172 0 10 #[60, 65, 70, 75, 80, 115, 120, 125, 130, 135, 140], 60, 8, 0, 0)]
theorem k_X12_count_0 : z_chk 14 false cX12_count 4 0 b_X12_count_0 68 = true := by decide +kernel
def b_X12_count_68 : List z_E := [(.aload_n 0, 1, 0, 0, 0), (.getfield 242, 3, 14, 14, 0), (.ireturn, 1, 0, 0, 0)]
theorem k_X12_count_68 : z_chk 14 false cX12_count 4 68 b_X12_count_68 73 = true := by decide +kernel
def b_X12_count_73 : List z_E := [(.aload_n 0, 1, 0, 0, 0), (.getfield 199, 3, 14, 15, 0), (.ireturn, 1, 0, 0, 0)]
theorem k_X12_count_73 : z_chk 14 false cX12_count 4 73 b_X12_count_73 78 = true := by decide +kernel
def b_X12_count_78 : List z_E := [(.aload_n 0, 1, 0, 0, 0), (.getfield 202, 3, 14, 16, 0), (.ireturn, 1, 0, 0, 0)]
theorem k_X12_count_78 : z_chk 14 false cX12_count 4 78 b_X12_count_78 83 = true := by decide +kernel
def b_X12_count_83 : List z_E := [(.aload_n 0, 1, 0, 0, 0), (.getfield 215, 3, 14, 18, 0), (.ireturn, 1, 0, 0, 0)]
theorem k_X12_count_83 : z_chk 14 false cX12_count 4 83 b_X12_count_83 88 = true := by decide +kernel
def b_X12_count_88 : List z_E := [(.iconst 0, 1, 0, 0, 0), (.istore_n 3, 1, 0, 0, 0)]
theorem k_X12_count_88 : z_chk 14 false cX12_count 4 88 b_X12_count_88 90 = true := by decide +kernel
def b_X12_count_90 : List z_E := [(.iload_n 3, 1, 0, 0, 0), (.aload_n 0, 1, 0, 0, 0), (.getfield 215, 3, 14, 18, 0), (.if_icmp .ge 26, 3, 121, 0, 0), (.iload_n 2, 1, 0, 0, 0), (.aload_n 0, 1, 0, 0, 0), (.getfield 111, 3, 14, 42, 2), (.iload_n 3, 1, 0, 0, 0), (.iaload, 1, 0, 0, 0), (.ifCond .ne 7, 3, 112, 0, 0), (.iconst 1, 1, 0, 0, 0), (.goto 4, 3, 113, 0, 0)]
theorem k_X12_count_90 : z_chk 14 false cX12_count 4 90 b_X12_count_90 112 = true := by decide +kernel
def b_X12_count_112 : List z_E := [(.iconst 0, 1, 0, 0, 0)]
theorem k_X12_count_112 : z_chk 14 false cX12_count 4 112 b_X12_count_112 113 = true := by decide +kernel
def b_X12_count_113 : List z_E := [(.iadd, 1, 0, 0, 0), (.istore_n 2, 1, 0, 0, 0), (.iinc 3 1, 3, 0, 0, 0), (.goto (-28), 3, 90, 0, 0)]
theorem k_X12_count_113 : z_chk 14 false cX12_count 4 113 b_X12_count_113 121 = true := by decide +kernel
def b_X12_count_121 : List z_E := [(.iload_n 2, 1, 0, 0, 0), (.ireturn, 1, 0, 0, 0)]
theorem k_X12_count_121 : z_chk 14 false cX12_count 4 121 b_X12_count_121 123 = true := by decide +kernel
def b_X12_count_123 : List z_E := [(.aload_n 0, 1, 0, 0, 0), (.getfield 228, 3, 14, 17, 0), (.ireturn, 1, 0, 0, 0)]
theorem k_X12_count_123 : z_chk 14 false cX12_count 4 123 b_X12_count_123 128 = true := by decide +kernel
def b_X12_count_128 : List z_E := [(.aload_n 0, 1, 0, 0, 0), (.getfield 212, 3, 14, 19, 0), (.ireturn, 1, 0, 0, 0)]
theorem k_X12_count_128 : z_chk 14 false cX12_count 4 128 b_X12_count_128 133 = true := by decide +kernel
def b_X12_count_133 : List z_E := [(.aload_n 0, 1, 0, 0, 0), (.getfield 218, 3, 14, 20, 0), (.ireturn, 1, 0, 0, 0)]
theorem k_X12_count_133 : z_chk 14 false cX12_count 4 133 b_X12_count_133 138 = true := by decide +kernel
def b_X12_count_138 : List z_E := [(.aload_n 0, 1, 0, 0, 0), (.getfield 48, 3, 14, 13, 0), (.ireturn, 1, 0, 0, 0)]
theorem k_X12_count_138 : z_chk 14 false cX12_count 4 138 b_X12_count_138 143 = true := by decide +kernel
def b_X12_count_143 : List z_E := [(.aload_n 0, 1, 0, 0, 0), (.getfield 329, 3, 14, 21, 0), (.ireturn, 1, 0, 0, 0)]
theorem k_X12_count_143 : z_chk 14 false cX12_count 4 143 b_X12_count_143 148 = true := by decide +kernel
def b_X12_count_148 : List z_E := [(.iconst 0, 1, 0, 0, 0), (.istore_n 3, 1, 0, 0, 0)]
theorem k_X12_count_148 : z_chk 14 false cX12_count 4 148 b_X12_count_148 150 = true := by decide +kernel
def b_X12_count_150 : List z_E := [(.iload_n 3, 1, 0, 0, 0), (.iconst 4, 1, 0, 0, 0), (.if_icmp .ge 26, 3, 178, 0, 0), (.iload_n 2, 1, 0, 0, 0), (.aload_n 0, 1, 0, 0, 0), (.getfield 9, 3, 14, 1, 2), (.iload_n 3, 1, 0, 0, 0), (.iaload, 1, 0, 0, 0), (.ifCond .lt 7, 3, 169, 0, 0), (.iconst 1, 1, 0, 0, 0), (.goto 4, 3, 170, 0, 0)]
theorem k_X12_count_150 : z_chk 14 false cX12_count 4 150 b_X12_count_150 169 = true := by decide +kernel
def b_X12_count_169 : List z_E := [(.iconst 0, 1, 0, 0, 0)]
theorem k_X12_count_169 : z_chk 14 false cX12_count 4 169 b_X12_count_169 170 = true := by decide +kernel
def b_X12_count_170 : List z_E := [(.iadd, 1, 0, 0, 0), (.istore_n 2, 1, 0, 0, 0), (.iinc 3 1, 3, 0, 0, 0), (.goto (-25), 3, 150, 0, 0)]
theorem k_X12_count_170 : z_chk 14 false cX12_count 4 170 b_X12_count_170 178 = true := by decide +kernel
def b_X12_count_178 : List z_E := [(.iload_n 2, 1, 0, 0, 0), (.ireturn, 1, 0, 0, 0)]
theorem k_X12_count_178 : z_chk 14 false cX12_count 4 178 b_X12_count_178 180 = true := by decide +kernel
def b_X12_count_180 : List z_E := [(.iconst (-1), 1, 0, 0, 0), (.ireturn, 1, 0, 0, 0)]
theorem k_X12_count_180 : z_chk 14 false cX12_count 4 180 b_X12_count_180 182 = true := by decide +kernel
def b_X12_sum_0 : List z_E := [(.aload_n 0, 1, 0, 0, 0), (.iconst 0, 1, 0, 0, 0), (.putfield 172, 3, 14, 0, 0), (.iload_n 1, 1, 0, 0, 0), (.tableswitch 59 0 4 #[34, 39, 44, 49, 54], 34, 6, 0, 0)]
theorem k_X12_sum_0 : z_chk 14 false cX12_sum 2 0 b_X12_sum_0 40 = true := by decide +kernel
def b_X12_sum_40 : List z_E := [(.aload_n 0, 1, 0, 0, 0), (.invokevirtual 340, 3, 1, 0, 0), (.lreturn, 1, 0, 0, 0)]
theorem k_X12_sum_40 : z_chk 14 false cX12_sum 2 40 b_X12_sum_40 45 = true := by decide +kernel
def b_X12_sum_45 : List z_E := [(.aload_n 0, 1, 0, 0, 0), (.invokevirtual 336, 3, 1, 0, 0), (.lreturn, 1, 0, 0, 0)]
theorem k_X12_sum_45 : z_chk 14 false cX12_sum 2 45 b_X12_sum_45 50 = true := by decide +kernel
def b_X12_sum_50 : List z_E := [(.aload_n 0, 1, 0, 0, 0), (.getfield 264, 3, 14, 64, 1), (.lreturn, 1, 0, 0, 0)]
theorem k_X12_sum_50 : z_chk 14 false cX12_sum 2 50 b_X12_sum_50 55 = true := by decide +kernel
def b_X12_sum_55 : List z_E := [(.aload_n 0, 1, 0, 0, 0), (.getfield 304, 3, 14, 65, 1), (.lreturn, 1, 0, 0, 0)]
theorem k_X12_sum_55 : z_chk 14 false cX12_sum 2 55 b_X12_sum_55 60 = true := by decide +kernel
def b_X12_sum_60 : List z_E := [(.aload_n 0, 1, 0, 0, 0), (.getfield 307, 3, 14, 66, 1), (.lreturn, 1, 0, 0, 0)]
theorem k_X12_sum_60 : z_chk 14 false cX12_sum 2 60 b_X12_sum_60 65 = true := by decide +kernel
def b_X12_sum_65 : List z_E := [(.lconst 0, 1, 0, 0, 0), (.lreturn, 1, 0, 0, 0)]
theorem k_X12_sum_65 : z_chk 14 false cX12_sum 2 65 b_X12_sum_65 67 = true := by decide +kernel
def b_J9_max_7cf53_0 : List z_E := [(.iload_n 0, 1, 0, 0, 0), (.iload_n 1, 1, 0, 0, 0), (.if_icmp .lt 7, 3, 9, 0, 0), (.iload_n 0, 1, 0, 0, 0), (.goto 4, 3, 10, 0, 0)]
theorem k_J9_max_7cf53_0 : z_chk 15 false cJ9_max_7cf53 2 0 b_J9_max_7cf53_0 9 = true := by decide +kernel
def b_J9_max_7cf53_9 : List z_E := [(.iload_n 1, 1, 0, 0, 0)]
theorem k_J9_max_7cf53_9 : z_chk 15 false cJ9_max_7cf53 2 9 b_J9_max_7cf53_9 10 = true := by decide +kernel
def b_J9_max_7cf53_10 : List z_E := [(.ireturn, 1, 0, 0, 0)]
theorem k_J9_max_7cf53_10 : z_chk 15 false cJ9_max_7cf53 2 10 b_J9_max_7cf53_10 11 = true := by decide +kernel
def b_J9_max_f86c9_0 : List z_E := [(.lload_n 0, 1, 0, 0, 0), (.lload_n 2, 1, 0, 0, 0), (.lcmp, 1, 0, 0, 0), (.ifCond .lt 7, 3, 10, 0, 0), (.lload_n 0, 1, 0, 0, 0), (.goto 4, 3, 11, 0, 0)]
theorem k_J9_max_f86c9_0 : z_chk 15 false cJ9_max_f86c9 4 0 b_J9_max_f86c9_0 10 = true := by decide +kernel
def b_J9_max_f86c9_10 : List z_E := [(.lload_n 2, 1, 0, 0, 0)]
theorem k_J9_max_f86c9_10 : z_chk 15 false cJ9_max_f86c9 4 10 b_J9_max_f86c9_10 11 = true := by decide +kernel
def b_J9_max_f86c9_11 : List z_E := [(.lreturn, 1, 0, 0, 0)]
theorem k_J9_max_f86c9_11 : z_chk 15 false cJ9_max_f86c9 4 11 b_J9_max_f86c9_11 12 = true := by decide +kernel
def b_J9_min_7cf53_0 : List z_E := [(.iload_n 0, 1, 0, 0, 0), (.iload_n 1, 1, 0, 0, 0), (.if_icmp .gt 7, 3, 9, 0, 0), (.iload_n 0, 1, 0, 0, 0), (.goto 4, 3, 10, 0, 0)]
theorem k_J9_min_7cf53_0 : z_chk 15 false cJ9_min_7cf53 2 0 b_J9_min_7cf53_0 9 = true := by decide +kernel
def b_J9_min_7cf53_9 : List z_E := [(.iload_n 1, 1, 0, 0, 0)]
theorem k_J9_min_7cf53_9 : z_chk 15 false cJ9_min_7cf53 2 9 b_J9_min_7cf53_9 10 = true := by decide +kernel
def b_J9_min_7cf53_10 : List z_E := [(.ireturn, 1, 0, 0, 0)]
theorem k_J9_min_7cf53_10 : z_chk 15 false cJ9_min_7cf53 2 10 b_J9_min_7cf53_10 11 = true := by decide +kernel
def b_J9_min_f86c9_0 : List z_E := [(.lload_n 0, 1, 0, 0, 0), (.lload_n 2, 1, 0, 0, 0), (.lcmp, 1, 0, 0, 0), (.ifCond .gt 7, 3, 10, 0, 0), (.lload_n 0, 1, 0, 0, 0), (.goto 4, 3, 11, 0, 0)]
theorem k_J9_min_f86c9_0 : z_chk 15 false cJ9_min_f86c9 4 0 b_J9_min_f86c9_0 10 = true := by decide +kernel
def b_J9_min_f86c9_10 : List z_E := [(.lload_n 2, 1, 0, 0, 0)]
theorem k_J9_min_f86c9_10 : z_chk 15 false cJ9_min_f86c9 4 10 b_J9_min_f86c9_10 11 = true := by decide +kernel
def b_J9_min_f86c9_11 : List z_E := [(.lreturn, 1, 0, 0, 0)]
theorem k_J9_min_f86c9_11 : z_chk 15 false cJ9_min_f86c9 4 11 b_J9_min_f86c9_11 12 = true := by decide +kernel
end
section
def b_X0_init_0 : List z_E := [(.aload_n 0, 1, 0, 0, 0), (.invokespecial 3, 3, 0, 7, 0), (.aload_n 0, 1, 0, 0, 0), (.iconst (-1), 1, 0, 0, 0), (.putfield 9, 3, 2, 2, 0), (.aload_n 0, 1, 0, 0, 0), (.iconst (-1), 1, 0, 0, 0), (.putfield 15, 3, 2, 5, 0), (.aload_n 0, 1, 0, 0, 0), (.iconst (-1), 1, 0, 0, 0), (.putfield 18, 3, 2, 6, 0), (.aload_n 0, 1, 0, 0, 0), (.iload_n 1, 1, 0, 0, 0), (.putfield 21, 3, 2, 0, 0), (.aload_n 0, 1, 0, 0, 0), (.new 24, 7, 207, 1, 26), (.putfield 27, 3, 2, 1, 2), (.return_, 1, 0, 0, 0)]
theorem k_X0_init_0 : z_chk 2 true cX0_init 2 0 b_X0_init_0 36 = true := by decide +kernel
def b_X0_folioAt_0 : List z_E := [(.iload_n 1, 1, 0, 0, 0), (.ifCond .lt 31, 3, 32, 0, 0), (.iload_n 1, 1, 0, 0, 0), (.aload_n 0, 1, 0, 0, 0), (.getfield 27, 3, 2, 1, 2), (.invokevirtual 31, 3, 0, 1, 0), (.if_icmp .ge 20, 3, 32, 0, 0), (.aload_n 0, 1, 0, 0, 0), (.getfield 27, 3, 2, 1, 2), (.iload_n 1, 1, 0, 0, 0), (.invokevirtual 35, 9, 39, 11, 41), (.goto 4, 3, 33, 0, 0)]
theorem k_X0_folioAt_0 : z_chk 2 false cX0_folioAt 2 0 b_X0_folioAt_0 32 = true := by decide +kernel
def b_X0_folioAt_32 : List z_E := [(.iconst (-1), 1, 0, 0, 0)]
theorem k_X0_folioAt_32 : z_chk 2 false cX0_folioAt 2 32 b_X0_folioAt_32 33 = true := by decide +kernel
def b_X0_folioAt_33 : List z_E := [(.ireturn, 1, 0, 0, 0)]
theorem k_X0_folioAt_33 : z_chk 2 false cX0_folioAt 2 33 b_X0_folioAt_33 34 = true := by decide +kernel
def b_X0_maySign_0 : List z_E := [(.iload_n 1, 1, 0, 0, 0), (.aload_n 0, 1, 0, 0, 0), (.getfield 21, 3, 2, 0, 0), (.if_icmp .eq 19, 3, 24, 0, 0), (.iload_n 1, 1, 0, 0, 0), (.aload_n 0, 1, 0, 0, 0), (.getfield 15, 3, 2, 5, 0), (.if_icmp .ne 15, 3, 28, 0, 0), (.iload_n 2, 1, 0, 0, 0), (.aload_n 0, 1, 0, 0, 0), (.getfield 18, 3, 2, 6, 0), (.if_icmp .gt 7, 3, 28, 0, 0)]
theorem k_X0_maySign_0 : z_chk 2 false cX0_maySign 3 0 b_X0_maySign_0 24 = true := by decide +kernel
def b_X0_maySign_24 : List z_E := [(.iconst 1, 1, 0, 0, 0), (.goto 4, 3, 29, 0, 0)]
theorem k_X0_maySign_24 : z_chk 2 false cX0_maySign 3 24 b_X0_maySign_24 28 = true := by decide +kernel
def b_X0_maySign_28 : List z_E := [(.iconst 0, 1, 0, 0, 0)]
theorem k_X0_maySign_28 : z_chk 2 false cX0_maySign 3 28 b_X0_maySign_28 29 = true := by decide +kernel
def b_X0_maySign_29 : List z_E := [(.ireturn, 1, 0, 0, 0)]
theorem k_X0_maySign_29 : z_chk 2 false cX0_maySign 3 29 b_X0_maySign_29 30 = true := by decide +kernel
def b_X1_init_0 : List z_E := [(.aload_n 0, 1, 0, 0, 0), (.invokespecial 1, 3, 0, 7, 0), (.aload_n 0, 1, 0, 0, 0), (.bipush 40, 2, 0, 0, 0), (.putfield 7, 3, 3, 0, 0), (.return_, 1, 0, 0, 0)]
theorem k_X1_init_0 : z_chk 3 true cX1_init 1 0 b_X1_init_0 11 = true := by decide +kernel
def b_X1_settleAgio_0 : List z_E := [(.aload_n 0, 1, 0, 0, 0), (.getfield 7, 3, 3, 0, 0), (.i2l, 1, 0, 0, 0), (.aload_n 0, 1, 0, 0, 0), (.aload_n 1, 1, 0, 0, 0), (.getfield 13, 3, 11, 4, 0), (.i2l, 1, 0, 0, 0), (.invokevirtual 18, 3, 2, 0, 0), (.aload_n 1, 1, 0, 0, 0), (.getfield 22, 3, 11, 5, 0), (.ineg, 1, 0, 0, 0), (.i2l, 1, 0, 0, 0), (.aload_n 1, 1, 0, 0, 0), (.getfield 22, 3, 11, 5, 0), (.i2l, 1, 0, 0, 0), (.invokestatic 25, 3, 3, 0, 0), (.ladd, 1, 0, 0, 0), (.lstore_n 2, 1, 0, 0, 0), (.aload_n 0, 1, 0, 0, 0), (.lload_n 2, 1, 0, 0, 0), (.ldc2_w 29, 3, 0, 0, (-100)), (.ldc2_w 31, 3, 0, 0, 300), (.invokestatic 25, 3, 3, 0, 0), (.l2i, 1, 0, 0, 0), (.putfield 7, 3, 3, 0, 0), (.aload_n 0, 1, 0, 0, 0), (.getfield 7, 3, 3, 0, 0), (.aload_n 1, 1, 0, 0, 0), (.getfield 33, 3, 11, 7, 0), (.if_icmp .le 33, 3, 86, 0, 0), (.aload_n 0, 1, 0, 0, 0), (.dup, 1, 0, 0, 0), (.getfield 36, 3, 3, 1, 1), (.aload_n 0, 1, 0, 0, 0), (.getfield 7, 3, 3, 0, 0), (.aload_n 1, 1, 0, 0, 0), (.getfield 33, 3, 11, 7, 0), (.isub, 1, 0, 0, 0), (.i2l, 1, 0, 0, 0), (.ladd, 1, 0, 0, 0), (.putfield 36, 3, 3, 1, 1), (.aload_n 0, 1, 0, 0, 0), (.aload_n 1, 1, 0, 0, 0), (.getfield 33, 3, 11, 7, 0), (.putfield 7, 3, 3, 0, 0), (.goto 41, 3, 124, 0, 0)]
theorem k_X1_settleAgio_0 : z_chk 3 false cX1_settleAgio 4 0 b_X1_settleAgio_0 86 = true := by decide +kernel
def b_X1_settleAgio_86 : List z_E := [(.aload_n 0, 1, 0, 0, 0), (.getfield 7, 3, 3, 0, 0), (.aload_n 1, 1, 0, 0, 0), (.getfield 40, 3, 11, 6, 0), (.if_icmp .ge 30, 3, 124, 0, 0), (.aload_n 0, 1, 0, 0, 0), (.dup, 1, 0, 0, 0), (.getfield 43, 3, 3, 2, 1), (.aload_n 1, 1, 0, 0, 0), (.getfield 40, 3, 11, 6, 0), (.aload_n 0, 1, 0, 0, 0), (.getfield 7, 3, 3, 0, 0), (.isub, 1, 0, 0, 0), (.i2l, 1, 0, 0, 0), (.ladd, 1, 0, 0, 0), (.putfield 43, 3, 3, 2, 1), (.aload_n 0, 1, 0, 0, 0), (.aload_n 1, 1, 0, 0, 0), (.getfield 40, 3, 11, 6, 0), (.putfield 7, 3, 3, 0, 0)]
theorem k_X1_settleAgio_86 : z_chk 3 false cX1_settleAgio 4 86 b_X1_settleAgio_86 124 = true := by decide +kernel
def b_X1_settleAgio_124 : List z_E := [(.aload_n 0, 1, 0, 0, 0), (.lconst 0, 1, 0, 0, 0), (.putfield 46, 3, 3, 3, 1), (.aload_n 0, 1, 0, 0, 0), (.lconst 0, 1, 0, 0, 0), (.putfield 49, 3, 3, 4, 1), (.return_, 1, 0, 0, 0)]
theorem k_X1_settleAgio_124 : z_chk 3 false cX1_settleAgio 4 124 b_X1_settleAgio_124 135 = true := by decide +kernel
def b_X1_pulled_0 : List z_E := [(.aload_n 0, 1, 0, 0, 0), (.getfield 46, 3, 3, 3, 1), (.aload_n 0, 1, 0, 0, 0), (.getfield 49, 3, 3, 4, 1), (.ladd, 1, 0, 0, 0), (.ldc2_w 52, 3, 0, 0, 1000), (.ladd, 1, 0, 0, 0), (.lstore_n 3, 1, 0, 0, 0), (.lload_n 3, 1, 0, 0, 0), (.lconst 0, 1, 0, 0, 0), (.lcmp, 1, 0, 0, 0), (.ifCond .le 19, 3, 36, 0, 0), (.lload_n 1, 1, 0, 0, 0), (.aload_n 0, 1, 0, 0, 0), (.getfield 46, 3, 3, 3, 1), (.aload_n 0, 1, 0, 0, 0), (.getfield 49, 3, 3, 4, 1), (.lsub, 1, 0, 0, 0), (.lmul, 1, 0, 0, 0), (.lload_n 3, 1, 0, 0, 0), (.ldiv, 1, 0, 0, 0), (.goto 4, 3, 37, 0, 0)]
theorem k_X1_pulled_0 : z_chk 3 false cX1_pulled 5 0 b_X1_pulled_0 36 = true := by decide +kernel
def b_X1_pulled_36 : List z_E := [(.lconst 0, 1, 0, 0, 0)]
theorem k_X1_pulled_36 : z_chk 3 false cX1_pulled 5 36 b_X1_pulled_36 37 = true := by decide +kernel
def b_X1_pulled_37 : List z_E := [(.lreturn, 1, 0, 0, 0)]
theorem k_X1_pulled_37 : z_chk 3 false cX1_pulled 5 37 b_X1_pulled_37 38 = true := by decide +kernel
def b_X1_clamp_0 : List z_E := [(.lload_n 2, 1, 0, 0, 0), (.lload_n 0, 1, 0, 0, 0), (.lload 4, 2, 0, 0, 0), (.invokestatic 54, 3, 2, 0, 0), (.invokestatic 60, 3, 2, 0, 0), (.lreturn, 1, 0, 0, 0)]
theorem k_X1_clamp_0 : z_chk 3 false cX1_clamp 6 0 b_X1_clamp_0 11 = true := by decide +kernel
def b_X2_init_0 : List z_E := [(.aload_n 0, 1, 0, 0, 0), (.invokespecial 1, 3, 0, 7, 0), (.aload_n 0, 1, 0, 0, 0), (.iload_n 1, 1, 0, 0, 0), (.putfield 7, 3, 4, 0, 0), (.aload_n 0, 1, 0, 0, 0), (.iload_n 2, 1, 0, 0, 0), (.putfield 13, 3, 4, 1, 0), (.aload_n 0, 1, 0, 0, 0), (.iload_n 3, 1, 0, 0, 0), (.putfield 16, 3, 4, 2, 0), (.aload_n 0, 1, 0, 0, 0), (.iload 4, 2, 0, 0, 0), (.putfield 19, 3, 4, 3, 0), (.return_, 1, 0, 0, 0)]
theorem k_X2_init_0 : z_chk 4 true cX2_init 5 0 b_X2_init_0 26 = true := by decide +kernel
def b_X2_takes_0 : List z_E := [(.lload_n 1, 1, 0, 0, 0), (.aload_n 0, 1, 0, 0, 0), (.getfield 16, 3, 4, 2, 0), (.i2l, 1, 0, 0, 0), (.lcmp, 1, 0, 0, 0), (.ifCond .lt 17, 3, 24, 0, 0), (.lload_n 1, 1, 0, 0, 0), (.aload_n 0, 1, 0, 0, 0), (.getfield 13, 3, 4, 1, 0), (.i2l, 1, 0, 0, 0), (.lcmp, 1, 0, 0, 0), (.ifCond .gt 7, 3, 24, 0, 0), (.iconst 1, 1, 0, 0, 0), (.goto 4, 3, 25, 0, 0)]
theorem k_X2_takes_0 : z_chk 4 false cX2_takes 3 0 b_X2_takes_0 24 = true := by decide +kernel
def b_X2_takes_24 : List z_E := [(.iconst 0, 1, 0, 0, 0)]
theorem k_X2_takes_24 : z_chk 4 false cX2_takes 3 24 b_X2_takes_24 25 = true := by decide +kernel
def b_X2_takes_25 : List z_E := [(.ireturn, 1, 0, 0, 0)]
theorem k_X2_takes_25 : z_chk 4 false cX2_takes 3 25 b_X2_takes_25 26 = true := by decide +kernel
def b_X2_bookOf_0 : List z_E := [(.lload_n 1, 1, 0, 0, 0), (.aload_n 0, 1, 0, 0, 0), (.getfield 19, 3, 4, 3, 0), (.i2l, 1, 0, 0, 0), (.lmul, 1, 0, 0, 0), (.ldc2_w 22, 3, 0, 0, 1000), (.ldiv, 1, 0, 0, 0), (.lstore 4, 2, 0, 0, 0), (.lload 4, 2, 0, 0, 0), (.iload_n 3, 1, 0, 0, 0), (.i2l, 1, 0, 0, 0), (.lmul, 1, 0, 0, 0), (.ldc2_w 22, 3, 0, 0, 1000), (.ldiv, 1, 0, 0, 0), (.lreturn, 1, 0, 0, 0)]
theorem k_X2_bookOf_0 : z_chk 4 false cX2_bookOf 6 0 b_X2_bookOf_0 23 = true := by decide +kernel
def b_X3_init_0 : List z_E := [(.aload_n 0, 1, 0, 0, 0), (.invokespecial 3, 3, 0, 7, 0), (.aload_n 0, 1, 0, 0, 0), (.new 9, 7, 206, 1, 11), (.putfield 12, 3, 5, 0, 2), (.aload_n 0, 1, 0, 0, 0), (.sipush 600, 3, 0, 0, 0), (.newarray .int, 2, 101, 0, 0), (.putfield 18, 3, 5, 1, 2), (.aload_n 0, 1, 0, 0, 0), (.sipush 600, 3, 0, 0, 0), (.newarray .int, 2, 102, 0, 0), (.putfield 22, 3, 5, 2, 2), (.return_, 1, 0, 0, 0)]
theorem k_X3_init_0 : z_chk 5 true cX3_init 1 0 b_X3_init_0 34 = true := by decide +kernel
def b_X3_lineAt_0 : List z_E := [(.iload_n 1, 1, 0, 0, 0), (.ifCond .lt 28, 3, 29, 0, 0), (.iload_n 1, 1, 0, 0, 0), (.aload_n 0, 1, 0, 0, 0), (.getfield 12, 3, 5, 0, 2), (.invokevirtual 25, 3, 0, 1, 0), (.if_icmp .ge 17, 3, 29, 0, 0), (.aload_n 0, 1, 0, 0, 0), (.getfield 12, 3, 5, 0, 2), (.iload_n 1, 1, 0, 0, 0), (.invokevirtual 29, 3, 0, 2, 0), (.checkcast 33, 3, 6, 0, 0), (.goto 4, 3, 30, 0, 0)]
theorem k_X3_lineAt_0 : z_chk 5 false cX3_lineAt 2 0 b_X3_lineAt_0 29 = true := by decide +kernel
def b_X3_lineAt_29 : List z_E := [(.aconst_null, 1, 0, 0, 0)]
theorem k_X3_lineAt_29 : z_chk 5 false cX3_lineAt 2 29 b_X3_lineAt_29 30 = true := by decide +kernel
def b_X3_lineAt_30 : List z_E := [(.areturn, 1, 0, 0, 0)]
theorem k_X3_lineAt_30 : z_chk 5 false cX3_lineAt 2 30 b_X3_lineAt_30 31 = true := by decide +kernel
def b_X3_enter_0 : List z_E := [(.lload 4, 2, 0, 0, 0), (.lconst 0, 1, 0, 0, 0), (.lcmp, 1, 0, 0, 0), (.ifCond .ne 5, 3, 9, 0, 0), (.iconst (-1), 1, 0, 0, 0), (.ireturn, 1, 0, 0, 0)]
theorem k_X3_enter_0 : z_chk 5 false cX3_enter 7 0 b_X3_enter_0 9 = true := by decide +kernel
def b_X3_enter_9 : List z_E := [(.aload_n 0, 1, 0, 0, 0), (.getfield 12, 3, 5, 0, 2), (.new 33, 3, 6, 0, 0), (.dup, 1, 0, 0, 0), (.iload_n 1, 1, 0, 0, 0), (.aload_n 2, 1, 0, 0, 0), (.aload_n 0, 1, 0, 0, 0), (.aload_n 2, 1, 0, 0, 0), (.invokevirtual 35, 3, 2, 0, 0), (.iload_n 3, 1, 0, 0, 0), (.lload 4, 2, 0, 0, 0), (.iload 6, 2, 0, 0, 0), (.invokespecial 39, 3, 7, 0, 0), (.invokevirtual 42, 3, 0, 3, 0), (.pop, 1, 0, 0, 0), (.aload_n 0, 1, 0, 0, 0), (.getfield 12, 3, 5, 0, 2), (.invokevirtual 25, 3, 0, 1, 0), (.iconst 1, 1, 0, 0, 0), (.isub, 1, 0, 0, 0), (.ireturn, 1, 0, 0, 0)]
theorem k_X3_enter_9 : z_chk 5 false cX3_enter 7 9 b_X3_enter_9 46 = true := by decide +kernel
def b_X3_folioForLineOf_0 : List z_E := [(.aload_n 1, 1, 0, 0, 0), (.getfield 46, 3, 2, 2, 0), (.iconst (-1), 1, 0, 0, 0), (.if_icmp .eq 12, 3, 17, 0, 0), (.aload_n 1, 1, 0, 0, 0), (.getfield 52, 3, 2, 3, 0), (.bipush 8, 2, 0, 0, 0), (.if_icmp .lt 41, 3, 55, 0, 0)]
theorem k_X3_folioForLineOf_0 : z_chk 5 false cX3_folioForLineOf 2 0 b_X3_folioForLineOf_0 17 = true := by decide +kernel
def b_X3_folioForLineOf_17 : List z_E := [(.aload_n 1, 1, 0, 0, 0), (.aload_n 0, 1, 0, 0, 0), (.getfield 55, 3, 5, 4, 0), (.putfield 46, 3, 2, 2, 0), (.aload_n 1, 1, 0, 0, 0), (.getfield 58, 3, 2, 1, 2), (.aload_n 0, 1, 0, 0, 0), (.getfield 55, 3, 5, 4, 0), (.invokestatic 60, 6, 42, 10, 0), (.pop, 1, 0, 0, 0), (.aload_n 1, 1, 0, 0, 0), (.iconst 0, 1, 0, 0, 0), (.putfield 52, 3, 2, 3, 0), (.aload_n 0, 1, 0, 0, 0), (.dup, 1, 0, 0, 0), (.getfield 55, 3, 5, 4, 0), (.iconst 1, 1, 0, 0, 0), (.iadd, 1, 0, 0, 0), (.putfield 55, 3, 5, 4, 0)]
theorem k_X3_folioForLineOf_17 : z_chk 5 false cX3_folioForLineOf 2 17 b_X3_folioForLineOf_17 55 = true := by decide +kernel
def b_X3_folioForLineOf_55 : List z_E := [(.aload_n 1, 1, 0, 0, 0), (.dup, 1, 0, 0, 0), (.getfield 52, 3, 2, 3, 0), (.iconst 1, 1, 0, 0, 0), (.iadd, 1, 0, 0, 0), (.putfield 52, 3, 2, 3, 0), (.aload_n 1, 1, 0, 0, 0), (.getfield 46, 3, 2, 2, 0), (.ireturn, 1, 0, 0, 0)]
theorem k_X3_folioForLineOf_55 : z_chk 5 false cX3_folioForLineOf 2 55 b_X3_folioForLineOf_55 70 = true := by decide +kernel
def b_X3_creditsLessDebits_0 : List z_E := [(.lconst 0, 1, 0, 0, 0), (.lstore_n 2, 1, 0, 0, 0), (.iconst 0, 1, 0, 0, 0), (.istore 4, 2, 0, 0, 0)]
theorem k_X3_creditsLessDebits_0 : z_chk 5 false cX3_creditsLessDebits 6 0 b_X3_creditsLessDebits_0 5 = true := by decide +kernel
def b_X3_creditsLessDebits_5 : List z_E := [(.iload 4, 2, 0, 0, 0), (.aload_n 0, 1, 0, 0, 0), (.getfield 12, 3, 5, 0, 2), (.invokevirtual 25, 3, 0, 1, 0), (.if_icmp .ge 61, 3, 75, 0, 0), (.aload_n 0, 1, 0, 0, 0), (.getfield 12, 3, 5, 0, 2), (.iload 4, 2, 0, 0, 0), (.invokevirtual 29, 3, 0, 2, 0), (.checkcast 33, 3, 6, 0, 0), (.astore 5, 2, 0, 0, 0), (.aload 5, 2, 0, 0, 0), (.getfield 66, 3, 6, 3, 2), (.getfield 70, 3, 2, 0, 0), (.iload_n 1, 1, 0, 0, 0), (.if_icmp .ne 29, 3, 69, 0, 0), (.lload_n 2, 1, 0, 0, 0), (.aload 5, 2, 0, 0, 0), (.getfield 73, 3, 6, 4, 0), (.iconst 1, 1, 0, 0, 0), (.if_icmp .ne 11, 3, 61, 0, 0), (.aload 5, 2, 0, 0, 0), (.getfield 76, 3, 6, 5, 1), (.goto 9, 3, 67, 0, 0)]
theorem k_X3_creditsLessDebits_5 : z_chk 5 false cX3_creditsLessDebits 6 5 b_X3_creditsLessDebits_5 61 = true := by decide +kernel
def b_X3_creditsLessDebits_61 : List z_E := [(.aload 5, 2, 0, 0, 0), (.getfield 76, 3, 6, 5, 1), (.lneg, 1, 0, 0, 0)]
theorem k_X3_creditsLessDebits_61 : z_chk 5 false cX3_creditsLessDebits 6 61 b_X3_creditsLessDebits_61 67 = true := by decide +kernel
def b_X3_creditsLessDebits_67 : List z_E := [(.ladd, 1, 0, 0, 0), (.lstore_n 2, 1, 0, 0, 0)]
theorem k_X3_creditsLessDebits_67 : z_chk 5 false cX3_creditsLessDebits 6 67 b_X3_creditsLessDebits_67 69 = true := by decide +kernel
def b_X3_creditsLessDebits_69 : List z_E := [(.iinc 4 1, 3, 0, 0, 0), (.goto (-67), 3, 5, 0, 0)]
theorem k_X3_creditsLessDebits_69 : z_chk 5 false cX3_creditsLessDebits 6 69 b_X3_creditsLessDebits_69 75 = true := by decide +kernel
def b_X3_creditsLessDebits_75 : List z_E := [(.lload_n 2, 1, 0, 0, 0), (.lreturn, 1, 0, 0, 0)]
theorem k_X3_creditsLessDebits_75 : z_chk 5 false cX3_creditsLessDebits 6 75 b_X3_creditsLessDebits_75 77 = true := by decide +kernel
def b_X3_debitsLessCredits_0 : List z_E := [(.lconst 0, 1, 0, 0, 0), (.lstore_n 2, 1, 0, 0, 0), (.iconst 0, 1, 0, 0, 0), (.istore 4, 2, 0, 0, 0)]
theorem k_X3_debitsLessCredits_0 : z_chk 5 false cX3_debitsLessCredits 6 0 b_X3_debitsLessCredits_0 5 = true := by decide +kernel
def b_X3_debitsLessCredits_5 : List z_E := [(.iload 4, 2, 0, 0, 0), (.aload_n 0, 1, 0, 0, 0), (.getfield 12, 3, 5, 0, 2), (.invokevirtual 25, 3, 0, 1, 0), (.if_icmp .ge 57, 3, 71, 0, 0), (.aload_n 0, 1, 0, 0, 0), (.getfield 12, 3, 5, 0, 2), (.iload 4, 2, 0, 0, 0), (.invokevirtual 29, 3, 0, 2, 0), (.checkcast 33, 3, 6, 0, 0), (.astore 5, 2, 0, 0, 0), (.aload 5, 2, 0, 0, 0), (.iload_n 1, 1, 0, 0, 0), (.invokevirtual 80, 3, 2, 0, 0), (.ifCond .eq 28, 3, 65, 0, 0), (.lload_n 2, 1, 0, 0, 0), (.aload 5, 2, 0, 0, 0), (.getfield 73, 3, 6, 4, 0), (.ifCond .ne 11, 3, 57, 0, 0), (.aload 5, 2, 0, 0, 0), (.getfield 76, 3, 6, 5, 1), (.goto 9, 3, 63, 0, 0)]
theorem k_X3_debitsLessCredits_5 : z_chk 5 false cX3_debitsLessCredits 6 5 b_X3_debitsLessCredits_5 57 = true := by decide +kernel
def b_X3_debitsLessCredits_57 : List z_E := [(.aload 5, 2, 0, 0, 0), (.getfield 76, 3, 6, 5, 1), (.lneg, 1, 0, 0, 0)]
theorem k_X3_debitsLessCredits_57 : z_chk 5 false cX3_debitsLessCredits 6 57 b_X3_debitsLessCredits_57 63 = true := by decide +kernel
def b_X3_debitsLessCredits_63 : List z_E := [(.ladd, 1, 0, 0, 0), (.lstore_n 2, 1, 0, 0, 0)]
theorem k_X3_debitsLessCredits_63 : z_chk 5 false cX3_debitsLessCredits 6 63 b_X3_debitsLessCredits_63 65 = true := by decide +kernel
def b_X3_debitsLessCredits_65 : List z_E := [(.iinc 4 1, 3, 0, 0, 0), (.goto (-63), 3, 5, 0, 0)]
theorem k_X3_debitsLessCredits_65 : z_chk 5 false cX3_debitsLessCredits 6 65 b_X3_debitsLessCredits_65 71 = true := by decide +kernel
def b_X3_debitsLessCredits_71 : List z_E := [(.lload_n 2, 1, 0, 0, 0), (.lreturn, 1, 0, 0, 0)]
theorem k_X3_debitsLessCredits_71 : z_chk 5 false cX3_debitsLessCredits 6 71 b_X3_debitsLessCredits_71 73 = true := by decide +kernel
def b_X3_findSuspects_0 : List z_E := [(.aload_n 0, 1, 0, 0, 0), (.iconst 0, 1, 0, 0, 0), (.putfield 84, 3, 5, 3, 0), (.aload_n 0, 1, 0, 0, 0), (.iload_n 1, 1, 0, 0, 0), (.invokevirtual 87, 3, 2, 0, 0), (.lstore_n 2, 1, 0, 0, 0), (.lload_n 2, 1, 0, 0, 0), (.lconst 0, 1, 0, 0, 0), (.lcmp, 1, 0, 0, 0), (.ifCond .ne 5, 3, 19, 0, 0), (.iconst (-1), 1, 0, 0, 0), (.ireturn, 1, 0, 0, 0)]
theorem k_X3_findSuspects_0 : z_chk 5 false cX3_findSuspects 7 0 b_X3_findSuspects_0 19 = true := by decide +kernel
def b_X3_findSuspects_19 : List z_E := [(.iconst 0, 1, 0, 0, 0), (.istore 4, 2, 0, 0, 0)]
theorem k_X3_findSuspects_19 : z_chk 5 false cX3_findSuspects 7 19 b_X3_findSuspects_19 22 = true := by decide +kernel
def b_X3_findSuspects_22 : List z_E := [(.iload 4, 2, 0, 0, 0), (.aload_n 0, 1, 0, 0, 0), (.getfield 12, 3, 5, 0, 2), (.invokevirtual 25, 3, 0, 1, 0), (.if_icmp .ge 92, 3, 123, 0, 0), (.aload_n 0, 1, 0, 0, 0), (.getfield 12, 3, 5, 0, 2), (.iload 4, 2, 0, 0, 0), (.invokevirtual 29, 3, 0, 2, 0), (.checkcast 33, 3, 6, 0, 0), (.astore 5, 2, 0, 0, 0), (.aload 5, 2, 0, 0, 0), (.iload_n 1, 1, 0, 0, 0), (.invokevirtual 80, 3, 2, 0, 0), (.ifCond .eq 12, 3, 66, 0, 0), (.aload 5, 2, 0, 0, 0), (.lload_n 2, 1, 0, 0, 0), (.invokestatic 91, 3, 2, 0, 0), (.goto 4, 3, 67, 0, 0)]
theorem k_X3_findSuspects_22 : z_chk 5 false cX3_findSuspects 7 22 b_X3_findSuspects_22 66 = true := by decide +kernel
def b_X3_findSuspects_66 : List z_E := [(.iconst (-1), 1, 0, 0, 0)]
theorem k_X3_findSuspects_66 : z_chk 5 false cX3_findSuspects 7 66 b_X3_findSuspects_66 67 = true := by decide +kernel
def b_X3_findSuspects_67 : List z_E := [(.istore 6, 2, 0, 0, 0), (.iload 6, 2, 0, 0, 0), (.iconst (-1), 1, 0, 0, 0), (.if_icmp .eq 45, 3, 117, 0, 0), (.aload_n 0, 1, 0, 0, 0), (.getfield 84, 3, 5, 3, 0), (.sipush 600, 3, 0, 0, 0), (.if_icmp .ge 35, 3, 117, 0, 0), (.aload_n 0, 1, 0, 0, 0), (.getfield 18, 3, 5, 1, 2), (.aload_n 0, 1, 0, 0, 0), (.getfield 84, 3, 5, 3, 0), (.iload 4, 2, 0, 0, 0), (.iastore, 1, 0, 0, 0), (.aload_n 0, 1, 0, 0, 0), (.getfield 22, 3, 5, 2, 2), (.aload_n 0, 1, 0, 0, 0), (.getfield 84, 3, 5, 3, 0), (.iload 6, 2, 0, 0, 0), (.iastore, 1, 0, 0, 0), (.aload_n 0, 1, 0, 0, 0), (.dup, 1, 0, 0, 0), (.getfield 84, 3, 5, 3, 0), (.iconst 1, 1, 0, 0, 0), (.iadd, 1, 0, 0, 0), (.putfield 84, 3, 5, 3, 0)]
theorem k_X3_findSuspects_67 : z_chk 5 false cX3_findSuspects 7 67 b_X3_findSuspects_67 117 = true := by decide +kernel
def b_X3_findSuspects_117 : List z_E := [(.iinc 4 1, 3, 0, 0, 0), (.goto (-98), 3, 22, 0, 0)]
theorem k_X3_findSuspects_117 : z_chk 5 false cX3_findSuspects 7 117 b_X3_findSuspects_117 123 = true := by decide +kernel
def b_X3_findSuspects_123 : List z_E := [(.aload_n 0, 1, 0, 0, 0), (.getfield 84, 3, 5, 3, 0), (.ireturn, 1, 0, 0, 0)]
theorem k_X3_findSuspects_123 : z_chk 5 false cX3_findSuspects 7 123 b_X3_findSuspects_123 128 = true := by decide +kernel
def b_X3_suspicionOf_0 : List z_E := [(.aload_n 0, 1, 0, 0, 0), (.getfield 73, 3, 6, 4, 0), (.iconst 1, 1, 0, 0, 0), (.if_icmp .ne 40, 3, 45, 0, 0), (.lload_n 1, 1, 0, 0, 0), (.ldc2_w 95, 3, 0, 0, 9), (.lrem, 1, 0, 0, 0), (.lconst 0, 1, 0, 0, 0), (.lcmp, 1, 0, 0, 0), (.ifCond .ne 18, 3, 33, 0, 0), (.aload_n 0, 1, 0, 0, 0), (.getfield 76, 3, 6, 5, 1), (.lload_n 1, 1, 0, 0, 0), (.invokestatic 97, 3, 2, 0, 0), (.ifCond .eq 7, 3, 33, 0, 0), (.iconst 1, 1, 0, 0, 0), (.goto 4, 3, 34, 0, 0)]
theorem k_X3_suspicionOf_0 : z_chk 5 false cX3_suspicionOf 4 0 b_X3_suspicionOf_0 33 = true := by decide +kernel
def b_X3_suspicionOf_33 : List z_E := [(.iconst 0, 1, 0, 0, 0)]
theorem k_X3_suspicionOf_33 : z_chk 5 false cX3_suspicionOf 4 33 b_X3_suspicionOf_33 34 = true := by decide +kernel
def b_X3_suspicionOf_34 : List z_E := [(.istore_n 3, 1, 0, 0, 0), (.iload_n 3, 1, 0, 0, 0), (.ifCond .eq 7, 3, 43, 0, 0), (.iconst 2, 1, 0, 0, 0), (.goto 4, 3, 44, 0, 0)]
theorem k_X3_suspicionOf_34 : z_chk 5 false cX3_suspicionOf 4 34 b_X3_suspicionOf_34 43 = true := by decide +kernel
def b_X3_suspicionOf_43 : List z_E := [(.iconst (-1), 1, 0, 0, 0)]
theorem k_X3_suspicionOf_43 : z_chk 5 false cX3_suspicionOf 4 43 b_X3_suspicionOf_43 44 = true := by decide +kernel
def b_X3_suspicionOf_44 : List z_E := [(.ireturn, 1, 0, 0, 0)]
theorem k_X3_suspicionOf_44 : z_chk 5 false cX3_suspicionOf 4 44 b_X3_suspicionOf_44 45 = true := by decide +kernel
def b_X3_suspicionOf_45 : List z_E := [(.aload_n 0, 1, 0, 0, 0), (.getfield 76, 3, 6, 5, 1), (.lload_n 1, 1, 0, 0, 0), (.lcmp, 1, 0, 0, 0), (.ifCond .ne 5, 3, 56, 0, 0), (.iconst 0, 1, 0, 0, 0), (.ireturn, 1, 0, 0, 0)]
theorem k_X3_suspicionOf_45 : z_chk 5 false cX3_suspicionOf 4 45 b_X3_suspicionOf_45 56 = true := by decide +kernel
def b_X3_suspicionOf_56 : List z_E := [(.lload_n 1, 1, 0, 0, 0), (.ldc2_w 101, 3, 0, 0, 2), (.lrem, 1, 0, 0, 0), (.lconst 0, 1, 0, 0, 0), (.lcmp, 1, 0, 0, 0), (.ifCond .ne 20, 3, 83, 0, 0), (.aload_n 0, 1, 0, 0, 0), (.getfield 76, 3, 6, 5, 1), (.lload_n 1, 1, 0, 0, 0), (.ldc2_w 101, 3, 0, 0, 2), (.ldiv, 1, 0, 0, 0), (.lcmp, 1, 0, 0, 0), (.ifCond .ne 7, 3, 83, 0, 0), (.iconst 1, 1, 0, 0, 0), (.goto 4, 3, 84, 0, 0)]
theorem k_X3_suspicionOf_56 : z_chk 5 false cX3_suspicionOf 4 56 b_X3_suspicionOf_56 83 = true := by decide +kernel
def b_X3_suspicionOf_83 : List z_E := [(.iconst (-1), 1, 0, 0, 0)]
theorem k_X3_suspicionOf_83 : z_chk 5 false cX3_suspicionOf 4 83 b_X3_suspicionOf_83 84 = true := by decide +kernel
def b_X3_suspicionOf_84 : List z_E := [(.ireturn, 1, 0, 0, 0)]
theorem k_X3_suspicionOf_84 : z_chk 5 false cX3_suspicionOf 4 84 b_X3_suspicionOf_84 85 = true := by decide +kernel
def b_X3_someExchangeAdds_0 : List z_E := [(.iconst 0, 1, 0, 0, 0), (.istore 4, 2, 0, 0, 0)]
theorem k_X3_someExchangeAdds_0 : z_chk 5 false cX3_someExchangeAdds 5 0 b_X3_someExchangeAdds_0 3 = true := by decide +kernel
def b_X3_someExchangeAdds_3 : List z_E := [(.iload 4, 2, 0, 0, 0), (.bipush 8, 2, 0, 0, 0), (.if_icmp .gt 24, 3, 31, 0, 0), (.lload_n 0, 1, 0, 0, 0), (.iload 4, 2, 0, 0, 0), (.invokestatic 103, 3, 2, 0, 0), (.lload_n 0, 1, 0, 0, 0), (.lload_n 2, 1, 0, 0, 0), (.ladd, 1, 0, 0, 0), (.lcmp, 1, 0, 0, 0), (.ifCond .ne 5, 3, 25, 0, 0), (.iconst 1, 1, 0, 0, 0), (.ireturn, 1, 0, 0, 0)]
theorem k_X3_someExchangeAdds_3 : z_chk 5 false cX3_someExchangeAdds 5 3 b_X3_someExchangeAdds_3 25 = true := by decide +kernel
def b_X3_someExchangeAdds_25 : List z_E := [(.iinc 4 1, 3, 0, 0, 0), (.goto (-25), 3, 3, 0, 0)]
theorem k_X3_someExchangeAdds_25 : z_chk 5 false cX3_someExchangeAdds 5 25 b_X3_someExchangeAdds_25 31 = true := by decide +kernel
def b_X3_someExchangeAdds_31 : List z_E := [(.iconst 0, 1, 0, 0, 0), (.ireturn, 1, 0, 0, 0)]
theorem k_X3_someExchangeAdds_31 : z_chk 5 false cX3_someExchangeAdds 5 31 b_X3_someExchangeAdds_31 33 = true := by decide +kernel
def b_X3_withDigitsExchanged_0 : List z_E := [(.lconst 1, 1, 0, 0, 0), (.lstore_n 3, 1, 0, 0, 0), (.lload_n 0, 1, 0, 0, 0), (.lstore 5, 2, 0, 0, 0), (.iconst 0, 1, 0, 0, 0), (.istore 7, 2, 0, 0, 0)]
theorem k_X3_withDigitsExchanged_0 : z_chk 5 false cX3_withDigitsExchanged 11 0 b_X3_withDigitsExchanged_0 8 = true := by decide +kernel
def b_X3_withDigitsExchanged_8 : List z_E := [(.iload 7, 2, 0, 0, 0), (.iload_n 2, 1, 0, 0, 0), (.if_icmp .ge 23, 3, 34, 0, 0), (.lload_n 3, 1, 0, 0, 0), (.ldc2_w 107, 3, 0, 0, 10), (.lmul, 1, 0, 0, 0), (.lstore_n 3, 1, 0, 0, 0), (.lload 5, 2, 0, 0, 0), (.ldc2_w 107, 3, 0, 0, 10), (.ldiv, 1, 0, 0, 0), (.lstore 5, 2, 0, 0, 0), (.iinc 7 1, 3, 0, 0, 0), (.goto (-23), 3, 8, 0, 0)]
theorem k_X3_withDigitsExchanged_8 : z_chk 5 false cX3_withDigitsExchanged 11 8 b_X3_withDigitsExchanged_8 34 = true := by decide +kernel
def b_X3_withDigitsExchanged_34 : List z_E := [(.lload 5, 2, 0, 0, 0), (.ldc2_w 107, 3, 0, 0, 10), (.lrem, 1, 0, 0, 0), (.lstore 7, 2, 0, 0, 0), (.lload 5, 2, 0, 0, 0), (.ldc2_w 107, 3, 0, 0, 10), (.ldiv, 1, 0, 0, 0), (.ldc2_w 107, 3, 0, 0, 10), (.lrem, 1, 0, 0, 0), (.lstore 9, 2, 0, 0, 0), (.lload_n 0, 1, 0, 0, 0), (.lload 7, 2, 0, 0, 0), (.lload 9, 2, 0, 0, 0), (.lsub, 1, 0, 0, 0), (.ldc2_w 95, 3, 0, 0, 9), (.lmul, 1, 0, 0, 0), (.lload_n 3, 1, 0, 0, 0), (.lmul, 1, 0, 0, 0), (.ladd, 1, 0, 0, 0), (.lreturn, 1, 0, 0, 0)]
theorem k_X3_withDigitsExchanged_34 : z_chk 5 false cX3_withDigitsExchanged 11 34 b_X3_withDigitsExchanged_34 68 = true := by decide +kernel
def b_X4_init_0 : List z_E := [(.aload_n 0, 1, 0, 0, 0), (.invokespecial 3, 3, 0, 7, 0), (.aload_n 0, 1, 0, 0, 0), (.iload_n 1, 1, 0, 0, 0), (.putfield 9, 3, 6, 0, 0), (.aload_n 0, 1, 0, 0, 0), (.aload_n 2, 1, 0, 0, 0), (.putfield 15, 3, 6, 3, 2), (.aload_n 0, 1, 0, 0, 0), (.iload_n 3, 1, 0, 0, 0), (.putfield 19, 3, 6, 1, 0), (.aload_n 0, 1, 0, 0, 0), (.iload 4, 2, 0, 0, 0), (.putfield 22, 3, 6, 4, 0), (.aload_n 0, 1, 0, 0, 0), (.lload 5, 2, 0, 0, 0), (.putfield 25, 3, 6, 5, 1), (.aload_n 0, 1, 0, 0, 0), (.iload 7, 2, 0, 0, 0), (.putfield 29, 3, 6, 2, 0), (.return_, 1, 0, 0, 0)]
theorem k_X4_init_0 : z_chk 6 true cX4_init 8 0 b_X4_init_0 38 = true := by decide +kernel
def b_X4_isOfBooks_0 : List z_E := [(.aload_n 0, 1, 0, 0, 0), (.getfield 9, 3, 6, 0, 0), (.iload_n 1, 1, 0, 0, 0), (.if_icmp .ne 15, 3, 20, 0, 0), (.aload_n 0, 1, 0, 0, 0), (.getfield 29, 3, 6, 2, 0), (.iconst (-1), 1, 0, 0, 0), (.if_icmp .eq 7, 3, 20, 0, 0), (.iconst 1, 1, 0, 0, 0), (.goto 4, 3, 21, 0, 0)]
theorem k_X4_isOfBooks_0 : z_chk 6 false cX4_isOfBooks 2 0 b_X4_isOfBooks_0 20 = true := by decide +kernel
def b_X4_isOfBooks_20 : List z_E := [(.iconst 0, 1, 0, 0, 0)]
theorem k_X4_isOfBooks_20 : z_chk 6 false cX4_isOfBooks 2 20 b_X4_isOfBooks_20 21 = true := by decide +kernel
def b_X4_isOfBooks_21 : List z_E := [(.ireturn, 1, 0, 0, 0)]
theorem k_X4_isOfBooks_21 : z_chk 6 false cX4_isOfBooks 2 21 b_X4_isOfBooks_21 22 = true := by decide +kernel
def b_X5_init_0 : List z_E := [(.aload_n 0, 1, 0, 0, 0), (.invokespecial 3, 3, 0, 7, 0), (.aload_n 0, 1, 0, 0, 0), (.lload_n 1, 1, 0, 0, 0), (.putfield 9, 3, 7, 0, 1), (.aload_n 0, 1, 0, 0, 0), (.bipush 32, 2, 0, 0, 0), (.newarray .int, 2, 103, 0, 0), (.putfield 15, 3, 7, 1, 2), (.iconst 0, 1, 0, 0, 0), (.istore 5, 2, 0, 0, 0)]
theorem k_X5_init_0 : z_chk 7 true cX5_init 6 0 b_X5_init_0 20 = true := by decide +kernel
def b_X5_init_20 : List z_E := [(.iload 5, 2, 0, 0, 0), (.bipush 32, 2, 0, 0, 0), (.if_icmp .ge 32, 3, 56, 0, 0), (.aload_n 0, 1, 0, 0, 0), (.getfield 15, 3, 7, 1, 2), (.iload 5, 2, 0, 0, 0), (.iload_n 3, 1, 0, 0, 0), (.iload 5, 2, 0, 0, 0), (.iushr, 1, 0, 0, 0), (.iconst 1, 1, 0, 0, 0), (.iand, 1, 0, 0, 0), (.iconst 1, 1, 0, 0, 0), (.if_icmp .ne 8, 3, 48, 0, 0), (.iload 4, 2, 0, 0, 0), (.goto 4, 3, 49, 0, 0)]
theorem k_X5_init_20 : z_chk 7 true cX5_init 6 20 b_X5_init_20 48 = true := by decide +kernel
def b_X5_init_48 : List z_E := [(.iconst (-1), 1, 0, 0, 0)]
theorem k_X5_init_48 : z_chk 7 true cX5_init 6 48 b_X5_init_48 49 = true := by decide +kernel
def b_X5_init_49 : List z_E := [(.iastore, 1, 0, 0, 0), (.iinc 5 1, 3, 0, 0, 0), (.goto (-33), 3, 20, 0, 0)]
theorem k_X5_init_49 : z_chk 7 true cX5_init 6 49 b_X5_init_49 56 = true := by decide +kernel
def b_X5_init_56 : List z_E := [(.return_, 1, 0, 0, 0)]
theorem k_X5_init_56 : z_chk 7 true cX5_init 6 56 b_X5_init_56 57 = true := by decide +kernel
def b_X6_init_0 : List z_E := [(.aload_n 0, 1, 0, 0, 0), (.invokespecial 3, 3, 0, 7, 0), (.aload_n 0, 1, 0, 0, 0), (.iconst 0, 1, 0, 0, 0), (.putfield 9, 3, 8, 6, 0), (.aload_n 0, 1, 0, 0, 0), (.iconst (-1), 1, 0, 0, 0), (.putfield 15, 3, 8, 7, 0), (.aload_n 0, 1, 0, 0, 0), (.iconst (-1), 1, 0, 0, 0), (.putfield 18, 3, 8, 9, 0), (.aload_n 0, 1, 0, 0, 0), (.iconst (-1), 1, 0, 0, 0), (.putfield 21, 3, 8, 10, 0), (.aload_n 0, 1, 0, 0, 0), (.aload_n 1, 1, 0, 0, 0), (.putfield 24, 3, 8, 0, 2), (.aload_n 0, 1, 0, 0, 0), (.aload_n 2, 1, 0, 0, 0), (.putfield 28, 3, 8, 1, 2), (.aload_n 0, 1, 0, 0, 0), (.lload_n 3, 1, 0, 0, 0), (.putfield 31, 3, 8, 2, 1), (.aload_n 0, 1, 0, 0, 0), (.iload 5, 2, 0, 0, 0), (.putfield 35, 3, 8, 3, 0), (.aload_n 0, 1, 0, 0, 0), (.iload 6, 2, 0, 0, 0), (.putfield 38, 3, 8, 4, 0), (.aload_n 0, 1, 0, 0, 0), (.iload 7, 2, 0, 0, 0), (.putfield 41, 3, 8, 5, 0), (.return_, 1, 0, 0, 0)]
theorem k_X6_init_0 : z_chk 8 true cX6_init 8 0 b_X6_init_0 58 = true := by decide +kernel
def b_X7_init_0 : List z_E := [(.aload_n 0, 1, 0, 0, 0), (.invokespecial 3, 3, 0, 7, 0), (.aload_n 0, 1, 0, 0, 0), (.iconst 0, 1, 0, 0, 0), (.putfield 9, 3, 9, 6, 0), (.aload_n 0, 1, 0, 0, 0), (.aload_n 1, 1, 0, 0, 0), (.putfield 15, 3, 9, 4, 2), (.aload_n 0, 1, 0, 0, 0), (.aload_n 2, 1, 0, 0, 0), (.putfield 19, 3, 9, 0, 2), (.aload_n 0, 1, 0, 0, 0), (.iload_n 3, 1, 0, 0, 0), (.putfield 23, 3, 9, 1, 0), (.aload_n 0, 1, 0, 0, 0), (.iload 4, 2, 0, 0, 0), (.putfield 26, 3, 9, 2, 0), (.aload_n 0, 1, 0, 0, 0), (.lload 5, 2, 0, 0, 0), (.putfield 29, 3, 9, 3, 1), (.aload_n 0, 1, 0, 0, 0), (.iload 7, 2, 0, 0, 0), (.putfield 33, 3, 9, 5, 0), (.return_, 1, 0, 0, 0)]
theorem k_X7_init_0 : z_chk 9 true cX7_init 8 0 b_X7_init_0 43 = true := by decide +kernel
def b_X8_init_0 : List z_E := [(.aload_n 0, 1, 0, 0, 0), (.invokespecial 3, 3, 0, 7, 0), (.aload_n 0, 1, 0, 0, 0), (.bipush 60, 2, 0, 0, 0), (.newarray .long, 2, 100, 0, 0), (.putfield 9, 3, 10, 0, 2), (.return_, 1, 0, 0, 0)]
theorem k_X8_init_0 : z_chk 10 true cX8_init 1 0 b_X8_init_0 13 = true := by decide +kernel
def b_X8_begin_0 : List z_E := [(.iconst 0, 1, 0, 0, 0), (.istore_n 3, 1, 0, 0, 0)]
theorem k_X8_begin_0 : z_chk 10 false cX8_begin 4 0 b_X8_begin_0 2 = true := by decide +kernel
def b_X8_begin_2 : List z_E := [(.iload_n 3, 1, 0, 0, 0), (.bipush 60, 2, 0, 0, 0), (.if_icmp .ge 16, 3, 21, 0, 0), (.aload_n 0, 1, 0, 0, 0), (.getfield 9, 3, 10, 0, 2), (.iload_n 3, 1, 0, 0, 0), (.lconst 0, 1, 0, 0, 0), (.lastore, 1, 0, 0, 0), (.iinc 3 1, 3, 0, 0, 0), (.goto (-16), 3, 2, 0, 0)]
theorem k_X8_begin_2 : z_chk 10 false cX8_begin 4 2 b_X8_begin_2 21 = true := by decide +kernel
def b_X8_begin_21 : List z_E := [(.aload_n 0, 1, 0, 0, 0), (.iconst 1, 1, 0, 0, 0), (.putfield 15, 3, 10, 1, 3), (.aload_n 0, 1, 0, 0, 0), (.iload_n 1, 1, 0, 0, 0), (.putfield 19, 3, 10, 2, 0), (.aload_n 0, 1, 0, 0, 0), (.iload_n 2, 1, 0, 0, 0), (.putfield 23, 3, 10, 3, 0), (.return_, 1, 0, 0, 0)]
theorem k_X8_begin_21 : z_chk 10 false cX8_begin 4 21 b_X8_begin_21 37 = true := by decide +kernel
def b_X8_cutToWidth_0 : List z_E := [(.aload_n 0, 1, 0, 0, 0), (.getfield 19, 3, 10, 2, 0), (.tableswitch 42 0 2 #[28, 33, 38], 28, 4, 0, 0)]
theorem k_X8_cutToWidth_0 : z_chk 10 false cX8_cutToWidth 3 0 b_X8_cutToWidth_0 32 = true := by decide +kernel
def b_X8_cutToWidth_32 : List z_E := [(.lload_n 1, 1, 0, 0, 0), (.l2i, 1, 0, 0, 0), (.i2b, 1, 0, 0, 0), (.i2l, 1, 0, 0, 0), (.lreturn, 1, 0, 0, 0)]
theorem k_X8_cutToWidth_32 : z_chk 10 false cX8_cutToWidth 3 32 b_X8_cutToWidth_32 37 = true := by decide +kernel
def b_X8_cutToWidth_37 : List z_E := [(.lload_n 1, 1, 0, 0, 0), (.l2i, 1, 0, 0, 0), (.i2s, 1, 0, 0, 0), (.i2l, 1, 0, 0, 0), (.lreturn, 1, 0, 0, 0)]
theorem k_X8_cutToWidth_37 : z_chk 10 false cX8_cutToWidth 3 37 b_X8_cutToWidth_37 42 = true := by decide +kernel
def b_X8_cutToWidth_42 : List z_E := [(.lload_n 1, 1, 0, 0, 0), (.l2i, 1, 0, 0, 0), (.i2l, 1, 0, 0, 0), (.lreturn, 1, 0, 0, 0)]
theorem k_X8_cutToWidth_42 : z_chk 10 false cX8_cutToWidth 3 42 b_X8_cutToWidth_42 46 = true := by decide +kernel
def b_X8_cutToWidth_46 : List z_E := [(.lload_n 1, 1, 0, 0, 0), (.lreturn, 1, 0, 0, 0)]
theorem k_X8_cutToWidth_46 : z_chk 10 false cX8_cutToWidth 3 46 b_X8_cutToWidth_46 48 = true := by decide +kernel
def b_X8_hasStretch_0 : List z_E := [(.iload_n 1, 1, 0, 0, 0), (.ifCond .lt 21, 3, 22, 0, 0), (.iload_n 2, 1, 0, 0, 0), (.ifCond .lt 17, 3, 22, 0, 0), (.iload_n 1, 1, 0, 0, 0), (.aload_n 0, 1, 0, 0, 0), (.getfield 23, 3, 10, 3, 0), (.iload_n 2, 1, 0, 0, 0), (.isub, 1, 0, 0, 0), (.if_icmp .gt 7, 3, 22, 0, 0), (.iconst 1, 1, 0, 0, 0), (.goto 4, 3, 23, 0, 0)]
theorem k_X8_hasStretch_0 : z_chk 10 false cX8_hasStretch 3 0 b_X8_hasStretch_0 22 = true := by decide +kernel
def b_X8_hasStretch_22 : List z_E := [(.iconst 0, 1, 0, 0, 0)]
theorem k_X8_hasStretch_22 : z_chk 10 false cX8_hasStretch 3 22 b_X8_hasStretch_22 23 = true := by decide +kernel
def b_X8_hasStretch_23 : List z_E := [(.ireturn, 1, 0, 0, 0)]
theorem k_X8_hasStretch_23 : z_chk 10 false cX8_hasStretch 3 23 b_X8_hasStretch_23 24 = true := by decide +kernel
def b_X9_init_0 : List z_E := [(.aload_n 0, 1, 0, 0, 0), (.invokespecial 1, 3, 0, 7, 0), (.aload_n 0, 1, 0, 0, 0), (.sipush 1000, 3, 0, 0, 0), (.putfield 7, 3, 11, 0, 0), (.aload_n 0, 1, 0, 0, 0), (.iconst 5, 1, 0, 0, 0), (.putfield 13, 3, 11, 1, 0), (.aload_n 0, 1, 0, 0, 0), (.sipush 180, 3, 0, 0, 0), (.putfield 16, 3, 11, 2, 0), (.aload_n 0, 1, 0, 0, 0), (.iconst 3, 1, 0, 0, 0), (.putfield 19, 3, 11, 3, 0), (.aload_n 0, 1, 0, 0, 0), (.bipush 10, 2, 0, 0, 0), (.putfield 22, 3, 11, 4, 0), (.aload_n 0, 1, 0, 0, 0), (.iconst 5, 1, 0, 0, 0), (.putfield 25, 3, 11, 5, 0), (.aload_n 0, 1, 0, 0, 0), (.bipush 30, 2, 0, 0, 0), (.putfield 28, 3, 11, 6, 0), (.aload_n 0, 1, 0, 0, 0), (.bipush 60, 2, 0, 0, 0), (.putfield 31, 3, 11, 7, 0), (.return_, 1, 0, 0, 0)]
theorem k_X9_init_0 : z_chk 11 true cX9_init 1 0 b_X9_init_0 52 = true := by decide +kernel
def b_X10_init_0 : List z_E := [(.aload_n 0, 1, 0, 0, 0), (.invokespecial 3, 3, 0, 7, 0), (.return_, 1, 0, 0, 0)]
theorem k_X10_init_0 : z_chk 12 true cX10_init 1 0 b_X10_init_0 5 = true := by decide +kernel
def b_X10_weigh_0 : List z_E := [(.aload_n 0, 1, 0, 0, 0), (.iconst 0, 1, 0, 0, 0), (.putfield 9, 3, 12, 0, 0), (.aload_n 0, 1, 0, 0, 0), (.iconst 0, 1, 0, 0, 0), (.putfield 15, 3, 12, 1, 0), (.iconst 0, 1, 0, 0, 0), (.istore_n 3, 1, 0, 0, 0)]
theorem k_X10_weigh_0 : z_chk 12 false cX10_weigh 6 0 b_X10_weigh_0 12 = true := by decide +kernel
def b_X10_weigh_12 : List z_E := [(.iload_n 3, 1, 0, 0, 0), (.aload_n 1, 1, 0, 0, 0), (.getfield 18, 3, 10, 3, 0), (.if_icmp .ge 104, 3, 121, 0, 0), (.iload_n 3, 1, 0, 0, 0), (.bipush 60, 2, 0, 0, 0), (.if_icmp .ge 98, 3, 121, 0, 0), (.aload_n 1, 1, 0, 0, 0), (.getfield 23, 3, 10, 0, 2), (.iload_n 3, 1, 0, 0, 0), (.laload, 1, 0, 0, 0), (.lstore 4, 2, 0, 0, 0), (.aload_n 2, 1, 0, 0, 0), (.lload 4, 2, 0, 0, 0), (.invokevirtual 27, 3, 2, 0, 0), (.ifCond .eq 75, 3, 115, 0, 0), (.aload_n 0, 1, 0, 0, 0), (.aload_n 0, 1, 0, 0, 0), (.getfield 9, 3, 12, 0, 0), (.ifCond .ne 8, 3, 56, 0, 0), (.lload 4, 2, 0, 0, 0), (.goto 12, 3, 65, 0, 0)]
theorem k_X10_weigh_12 : z_chk 12 false cX10_weigh 6 12 b_X10_weigh_12 56 = true := by decide +kernel
def b_X10_weigh_56 : List z_E := [(.aload_n 0, 1, 0, 0, 0), (.getfield 33, 3, 12, 2, 1), (.lload 4, 2, 0, 0, 0), (.invokestatic 37, 3, 2, 0, 0)]
theorem k_X10_weigh_56 : z_chk 12 false cX10_weigh 6 56 b_X10_weigh_56 65 = true := by decide +kernel
def b_X10_weigh_65 : List z_E := [(.putfield 33, 3, 12, 2, 1), (.aload_n 0, 1, 0, 0, 0), (.aload_n 0, 1, 0, 0, 0), (.getfield 9, 3, 12, 0, 0), (.ifCond .ne 8, 3, 81, 0, 0), (.lload 4, 2, 0, 0, 0), (.goto 12, 3, 90, 0, 0)]
theorem k_X10_weigh_65 : z_chk 12 false cX10_weigh 6 65 b_X10_weigh_65 81 = true := by decide +kernel
def b_X10_weigh_81 : List z_E := [(.aload_n 0, 1, 0, 0, 0), (.getfield 43, 3, 12, 3, 1), (.lload 4, 2, 0, 0, 0), (.invokestatic 46, 3, 2, 0, 0)]
theorem k_X10_weigh_81 : z_chk 12 false cX10_weigh 6 81 b_X10_weigh_81 90 = true := by decide +kernel
def b_X10_weigh_90 : List z_E := [(.putfield 43, 3, 12, 3, 1), (.aload_n 0, 1, 0, 0, 0), (.dup, 1, 0, 0, 0), (.getfield 9, 3, 12, 0, 0), (.iconst 1, 1, 0, 0, 0), (.iadd, 1, 0, 0, 0), (.putfield 9, 3, 12, 0, 0), (.aload_n 0, 1, 0, 0, 0), (.dup, 1, 0, 0, 0), (.getfield 15, 3, 12, 1, 0), (.lload 4, 2, 0, 0, 0), (.l2i, 1, 0, 0, 0), (.iadd, 1, 0, 0, 0), (.putfield 15, 3, 12, 1, 0)]
theorem k_X10_weigh_90 : z_chk 12 false cX10_weigh 6 90 b_X10_weigh_90 115 = true := by decide +kernel
def b_X10_weigh_115 : List z_E := [(.iinc 3 1, 3, 0, 0, 0), (.goto (-106), 3, 12, 0, 0)]
theorem k_X10_weigh_115 : z_chk 12 false cX10_weigh 6 115 b_X10_weigh_115 121 = true := by decide +kernel
def b_X10_weigh_121 : List z_E := [(.return_, 1, 0, 0, 0)]
theorem k_X10_weigh_121 : z_chk 12 false cX10_weigh 6 121 b_X10_weigh_121 122 = true := by decide +kernel
def b_X11_init_0 : List z_E := [(.aload_n 0, 1, 0, 0, 0), (.invokespecial 1, 3, 0, 7, 0), (.aload_n 0, 1, 0, 0, 0), (.new 7, 3, 11, 0, 0), (.dup, 1, 0, 0, 0), (.invokespecial 9, 3, 1, 0, 0), (.putfield 10, 3, 13, 0, 2), (.aload_n 0, 1, 0, 0, 0), (.new 16, 7, 200, 1, 18), (.putfield 19, 3, 13, 1, 2), (.aload_n 0, 1, 0, 0, 0), (.new 16, 7, 201, 1, 18), (.putfield 23, 3, 13, 2, 2), (.aload_n 0, 1, 0, 0, 0), (.new 16, 7, 202, 1, 18), (.putfield 26, 3, 13, 3, 2), (.aload_n 0, 1, 0, 0, 0), (.new 16, 7, 203, 1, 18), (.putfield 29, 3, 13, 4, 2), (.aload_n 0, 1, 0, 0, 0), (.new 16, 7, 204, 1, 18), (.putfield 32, 3, 13, 5, 2), (.aload_n 0, 1, 0, 0, 0), (.new 16, 7, 205, 1, 18), (.putfield 35, 3, 13, 6, 2), (.iconst 0, 1, 0, 0, 0), (.istore_n 1, 1, 0, 0, 0)]
theorem k_X11_init_0 : z_chk 13 true cX11_init 2 0 b_X11_init_0 83 = true := by decide +kernel
def b_X11_init_83 : List z_E := [(.iload_n 1, 1, 0, 0, 0), (.iconst 4, 1, 0, 0, 0), (.if_icmp .ge 24, 3, 109, 0, 0), (.aload_n 0, 1, 0, 0, 0), (.getfield 35, 3, 13, 6, 2), (.new 38, 3, 10, 0, 0), (.dup, 1, 0, 0, 0), (.invokespecial 40, 3, 1, 0, 0), (.invokevirtual 41, 3, 0, 3, 0), (.pop, 1, 0, 0, 0), (.iinc 1 1, 3, 0, 0, 0), (.goto (-23), 3, 83, 0, 0)]
theorem k_X11_init_83 : z_chk 13 true cX11_init 2 83 b_X11_init_83 109 = true := by decide +kernel
def b_X11_init_109 : List z_E := [(.aload_n 0, 1, 0, 0, 0), (.new 45, 3, 5, 0, 0), (.dup, 1, 0, 0, 0), (.invokespecial 47, 3, 1, 0, 0), (.putfield 48, 3, 13, 7, 2), (.aload_n 0, 1, 0, 0, 0), (.new 52, 3, 3, 0, 0), (.dup, 1, 0, 0, 0), (.invokespecial 54, 3, 1, 0, 0), (.putfield 55, 3, 13, 8, 2), (.aload_n 0, 1, 0, 0, 0), (.new 59, 3, 12, 0, 0), (.dup, 1, 0, 0, 0), (.invokespecial 61, 3, 1, 0, 0), (.putfield 62, 3, 13, 9, 2), (.return_, 1, 0, 0, 0)]
theorem k_X11_init_109 : z_chk 13 true cX11_init 2 109 b_X11_init_109 143 = true := by decide +kernel
def b_X11_terms_0 : List z_E := [(.iload_n 1, 1, 0, 0, 0), (.i2l, 1, 0, 0, 0), (.lconst 1, 1, 0, 0, 0), (.ldc2_w 66, 3, 0, 0, 100000), (.invokestatic 68, 3, 3, 0, 0), (.ifCond .eq 100, 3, 109, 0, 0), (.iload_n 2, 1, 0, 0, 0), (.i2l, 1, 0, 0, 0), (.lconst 0, 1, 0, 0, 0), (.ldc2_w 72, 3, 0, 0, 100), (.invokestatic 68, 3, 3, 0, 0), (.ifCond .eq 88, 3, 109, 0, 0), (.iload_n 3, 1, 0, 0, 0), (.i2l, 1, 0, 0, 0), (.lconst 1, 1, 0, 0, 0), (.ldc2_w 74, 3, 0, 0, 1000), (.invokestatic 68, 3, 3, 0, 0), (.ifCond .eq 76, 3, 109, 0, 0), (.iload 4, 2, 0, 0, 0), (.i2l, 1, 0, 0, 0), (.lconst 0, 1, 0, 0, 0), (.ldc2_w 72, 3, 0, 0, 100), (.invokestatic 68, 3, 3, 0, 0), (.ifCond .eq 63, 3, 109, 0, 0), (.iload 5, 2, 0, 0, 0), (.i2l, 1, 0, 0, 0), (.lconst 0, 1, 0, 0, 0), (.ldc2_w 74, 3, 0, 0, 1000), (.invokestatic 68, 3, 3, 0, 0), (.ifCond .eq 50, 3, 109, 0, 0), (.iload 6, 2, 0, 0, 0), (.i2l, 1, 0, 0, 0), (.lconst 0, 1, 0, 0, 0), (.ldc2_w 72, 3, 0, 0, 100), (.invokestatic 68, 3, 3, 0, 0), (.ifCond .eq 37, 3, 109, 0, 0), (.iload 7, 2, 0, 0, 0), (.i2l, 1, 0, 0, 0), (.ldc2_w 76, 3, 0, 0, (-100)), (.iload 8, 2, 0, 0, 0), (.i2l, 1, 0, 0, 0), (.invokestatic 68, 3, 3, 0, 0), (.ifCond .eq 22, 3, 109, 0, 0), (.iload 8, 2, 0, 0, 0), (.i2l, 1, 0, 0, 0), (.iload 7, 2, 0, 0, 0), (.i2l, 1, 0, 0, 0), (.ldc2_w 78, 3, 0, 0, 300), (.invokestatic 68, 3, 3, 0, 0), (.ifCond .eq 7, 3, 109, 0, 0), (.iconst 1, 1, 0, 0, 0), (.goto 4, 3, 110, 0, 0)]
theorem k_X11_terms_0 : z_chk 13 false cX11_terms 10 0 b_X11_terms_0 109 = true := by decide +kernel
def b_X11_terms_109 : List z_E := [(.iconst 0, 1, 0, 0, 0)]
theorem k_X11_terms_109 : z_chk 13 false cX11_terms 10 109 b_X11_terms_109 110 = true := by decide +kernel
def b_X11_terms_110 : List z_E := [(.istore 9, 2, 0, 0, 0), (.iload 9, 2, 0, 0, 0), (.ifCond .ne 6, 3, 120, 0, 0), (.bipush (-2), 2, 0, 0, 0), (.ireturn, 1, 0, 0, 0)]
theorem k_X11_terms_110 : z_chk 13 false cX11_terms 10 110 b_X11_terms_110 120 = true := by decide +kernel
def b_X11_terms_120 : List z_E := [(.aload_n 0, 1, 0, 0, 0), (.getfield 10, 3, 13, 0, 2), (.iload_n 1, 1, 0, 0, 0), (.putfield 80, 3, 11, 0, 0), (.aload_n 0, 1, 0, 0, 0), (.getfield 10, 3, 13, 0, 2), (.iload_n 2, 1, 0, 0, 0), (.putfield 84, 3, 11, 1, 0), (.aload_n 0, 1, 0, 0, 0), (.getfield 10, 3, 13, 0, 2), (.iload_n 3, 1, 0, 0, 0), (.putfield 87, 3, 11, 2, 0), (.aload_n 0, 1, 0, 0, 0), (.getfield 10, 3, 13, 0, 2), (.iload 4, 2, 0, 0, 0), (.putfield 90, 3, 11, 3, 0), (.aload_n 0, 1, 0, 0, 0), (.getfield 10, 3, 13, 0, 2), (.iload 5, 2, 0, 0, 0), (.putfield 93, 3, 11, 4, 0), (.aload_n 0, 1, 0, 0, 0), (.getfield 10, 3, 13, 0, 2), (.iload 6, 2, 0, 0, 0), (.putfield 96, 3, 11, 5, 0), (.aload_n 0, 1, 0, 0, 0), (.getfield 10, 3, 13, 0, 2), (.iload 7, 2, 0, 0, 0), (.putfield 99, 3, 11, 6, 0), (.aload_n 0, 1, 0, 0, 0), (.getfield 10, 3, 13, 0, 2), (.iload 8, 2, 0, 0, 0), (.putfield 102, 3, 11, 7, 0), (.iconst 0, 1, 0, 0, 0), (.ireturn, 1, 0, 0, 0)]
theorem k_X11_terms_120 : z_chk 13 false cX11_terms 10 120 b_X11_terms_120 191 = true := by decide +kernel
def b_X11_kind_0 : List z_E := [(.iload_n 1, 1, 0, 0, 0), (.i2l, 1, 0, 0, 0), (.lconst 1, 1, 0, 0, 0), (.ldc2_w 66, 3, 0, 0, 100000), (.invokestatic 68, 3, 3, 0, 0), (.ifCond .eq 26, 3, 35, 0, 0), (.iload_n 2, 1, 0, 0, 0), (.i2l, 1, 0, 0, 0), (.lconst 1, 1, 0, 0, 0), (.iload_n 1, 1, 0, 0, 0), (.i2l, 1, 0, 0, 0), (.invokestatic 68, 3, 3, 0, 0), (.ifCond .eq 15, 3, 35, 0, 0), (.iload_n 3, 1, 0, 0, 0), (.i2l, 1, 0, 0, 0), (.lconst 1, 1, 0, 0, 0), (.ldc2_w 74, 3, 0, 0, 1000), (.invokestatic 68, 3, 3, 0, 0), (.ifCond .ne 6, 3, 38, 0, 0)]
theorem k_X11_kind_0 : z_chk 13 false cX11_kind 4 0 b_X11_kind_0 35 = true := by decide +kernel
def b_X11_kind_35 : List z_E := [(.bipush (-2), 2, 0, 0, 0), (.ireturn, 1, 0, 0, 0)]
theorem k_X11_kind_35 : z_chk 13 false cX11_kind 4 35 b_X11_kind_35 38 = true := by decide +kernel
def b_X11_kind_38 : List z_E := [(.aload_n 0, 1, 0, 0, 0), (.getfield 19, 3, 13, 1, 2), (.invokevirtual 105, 3, 0, 1, 0), (.bipush 6, 2, 0, 0, 0), (.if_icmp .lt 6, 3, 53, 0, 0), (.bipush (-3), 2, 0, 0, 0), (.ireturn, 1, 0, 0, 0)]
theorem k_X11_kind_38 : z_chk 13 false cX11_kind 4 38 b_X11_kind_38 53 = true := by decide +kernel
def b_X11_kind_53 : List z_E := [(.aload_n 0, 1, 0, 0, 0), (.getfield 19, 3, 13, 1, 2), (.new 109, 3, 4, 0, 0), (.dup, 1, 0, 0, 0), (.aload_n 0, 1, 0, 0, 0), (.getfield 19, 3, 13, 1, 2), (.invokevirtual 105, 3, 0, 1, 0), (.iload_n 1, 1, 0, 0, 0), (.iload_n 2, 1, 0, 0, 0), (.iload_n 3, 1, 0, 0, 0), (.invokespecial 111, 3, 5, 0, 0), (.invokevirtual 41, 3, 0, 3, 0), (.pop, 1, 0, 0, 0), (.aload_n 0, 1, 0, 0, 0), (.getfield 19, 3, 13, 1, 2), (.invokevirtual 105, 3, 0, 1, 0), (.iconst 1, 1, 0, 0, 0), (.isub, 1, 0, 0, 0), (.ireturn, 1, 0, 0, 0)]
theorem k_X11_kind_53 : z_chk 13 false cX11_kind 4 53 b_X11_kind_53 88 = true := by decide +kernel
def b_X11_account_0 : List z_E := [(.aload_n 0, 1, 0, 0, 0), (.getfield 23, 3, 13, 2, 2), (.invokevirtual 105, 3, 0, 1, 0), (.bipush 24, 2, 0, 0, 0), (.if_icmp .lt 6, 3, 15, 0, 0), (.bipush (-3), 2, 0, 0, 0), (.ireturn, 1, 0, 0, 0)]
theorem k_X11_account_0 : z_chk 13 false cX11_account 1 0 b_X11_account_0 15 = true := by decide +kernel
def b_X11_account_15 : List z_E := [(.aload_n 0, 1, 0, 0, 0), (.getfield 23, 3, 13, 2, 2), (.new 114, 3, 2, 0, 0), (.dup, 1, 0, 0, 0), (.aload_n 0, 1, 0, 0, 0), (.getfield 23, 3, 13, 2, 2), (.invokevirtual 105, 3, 0, 1, 0), (.invokespecial 116, 3, 2, 0, 0), (.invokevirtual 41, 3, 0, 3, 0), (.pop, 1, 0, 0, 0), (.aload_n 0, 1, 0, 0, 0), (.getfield 23, 3, 13, 2, 2), (.invokevirtual 105, 3, 0, 1, 0), (.iconst 1, 1, 0, 0, 0), (.isub, 1, 0, 0, 0), (.ireturn, 1, 0, 0, 0)]
theorem k_X11_account_15 : z_chk 13 false cX11_account 1 15 b_X11_account_15 47 = true := by decide +kernel
def b_X11_attorney_0 : List z_E := [(.aload_n 0, 1, 0, 0, 0), (.iload_n 1, 1, 0, 0, 0), (.invokevirtual 119, 3, 2, 0, 0), (.astore 4, 2, 0, 0, 0), (.aload 4, 2, 0, 0, 0), (.ifnull 27, 3, 36, 0, 0), (.iload_n 2, 1, 0, 0, 0), (.i2l, 1, 0, 0, 0), (.lconst 0, 1, 0, 0, 0), (.ldc2_w 123, 3, 0, 0, 99), (.invokestatic 68, 3, 3, 0, 0), (.ifCond .eq 15, 3, 36, 0, 0), (.iload_n 3, 1, 0, 0, 0), (.i2l, 1, 0, 0, 0), (.lconst 0, 1, 0, 0, 0), (.ldc2_w 125, 3, 0, 0, 5000), (.invokestatic 68, 3, 3, 0, 0), (.ifCond .ne 6, 3, 39, 0, 0)]
theorem k_X11_attorney_0 : z_chk 13 false cX11_attorney 5 0 b_X11_attorney_0 36 = true := by decide +kernel
def b_X11_attorney_36 : List z_E := [(.bipush (-2), 2, 0, 0, 0), (.ireturn, 1, 0, 0, 0)]
theorem k_X11_attorney_36 : z_chk 13 false cX11_attorney 5 36 b_X11_attorney_36 39 = true := by decide +kernel
def b_X11_attorney_39 : List z_E := [(.aload 4, 2, 0, 0, 0), (.iload_n 2, 1, 0, 0, 0), (.putfield 127, 3, 2, 5, 0), (.aload 4, 2, 0, 0, 0), (.iload_n 3, 1, 0, 0, 0), (.putfield 130, 3, 2, 6, 0), (.iconst 0, 1, 0, 0, 0), (.ireturn, 1, 0, 0, 0)]
theorem k_X11_attorney_39 : z_chk 13 false cX11_attorney 5 39 b_X11_attorney_39 53 = true := by decide +kernel
def b_X11_take_0 : List z_E := [(.aload_n 0, 1, 0, 0, 0), (.iload_n 1, 1, 0, 0, 0), (.invokevirtual 119, 3, 2, 0, 0), (.astore 4, 2, 0, 0, 0), (.aload_n 0, 1, 0, 0, 0), (.iload_n 2, 1, 0, 0, 0), (.invokevirtual 133, 3, 2, 0, 0), (.astore 5, 2, 0, 0, 0), (.aload_n 0, 1, 0, 0, 0), (.iload_n 3, 1, 0, 0, 0), (.invokevirtual 137, 3, 2, 0, 0), (.astore 6, 2, 0, 0, 0), (.aload 4, 2, 0, 0, 0), (.ifnull 13, 3, 36, 0, 0), (.aload 5, 2, 0, 0, 0), (.ifnull 8, 3, 36, 0, 0), (.aload 6, 2, 0, 0, 0), (.ifnonnull 6, 3, 39, 0, 0)]
theorem k_X11_take_0 : z_chk 13 false cX11_take 7 0 b_X11_take_0 36 = true := by decide +kernel
def b_X11_take_36 : List z_E := [(.bipush (-2), 2, 0, 0, 0), (.ireturn, 1, 0, 0, 0)]
theorem k_X11_take_36 : z_chk 13 false cX11_take 7 36 b_X11_take_36 39 = true := by decide +kernel
def b_X11_take_39 : List z_E := [(.aload 6, 2, 0, 0, 0), (.getfield 141, 3, 10, 1, 3), (.ifCond .ne 6, 3, 50, 0, 0), (.bipush (-5), 2, 0, 0, 0), (.ireturn, 1, 0, 0, 0)]
theorem k_X11_take_39 : z_chk 13 false cX11_take 7 39 b_X11_take_39 50 = true := by decide +kernel
def b_X11_take_50 : List z_E := [(.aload_n 0, 1, 0, 0, 0), (.getfield 26, 3, 13, 3, 2), (.invokevirtual 105, 3, 0, 1, 0), (.sipush 200, 3, 0, 0, 0), (.if_icmp .ge 11, 3, 71, 0, 0), (.aload_n 0, 1, 0, 0, 0), (.invokevirtual 145, 3, 1, 0, 0), (.iconst 1, 1, 0, 0, 0), (.if_icmp .ge 6, 3, 74, 0, 0)]
theorem k_X11_take_50 : z_chk 13 false cX11_take 7 50 b_X11_take_50 71 = true := by decide +kernel
def b_X11_take_71 : List z_E := [(.bipush (-3), 2, 0, 0, 0), (.ireturn, 1, 0, 0, 0)]
theorem k_X11_take_71 : z_chk 13 false cX11_take 7 71 b_X11_take_71 74 = true := by decide +kernel
def b_X11_take_74 : List z_E := [(.aload_n 0, 1, 0, 0, 0), (.getfield 62, 3, 13, 9, 2), (.aload 6, 2, 0, 0, 0), (.aload 5, 2, 0, 0, 0), (.invokevirtual 148, 3, 3, 0, 0), (.aload_n 0, 1, 0, 0, 0), (.getfield 62, 3, 13, 9, 2), (.getfield 152, 3, 12, 0, 0), (.ifCond .le 25, 3, 117, 0, 0), (.aload_n 0, 1, 0, 0, 0), (.aload 4, 2, 0, 0, 0), (.aload 5, 2, 0, 0, 0), (.aload_n 0, 1, 0, 0, 0), (.getfield 62, 3, 13, 9, 2), (.getfield 152, 3, 12, 0, 0), (.aload_n 0, 1, 0, 0, 0), (.getfield 62, 3, 13, 9, 2), (.getfield 155, 3, 12, 1, 0), (.invokevirtual 158, 3, 5, 0, 0)]
theorem k_X11_take_74 : z_chk 13 false cX11_take 7 74 b_X11_take_74 117 = true := by decide +kernel
def b_X11_take_117 : List z_E := [(.aload_n 0, 1, 0, 0, 0), (.getfield 62, 3, 13, 9, 2), (.getfield 152, 3, 12, 0, 0), (.ireturn, 1, 0, 0, 0)]
theorem k_X11_take_117 : z_chk 13 false cX11_take 7 117 b_X11_take_117 125 = true := by decide +kernel
def b_X11_redeem_0 : List z_E := [(.aload_n 0, 1, 0, 0, 0), (.iload_n 1, 1, 0, 0, 0), (.invokevirtual 162, 3, 2, 0, 0), (.astore_n 2, 1, 0, 0, 0), (.aload_n 2, 1, 0, 0, 0), (.ifnonnull 7, 3, 14, 0, 0), (.ldc2_w 166, 3, 0, 0, (-2)), (.lreturn, 1, 0, 0, 0)]
theorem k_X11_redeem_0 : z_chk 13 false cX11_redeem 8 0 b_X11_redeem_0 14 = true := by decide +kernel
def b_X11_redeem_14 : List z_E := [(.aload_n 2, 1, 0, 0, 0), (.getfield 168, 3, 9, 0, 2), (.astore_n 3, 1, 0, 0, 0), (.aload_n 0, 1, 0, 0, 0), (.aload_n 2, 1, 0, 0, 0), (.invokevirtual 174, 3, 2, 0, 0), (.lstore 4, 2, 0, 0, 0), (.aload_n 2, 1, 0, 0, 0), (.getfield 178, 3, 9, 3, 1), (.lload 4, 2, 0, 0, 0), (.ladd, 1, 0, 0, 0), (.lstore 6, 2, 0, 0, 0), (.aload_n 2, 1, 0, 0, 0), (.getfield 182, 3, 9, 4, 2), (.getfield 186, 3, 2, 4, 1), (.lload 6, 2, 0, 0, 0), (.lcmp, 1, 0, 0, 0), (.ifCond .ge 7, 3, 52, 0, 0), (.ldc2_w 189, 3, 0, 0, (-7)), (.lreturn, 1, 0, 0, 0)]
theorem k_X11_redeem_14 : z_chk 13 false cX11_redeem 8 14 b_X11_redeem_14 52 = true := by decide +kernel
def b_X11_redeem_52 : List z_E := [(.aload_n 0, 1, 0, 0, 0), (.invokevirtual 145, 3, 1, 0, 0), (.iconst 1, 1, 0, 0, 0), (.if_icmp .ge 7, 3, 64, 0, 0), (.ldc2_w 191, 3, 0, 0, (-3)), (.lreturn, 1, 0, 0, 0)]
theorem k_X11_redeem_52 : z_chk 13 false cX11_redeem 8 52 b_X11_redeem_52 64 = true := by decide +kernel
def b_X11_redeem_64 : List z_E := [(.aload_n 3, 1, 0, 0, 0), (.getfield 193, 3, 4, 4, 0), (.aload_n 2, 1, 0, 0, 0), (.getfield 194, 3, 9, 1, 0), (.if_icmp .lt 16, 3, 88, 0, 0), (.aload_n 3, 1, 0, 0, 0), (.getfield 195, 3, 4, 5, 1), (.aload_n 2, 1, 0, 0, 0), (.getfield 197, 3, 9, 2, 0), (.i2l, 1, 0, 0, 0), (.lcmp, 1, 0, 0, 0), (.ifCond .ge 7, 3, 92, 0, 0)]
theorem k_X11_redeem_64 : z_chk 13 false cX11_redeem 8 64 b_X11_redeem_64 88 = true := by decide +kernel
def b_X11_redeem_88 : List z_E := [(.ldc2_w 198, 3, 0, 0, (-8)), (.lreturn, 1, 0, 0, 0)]
theorem k_X11_redeem_88 : z_chk 13 false cX11_redeem 8 88 b_X11_redeem_88 92 = true := by decide +kernel
def b_X11_redeem_92 : List z_E := [(.aload_n 3, 1, 0, 0, 0), (.dup, 1, 0, 0, 0), (.getfield 193, 3, 4, 4, 0), (.aload_n 2, 1, 0, 0, 0), (.getfield 194, 3, 9, 1, 0), (.isub, 1, 0, 0, 0), (.putfield 193, 3, 4, 4, 0), (.aload_n 3, 1, 0, 0, 0), (.dup, 1, 0, 0, 0), (.getfield 195, 3, 4, 5, 1), (.aload_n 2, 1, 0, 0, 0), (.getfield 197, 3, 9, 2, 0), (.i2l, 1, 0, 0, 0), (.lsub, 1, 0, 0, 0), (.putfield 195, 3, 4, 5, 1), (.aload_n 2, 1, 0, 0, 0), (.iconst 1, 1, 0, 0, 0), (.putfield 200, 3, 9, 6, 0), (.aload_n 0, 1, 0, 0, 0), (.aload_n 2, 1, 0, 0, 0), (.getfield 182, 3, 9, 4, 2), (.lload 6, 2, 0, 0, 0), (.invokevirtual 203, 3, 3, 0, 0), (.aload_n 0, 1, 0, 0, 0), (.dup, 1, 0, 0, 0), (.getfield 207, 3, 13, 12, 1), (.lload 4, 2, 0, 0, 0), (.ladd, 1, 0, 0, 0), (.putfield 207, 3, 13, 12, 1), (.lload 6, 2, 0, 0, 0), (.lreturn, 1, 0, 0, 0)]
theorem k_X11_redeem_92 : z_chk 13 false cX11_redeem 8 92 b_X11_redeem_92 148 = true := by decide +kernel
def b_X11_prolong_0 : List z_E := [(.aload_n 0, 1, 0, 0, 0), (.iload_n 1, 1, 0, 0, 0), (.invokevirtual 162, 3, 2, 0, 0), (.astore_n 2, 1, 0, 0, 0), (.aload_n 2, 1, 0, 0, 0), (.ifnonnull 7, 3, 14, 0, 0), (.ldc2_w 166, 3, 0, 0, (-2)), (.lreturn, 1, 0, 0, 0)]
theorem k_X11_prolong_0 : z_chk 13 false cX11_prolong 5 0 b_X11_prolong_0 14 = true := by decide +kernel
def b_X11_prolong_14 : List z_E := [(.aload_n 0, 1, 0, 0, 0), (.aload_n 2, 1, 0, 0, 0), (.invokevirtual 174, 3, 2, 0, 0), (.lstore_n 3, 1, 0, 0, 0), (.aload_n 2, 1, 0, 0, 0), (.getfield 182, 3, 9, 4, 2), (.getfield 186, 3, 2, 4, 1), (.lload_n 3, 1, 0, 0, 0), (.lcmp, 1, 0, 0, 0), (.ifCond .ge 7, 3, 36, 0, 0), (.ldc2_w 189, 3, 0, 0, (-7)), (.lreturn, 1, 0, 0, 0)]
theorem k_X11_prolong_14 : z_chk 13 false cX11_prolong 5 14 b_X11_prolong_14 36 = true := by decide +kernel
def b_X11_prolong_36 : List z_E := [(.aload_n 0, 1, 0, 0, 0), (.invokevirtual 145, 3, 1, 0, 0), (.iconst 1, 1, 0, 0, 0), (.if_icmp .ge 7, 3, 48, 0, 0), (.ldc2_w 191, 3, 0, 0, (-3)), (.lreturn, 1, 0, 0, 0)]
theorem k_X11_prolong_36 : z_chk 13 false cX11_prolong 5 36 b_X11_prolong_36 48 = true := by decide +kernel
def b_X11_prolong_48 : List z_E := [(.aload_n 2, 1, 0, 0, 0), (.dup, 1, 0, 0, 0), (.getfield 210, 3, 9, 5, 0), (.aload_n 0, 1, 0, 0, 0), (.getfield 10, 3, 13, 0, 2), (.getfield 87, 3, 11, 2, 0), (.iadd, 1, 0, 0, 0), (.putfield 210, 3, 9, 5, 0), (.aload_n 0, 1, 0, 0, 0), (.aload_n 2, 1, 0, 0, 0), (.getfield 182, 3, 9, 4, 2), (.lload_n 3, 1, 0, 0, 0), (.invokevirtual 203, 3, 3, 0, 0), (.aload_n 0, 1, 0, 0, 0), (.dup, 1, 0, 0, 0), (.getfield 207, 3, 13, 12, 1), (.lload_n 3, 1, 0, 0, 0), (.ladd, 1, 0, 0, 0), (.putfield 207, 3, 13, 12, 1), (.lload_n 3, 1, 0, 0, 0), (.lreturn, 1, 0, 0, 0)]
theorem k_X11_prolong_48 : z_chk 13 false cX11_prolong 5 48 b_X11_prolong_48 85 = true := by decide +kernel
def b_X11_give_0 : List z_E := [(.aload_n 0, 1, 0, 0, 0), (.iload_n 1, 1, 0, 0, 0), (.invokevirtual 162, 3, 2, 0, 0), (.astore_n 3, 1, 0, 0, 0), (.aload_n 0, 1, 0, 0, 0), (.iload_n 2, 1, 0, 0, 0), (.invokevirtual 119, 3, 2, 0, 0), (.astore 4, 2, 0, 0, 0), (.aload_n 3, 1, 0, 0, 0), (.ifnull 8, 3, 22, 0, 0), (.aload 4, 2, 0, 0, 0), (.ifnonnull 6, 3, 25, 0, 0)]
theorem k_X11_give_0 : z_chk 13 false cX11_give 5 0 b_X11_give_0 22 = true := by decide +kernel
def b_X11_give_22 : List z_E := [(.bipush (-2), 2, 0, 0, 0), (.ireturn, 1, 0, 0, 0)]
theorem k_X11_give_22 : z_chk 13 false cX11_give 5 22 b_X11_give_22 25 = true := by decide +kernel
def b_X11_give_25 : List z_E := [(.aload_n 3, 1, 0, 0, 0), (.aload 4, 2, 0, 0, 0), (.putfield 182, 3, 9, 4, 2), (.iconst 0, 1, 0, 0, 0), (.ireturn, 1, 0, 0, 0)]
theorem k_X11_give_25 : z_chk 13 false cX11_give 5 25 b_X11_give_25 33 = true := by decide +kernel
def b_X11_order_0 : List z_E := [(.iload 5, 2, 0, 0, 0), (.i2l, 1, 0, 0, 0), (.lconst 0, 1, 0, 0, 0), (.ldc2_w 213, 3, 0, 0, 23), (.invokestatic 68, 3, 3, 0, 0), (.ifCond .eq 16, 3, 26, 0, 0), (.iload 6, 2, 0, 0, 0), (.i2l, 1, 0, 0, 0), (.lconst 0, 1, 0, 0, 0), (.ldc2_w 123, 3, 0, 0, 99), (.invokestatic 68, 3, 3, 0, 0), (.ifCond .ne 6, 3, 29, 0, 0)]
theorem k_X11_order_0 : z_chk 13 false cX11_order 8 0 b_X11_order_0 26 = true := by decide +kernel
def b_X11_order_26 : List z_E := [(.bipush (-2), 2, 0, 0, 0), (.ireturn, 1, 0, 0, 0)]
theorem k_X11_order_26 : z_chk 13 false cX11_order 8 26 b_X11_order_26 29 = true := by decide +kernel
def b_X11_order_29 : List z_E := [(.iload 5, 2, 0, 0, 0), (.bipush 11, 2, 0, 0, 0), (.if_icmp .ge 10, 3, 43, 0, 0), (.aload_n 0, 1, 0, 0, 0), (.getfield 215, 3, 13, 10, 0), (.goto 9, 3, 49, 0, 0)]
theorem k_X11_order_29 : z_chk 13 false cX11_order 8 29 b_X11_order_29 43 = true := by decide +kernel
def b_X11_order_43 : List z_E := [(.aload_n 0, 1, 0, 0, 0), (.getfield 215, 3, 13, 10, 0), (.iconst 1, 1, 0, 0, 0), (.iadd, 1, 0, 0, 0)]
theorem k_X11_order_43 : z_chk 13 false cX11_order 8 43 b_X11_order_43 49 = true := by decide +kernel
def b_X11_order_49 : List z_E := [(.istore 7, 2, 0, 0, 0), (.aload_n 0, 1, 0, 0, 0), (.iload_n 1, 1, 0, 0, 0), (.iload_n 2, 1, 0, 0, 0), (.lload_n 3, 1, 0, 0, 0), (.iload 7, 2, 0, 0, 0), (.iload 5, 2, 0, 0, 0), (.iload 6, 2, 0, 0, 0), (.invokevirtual 218, 3, 7, 0, 0), (.ireturn, 1, 0, 0, 0)]
theorem k_X11_order_49 : z_chk 13 false cX11_order 8 49 b_X11_order_49 65 = true := by decide +kernel
def b_X11_bill_0 : List z_E := [(.iload 5, 2, 0, 0, 0), (.i2l, 1, 0, 0, 0), (.lconst 0, 1, 0, 0, 0), (.ldc2_w 74, 3, 0, 0, 1000), (.invokestatic 68, 3, 3, 0, 0), (.ifCond .ne 6, 3, 16, 0, 0), (.bipush (-2), 2, 0, 0, 0), (.ireturn, 1, 0, 0, 0)]
theorem k_X11_bill_0 : z_chk 13 false cX11_bill 6 0 b_X11_bill_0 16 = true := by decide +kernel
def b_X11_bill_16 : List z_E := [(.aload_n 0, 1, 0, 0, 0), (.iload_n 1, 1, 0, 0, 0), (.iload_n 2, 1, 0, 0, 0), (.lload_n 3, 1, 0, 0, 0), (.aload_n 0, 1, 0, 0, 0), (.getfield 215, 3, 13, 10, 0), (.iload 5, 2, 0, 0, 0), (.iadd, 1, 0, 0, 0), (.bipush 9, 2, 0, 0, 0), (.iload_n 1, 1, 0, 0, 0), (.invokevirtual 218, 3, 7, 0, 0), (.ireturn, 1, 0, 0, 0)]
theorem k_X11_bill_16 : z_chk 13 false cX11_bill 6 16 b_X11_bill_16 34 = true := by decide +kernel
def b_X11_slip_0 : List z_E := [(.aload_n 0, 1, 0, 0, 0), (.iload_n 1, 1, 0, 0, 0), (.invokevirtual 222, 3, 2, 0, 0), (.astore 4, 2, 0, 0, 0), (.aload 4, 2, 0, 0, 0), (.ifnull 22, 3, 31, 0, 0), (.aload 4, 2, 0, 0, 0), (.getfield 226, 3, 8, 6, 0), (.ifCond .ne 14, 3, 31, 0, 0), (.aload_n 0, 1, 0, 0, 0), (.aload 4, 2, 0, 0, 0), (.iload_n 2, 1, 0, 0, 0), (.iload_n 3, 1, 0, 0, 0), (.invokevirtual 229, 3, 4, 0, 0), (.ifCond .ne 6, 3, 34, 0, 0)]
theorem k_X11_slip_0 : z_chk 13 false cX11_slip 5 0 b_X11_slip_0 31 = true := by decide +kernel
def b_X11_slip_31 : List z_E := [(.bipush (-2), 2, 0, 0, 0), (.ireturn, 1, 0, 0, 0)]
theorem k_X11_slip_31 : z_chk 13 false cX11_slip 5 31 b_X11_slip_31 34 = true := by decide +kernel
def b_X11_slip_34 : List z_E := [(.aload 4, 2, 0, 0, 0), (.iload_n 2, 1, 0, 0, 0), (.putfield 233, 3, 8, 7, 0), (.aload 4, 2, 0, 0, 0), (.iload_n 3, 1, 0, 0, 0), (.putfield 236, 3, 8, 8, 0), (.iconst 0, 1, 0, 0, 0), (.ireturn, 1, 0, 0, 0)]
theorem k_X11_slip_34 : z_chk 13 false cX11_slip 5 34 b_X11_slip_34 48 = true := by decide +kernel
def b_X11_close_0 : List z_E := [(.aload_n 0, 1, 0, 0, 0), (.getfield 215, 3, 13, 10, 0), (.sipush 5000, 3, 0, 0, 0), (.if_icmp .lt 6, 3, 13, 0, 0), (.bipush (-9), 2, 0, 0, 0), (.ireturn, 1, 0, 0, 0)]
theorem k_X11_close_0 : z_chk 13 false cX11_close 2 0 b_X11_close_0 13 = true := by decide +kernel
def b_X11_close_13 : List z_E := [(.aload_n 0, 1, 0, 0, 0), (.invokevirtual 239, 3, 1, 0, 0), (.istore_n 1, 1, 0, 0, 0), (.aload_n 0, 1, 0, 0, 0), (.invokevirtual 242, 3, 1, 0, 0), (.aload_n 0, 1, 0, 0, 0), (.getfield 55, 3, 13, 8, 2), (.aload_n 0, 1, 0, 0, 0), (.getfield 10, 3, 13, 0, 2), (.invokevirtual 245, 3, 2, 0, 0), (.aload_n 0, 1, 0, 0, 0), (.dup, 1, 0, 0, 0), (.getfield 215, 3, 13, 10, 0), (.iconst 1, 1, 0, 0, 0), (.iadd, 1, 0, 0, 0), (.putfield 215, 3, 13, 10, 0), (.iload_n 1, 1, 0, 0, 0), (.ireturn, 1, 0, 0, 0)]
theorem k_X11_close_13 : z_chk 13 false cX11_close 2 13 b_X11_close_13 45 = true := by decide +kernel
def b_X11_suspects_0 : List z_E := [(.iload_n 1, 1, 0, 0, 0), (.ifCond .lt 11, 3, 12, 0, 0), (.iload_n 1, 1, 0, 0, 0), (.aload_n 0, 1, 0, 0, 0), (.getfield 215, 3, 13, 10, 0), (.if_icmp .lt 6, 3, 15, 0, 0)]
theorem k_X11_suspects_0 : z_chk 13 false cX11_suspects 2 0 b_X11_suspects_0 12 = true := by decide +kernel
def b_X11_suspects_12 : List z_E := [(.bipush (-2), 2, 0, 0, 0), (.ireturn, 1, 0, 0, 0)]
theorem k_X11_suspects_12 : z_chk 13 false cX11_suspects 2 12 b_X11_suspects_12 15 = true := by decide +kernel
def b_X11_suspects_15 : List z_E := [(.aload_n 0, 1, 0, 0, 0), (.getfield 48, 3, 13, 7, 2), (.iload_n 1, 1, 0, 0, 0), (.invokevirtual 249, 3, 2, 0, 0), (.ireturn, 1, 0, 0, 0)]
theorem k_X11_suspects_15 : z_chk 13 false cX11_suspects 2 15 b_X11_suspects_15 24 = true := by decide +kernel
def b_X11_suspect_0 : List z_E := [(.iload_n 1, 1, 0, 0, 0), (.ifCond .lt 14, 3, 15, 0, 0), (.iload_n 1, 1, 0, 0, 0), (.aload_n 0, 1, 0, 0, 0), (.getfield 48, 3, 13, 7, 2), (.getfield 253, 3, 5, 3, 0), (.if_icmp .lt 5, 3, 17, 0, 0)]
theorem k_X11_suspect_0 : z_chk 13 false cX11_suspect 3 0 b_X11_suspect_0 15 = true := by decide +kernel
def b_X11_suspect_15 : List z_E := [(.iconst (-1), 1, 0, 0, 0), (.ireturn, 1, 0, 0, 0)]
theorem k_X11_suspect_15 : z_chk 13 false cX11_suspect 3 15 b_X11_suspect_15 17 = true := by decide +kernel
def b_X11_suspect_17 : List z_E := [(.iload_n 2, 1, 0, 0, 0), (.lookupswitch 46 #[(0, 26), (1, 36)], 26, 18, 0, 0)]
theorem k_X11_suspect_17 : z_chk 13 false cX11_suspect 3 17 b_X11_suspect_17 44 = true := by decide +kernel
def b_X11_suspect_44 : List z_E := [(.aload_n 0, 1, 0, 0, 0), (.getfield 48, 3, 13, 7, 2), (.getfield 256, 3, 5, 1, 2), (.iload_n 1, 1, 0, 0, 0), (.iaload, 1, 0, 0, 0), (.ireturn, 1, 0, 0, 0)]
theorem k_X11_suspect_44 : z_chk 13 false cX11_suspect 3 44 b_X11_suspect_44 54 = true := by decide +kernel
def b_X11_suspect_54 : List z_E := [(.aload_n 0, 1, 0, 0, 0), (.getfield 48, 3, 13, 7, 2), (.getfield 260, 3, 5, 2, 2), (.iload_n 1, 1, 0, 0, 0), (.iaload, 1, 0, 0, 0), (.ireturn, 1, 0, 0, 0)]
theorem k_X11_suspect_54 : z_chk 13 false cX11_suspect 3 54 b_X11_suspect_54 64 = true := by decide +kernel
def b_X11_suspect_64 : List z_E := [(.iconst (-1), 1, 0, 0, 0), (.ireturn, 1, 0, 0, 0)]
theorem k_X11_suspect_64 : z_chk 13 false cX11_suspect 3 64 b_X11_suspect_64 66 = true := by decide +kernel
def b_X11_mend_0 : List z_E := [(.aload_n 0, 1, 0, 0, 0), (.iload_n 1, 1, 0, 0, 0), (.invokevirtual 222, 3, 2, 0, 0), (.astore_n 2, 1, 0, 0, 0), (.aload_n 2, 1, 0, 0, 0), (.ifnull 26, 3, 33, 0, 0), (.aload_n 2, 1, 0, 0, 0), (.getfield 226, 3, 8, 6, 0), (.iconst 1, 1, 0, 0, 0), (.if_icmp .ne 18, 3, 33, 0, 0), (.aload_n 2, 1, 0, 0, 0), (.getfield 233, 3, 8, 7, 0), (.iconst (-1), 1, 0, 0, 0), (.if_icmp .eq 10, 3, 33, 0, 0), (.aload_n 2, 1, 0, 0, 0), (.getfield 263, 3, 8, 11, 3), (.ifCond .eq 5, 3, 35, 0, 0)]
theorem k_X11_mend_0 : z_chk 13 false cX11_mend 4 0 b_X11_mend_0 33 = true := by decide +kernel
def b_X11_mend_33 : List z_E := [(.iconst 0, 1, 0, 0, 0), (.ireturn, 1, 0, 0, 0)]
theorem k_X11_mend_33 : z_chk 13 false cX11_mend 4 33 b_X11_mend_33 35 = true := by decide +kernel
def b_X11_mend_35 : List z_E := [(.aload_n 0, 1, 0, 0, 0), (.getfield 48, 3, 13, 7, 2), (.aload_n 2, 1, 0, 0, 0), (.getfield 266, 3, 8, 10, 0), (.invokevirtual 269, 3, 2, 0, 0), (.astore_n 3, 1, 0, 0, 0), (.aload_n 3, 1, 0, 0, 0), (.ifnonnull 41, 3, 89, 0, 0), (.aload_n 0, 1, 0, 0, 0), (.invokevirtual 145, 3, 1, 0, 0), (.iconst 1, 1, 0, 0, 0), (.if_icmp .ge 5, 3, 61, 0, 0), (.iconst 0, 1, 0, 0, 0), (.ireturn, 1, 0, 0, 0)]
theorem k_X11_mend_35 : z_chk 13 false cX11_mend 4 35 b_X11_mend_35 61 = true := by decide +kernel
def b_X11_mend_61 : List z_E := [(.aload_n 2, 1, 0, 0, 0), (.aload_n 0, 1, 0, 0, 0), (.getfield 48, 3, 13, 7, 2), (.aload_n 2, 1, 0, 0, 0), (.getfield 273, 3, 8, 9, 0), (.aload_n 2, 1, 0, 0, 0), (.getfield 276, 3, 8, 1, 2), (.iconst 1, 1, 0, 0, 0), (.aload_n 2, 1, 0, 0, 0), (.getfield 279, 3, 8, 2, 1), (.iload_n 1, 1, 0, 0, 0), (.invokevirtual 282, 3, 6, 0, 0), (.putfield 266, 3, 8, 10, 0), (.goto 24, 3, 110, 0, 0)]
theorem k_X11_mend_61 : z_chk 13 false cX11_mend 4 61 b_X11_mend_61 89 = true := by decide +kernel
def b_X11_mend_89 : List z_E := [(.aload_n 3, 1, 0, 0, 0), (.aload_n 2, 1, 0, 0, 0), (.getfield 276, 3, 8, 1, 2), (.putfield 286, 3, 6, 3, 2), (.aload_n 3, 1, 0, 0, 0), (.iconst 1, 1, 0, 0, 0), (.putfield 291, 3, 6, 4, 0), (.aload_n 3, 1, 0, 0, 0), (.aload_n 2, 1, 0, 0, 0), (.getfield 279, 3, 8, 2, 1), (.putfield 294, 3, 6, 5, 1)]
theorem k_X11_mend_89 : z_chk 13 false cX11_mend 4 89 b_X11_mend_89 110 = true := by decide +kernel
def b_X11_mend_110 : List z_E := [(.aload_n 2, 1, 0, 0, 0), (.iconst 1, 1, 0, 0, 0), (.putfield 263, 3, 8, 11, 3), (.iconst 1, 1, 0, 0, 0), (.ireturn, 1, 0, 0, 0)]
theorem k_X11_mend_110 : z_chk 13 false cX11_mend 4 110 b_X11_mend_110 117 = true := by decide +kernel
def b_X11_weighed_0 : List z_E := [(.aload_n 0, 1, 0, 0, 0), (.iload_n 1, 1, 0, 0, 0), (.invokevirtual 133, 3, 2, 0, 0), (.astore 4, 2, 0, 0, 0), (.aload_n 0, 1, 0, 0, 0), (.iload_n 2, 1, 0, 0, 0), (.invokevirtual 137, 3, 2, 0, 0), (.astore 5, 2, 0, 0, 0), (.aload 4, 2, 0, 0, 0), (.ifnull 20, 3, 36, 0, 0), (.aload 5, 2, 0, 0, 0), (.ifnull 15, 3, 36, 0, 0), (.iload_n 3, 1, 0, 0, 0), (.i2l, 1, 0, 0, 0), (.lconst 0, 1, 0, 0, 0), (.ldc2_w 295, 3, 0, 0, 4), (.invokestatic 68, 3, 3, 0, 0), (.ifCond .ne 7, 3, 40, 0, 0)]
theorem k_X11_weighed_0 : z_chk 13 false cX11_weighed 6 0 b_X11_weighed_0 36 = true := by decide +kernel
def b_X11_weighed_36 : List z_E := [(.ldc2_w 166, 3, 0, 0, (-2)), (.lreturn, 1, 0, 0, 0)]
theorem k_X11_weighed_36 : z_chk 13 false cX11_weighed 6 36 b_X11_weighed_36 40 = true := by decide +kernel
def b_X11_weighed_40 : List z_E := [(.aload 5, 2, 0, 0, 0), (.getfield 141, 3, 10, 1, 3), (.ifCond .ne 7, 3, 52, 0, 0), (.ldc2_w 297, 3, 0, 0, (-5)), (.lreturn, 1, 0, 0, 0)]
theorem k_X11_weighed_40 : z_chk 13 false cX11_weighed 6 40 b_X11_weighed_40 52 = true := by decide +kernel
def b_X11_weighed_52 : List z_E := [(.aload_n 0, 1, 0, 0, 0), (.getfield 62, 3, 13, 9, 2), (.aload 5, 2, 0, 0, 0), (.aload 4, 2, 0, 0, 0), (.invokevirtual 148, 3, 3, 0, 0), (.iload_n 3, 1, 0, 0, 0), (.tableswitch 98 0 3 #[32, 56, 80, 89], 32, 64, 0, 0)]
theorem k_X11_weighed_52 : z_chk 13 false cX11_weighed 6 52 b_X11_weighed_52 96 = true := by decide +kernel
def b_X11_weighed_96 : List z_E := [(.aload_n 0, 1, 0, 0, 0), (.getfield 62, 3, 13, 9, 2), (.getfield 152, 3, 12, 0, 0), (.ifCond .le 13, 3, 116, 0, 0), (.aload_n 0, 1, 0, 0, 0), (.getfield 62, 3, 13, 9, 2), (.getfield 299, 3, 12, 2, 1), (.goto 6, 3, 119, 0, 0)]
theorem k_X11_weighed_96 : z_chk 13 false cX11_weighed 6 96 b_X11_weighed_96 116 = true := by decide +kernel
def b_X11_weighed_116 : List z_E := [(.ldc2_w 198, 3, 0, 0, (-8))]
theorem k_X11_weighed_116 : z_chk 13 false cX11_weighed 6 116 b_X11_weighed_116 119 = true := by decide +kernel
def b_X11_weighed_119 : List z_E := [(.lreturn, 1, 0, 0, 0)]
theorem k_X11_weighed_119 : z_chk 13 false cX11_weighed 6 119 b_X11_weighed_119 120 = true := by decide +kernel
def b_X11_weighed_120 : List z_E := [(.aload_n 0, 1, 0, 0, 0), (.getfield 62, 3, 13, 9, 2), (.getfield 152, 3, 12, 0, 0), (.ifCond .le 13, 3, 140, 0, 0), (.aload_n 0, 1, 0, 0, 0), (.getfield 62, 3, 13, 9, 2), (.getfield 302, 3, 12, 3, 1), (.goto 6, 3, 143, 0, 0)]
theorem k_X11_weighed_120 : z_chk 13 false cX11_weighed 6 120 b_X11_weighed_120 140 = true := by decide +kernel
def b_X11_weighed_140 : List z_E := [(.ldc2_w 198, 3, 0, 0, (-8))]
theorem k_X11_weighed_140 : z_chk 13 false cX11_weighed 6 140 b_X11_weighed_140 143 = true := by decide +kernel
def b_X11_weighed_143 : List z_E := [(.lreturn, 1, 0, 0, 0)]
theorem k_X11_weighed_143 : z_chk 13 false cX11_weighed 6 143 b_X11_weighed_143 144 = true := by decide +kernel
def b_X11_weighed_144 : List z_E := [(.aload_n 0, 1, 0, 0, 0), (.getfield 62, 3, 13, 9, 2), (.getfield 152, 3, 12, 0, 0), (.i2l, 1, 0, 0, 0), (.lreturn, 1, 0, 0, 0)]
theorem k_X11_weighed_144 : z_chk 13 false cX11_weighed 6 144 b_X11_weighed_144 153 = true := by decide +kernel
def b_X11_weighed_153 : List z_E := [(.aload_n 0, 1, 0, 0, 0), (.getfield 62, 3, 13, 9, 2), (.getfield 155, 3, 12, 1, 0), (.i2l, 1, 0, 0, 0), (.lreturn, 1, 0, 0, 0)]
theorem k_X11_weighed_153 : z_chk 13 false cX11_weighed 6 153 b_X11_weighed_153 162 = true := by decide +kernel
def b_X11_weighed_162 : List z_E := [(.aload 4, 2, 0, 0, 0), (.aload_n 0, 1, 0, 0, 0), (.getfield 62, 3, 13, 9, 2), (.getfield 155, 3, 12, 1, 0), (.i2l, 1, 0, 0, 0), (.aload_n 0, 1, 0, 0, 0), (.getfield 10, 3, 13, 0, 2), (.getfield 80, 3, 11, 0, 0), (.invokevirtual 305, 3, 3, 0, 0), (.lreturn, 1, 0, 0, 0)]
theorem k_X11_weighed_162 : z_chk 13 false cX11_weighed 6 162 b_X11_weighed_162 183 = true := by decide +kernel
def b_X11_loan_0 : List z_E := [(.aload_n 0, 1, 0, 0, 0), (.iload_n 1, 1, 0, 0, 0), (.invokevirtual 133, 3, 2, 0, 0), (.astore 4, 2, 0, 0, 0), (.aload 4, 2, 0, 0, 0), (.ifnull 8, 3, 17, 0, 0), (.iload_n 2, 1, 0, 0, 0), (.iconst 1, 1, 0, 0, 0), (.if_icmp .ge 6, 3, 20, 0, 0)]
theorem k_X11_loan_0 : z_chk 13 false cX11_loan 7 0 b_X11_loan_0 17 = true := by decide +kernel
def b_X11_loan_17 : List z_E := [(.bipush (-2), 2, 0, 0, 0), (.ireturn, 1, 0, 0, 0)]
theorem k_X11_loan_17 : z_chk 13 false cX11_loan 7 17 b_X11_loan_17 20 = true := by decide +kernel
def b_X11_loan_20 : List z_E := [(.aload 4, 2, 0, 0, 0), (.getfield 193, 3, 4, 4, 0), (.iload_n 2, 1, 0, 0, 0), (.if_icmp .ge 6, 3, 32, 0, 0), (.bipush (-8), 2, 0, 0, 0), (.ireturn, 1, 0, 0, 0)]
theorem k_X11_loan_20 : z_chk 13 false cX11_loan 7 20 b_X11_loan_20 32 = true := by decide +kernel
def b_X11_loan_32 : List z_E := [(.aload_n 0, 1, 0, 0, 0), (.getfield 32, 3, 13, 5, 2), (.invokevirtual 105, 3, 0, 1, 0), (.bipush 20, 2, 0, 0, 0), (.if_icmp .lt 6, 3, 47, 0, 0), (.bipush (-3), 2, 0, 0, 0), (.ireturn, 1, 0, 0, 0)]
theorem k_X11_loan_32 : z_chk 13 false cX11_loan 7 32 b_X11_loan_32 47 = true := by decide +kernel
def b_X11_loan_47 : List z_E := [(.aload 4, 2, 0, 0, 0), (.getfield 195, 3, 4, 5, 1), (.iload_n 2, 1, 0, 0, 0), (.i2l, 1, 0, 0, 0), (.lmul, 1, 0, 0, 0), (.aload 4, 2, 0, 0, 0), (.getfield 193, 3, 4, 4, 0), (.i2l, 1, 0, 0, 0), (.ldiv, 1, 0, 0, 0), (.lstore 5, 2, 0, 0, 0), (.aload 4, 2, 0, 0, 0), (.dup, 1, 0, 0, 0), (.getfield 193, 3, 4, 4, 0), (.iload_n 2, 1, 0, 0, 0), (.isub, 1, 0, 0, 0), (.putfield 193, 3, 4, 4, 0), (.aload 4, 2, 0, 0, 0), (.dup, 1, 0, 0, 0), (.getfield 195, 3, 4, 5, 1), (.lload 5, 2, 0, 0, 0), (.lsub, 1, 0, 0, 0), (.putfield 195, 3, 4, 5, 1), (.aload_n 0, 1, 0, 0, 0), (.getfield 32, 3, 13, 5, 2), (.new 309, 3, 7, 0, 0), (.dup, 1, 0, 0, 0), (.aload 4, 2, 0, 0, 0), (.lload 5, 2, 0, 0, 0), (.aload_n 0, 1, 0, 0, 0), (.getfield 10, 3, 13, 0, 2), (.getfield 80, 3, 11, 0, 0), (.invokevirtual 305, 3, 3, 0, 0), (.iload_n 3, 1, 0, 0, 0), (.aload_n 0, 1, 0, 0, 0), (.getfield 215, 3, 13, 10, 0), (.invokespecial 311, 3, 4, 0, 0), (.invokevirtual 41, 3, 0, 3, 0), (.pop, 1, 0, 0, 0), (.aload_n 0, 1, 0, 0, 0), (.getfield 32, 3, 13, 5, 2), (.invokevirtual 105, 3, 0, 1, 0), (.iconst 1, 1, 0, 0, 0), (.isub, 1, 0, 0, 0), (.ireturn, 1, 0, 0, 0)]
theorem k_X11_loan_47 : z_chk 13 false cX11_loan 7 47 b_X11_loan_47 131 = true := by decide +kernel
def b_X11_tell_0 : List z_E := [(.aload_n 0, 1, 0, 0, 0), (.iload_n 1, 1, 0, 0, 0), (.invokevirtual 314, 3, 2, 0, 0), (.astore_n 3, 1, 0, 0, 0), (.aload_n 3, 1, 0, 0, 0), (.ifnull 25, 3, 32, 0, 0), (.iload_n 2, 1, 0, 0, 0), (.i2l, 1, 0, 0, 0), (.lconst 0, 1, 0, 0, 0), (.ldc2_w 318, 3, 0, 0, 31), (.invokestatic 68, 3, 3, 0, 0), (.ifCond .eq 13, 3, 32, 0, 0), (.aload_n 3, 1, 0, 0, 0), (.getfield 320, 3, 7, 1, 2), (.iload_n 2, 1, 0, 0, 0), (.iaload, 1, 0, 0, 0), (.iconst (-1), 1, 0, 0, 0), (.if_icmp .eq 5, 3, 34, 0, 0)]
theorem k_X11_tell_0 : z_chk 13 false cX11_tell 4 0 b_X11_tell_0 32 = true := by decide +kernel
def b_X11_tell_32 : List z_E := [(.iconst 0, 1, 0, 0, 0), (.ireturn, 1, 0, 0, 0)]
theorem k_X11_tell_32 : z_chk 13 false cX11_tell 4 32 b_X11_tell_32 34 = true := by decide +kernel
def b_X11_tell_34 : List z_E := [(.aload_n 3, 1, 0, 0, 0), (.getfield 320, 3, 7, 1, 2), (.iload_n 2, 1, 0, 0, 0), (.aload_n 0, 1, 0, 0, 0), (.getfield 215, 3, 13, 10, 0), (.iastore, 1, 0, 0, 0), (.iconst 1, 1, 0, 0, 0), (.ireturn, 1, 0, 0, 0)]
theorem k_X11_tell_34 : z_chk 13 false cX11_tell 4 34 b_X11_tell_34 46 = true := by decide +kernel
def b_X11_gap_0 : List z_E := [(.iload_n 1, 1, 0, 0, 0), (.i2l, 1, 0, 0, 0), (.lconst 0, 1, 0, 0, 0), (.ldc2_w 318, 3, 0, 0, 31), (.invokestatic 68, 3, 3, 0, 0), (.ifCond .eq 17, 3, 26, 0, 0), (.iload_n 2, 1, 0, 0, 0), (.i2l, 1, 0, 0, 0), (.lconst 0, 1, 0, 0, 0), (.aload_n 0, 1, 0, 0, 0), (.getfield 215, 3, 13, 10, 0), (.i2l, 1, 0, 0, 0), (.invokestatic 68, 3, 3, 0, 0), (.ifCond .ne 7, 3, 30, 0, 0)]
theorem k_X11_gap_0 : z_chk 13 false cX11_gap 8 0 b_X11_gap_0 26 = true := by decide +kernel
def b_X11_gap_26 : List z_E := [(.ldc2_w 323, 3, 0, 0, (-1)), (.lreturn, 1, 0, 0, 0)]
theorem k_X11_gap_26 : z_chk 13 false cX11_gap 8 26 b_X11_gap_26 30 = true := by decide +kernel
def b_X11_gap_30 : List z_E := [(.lconst 0, 1, 0, 0, 0), (.lstore_n 3, 1, 0, 0, 0), (.iconst 0, 1, 0, 0, 0), (.istore 5, 2, 0, 0, 0)]
theorem k_X11_gap_30 : z_chk 13 false cX11_gap 8 30 b_X11_gap_30 35 = true := by decide +kernel
def b_X11_gap_35 : List z_E := [(.iload 5, 2, 0, 0, 0), (.aload_n 0, 1, 0, 0, 0), (.getfield 32, 3, 13, 5, 2), (.invokevirtual 105, 3, 0, 1, 0), (.if_icmp .ge 52, 3, 96, 0, 0), (.aload_n 0, 1, 0, 0, 0), (.getfield 32, 3, 13, 5, 2), (.iload 5, 2, 0, 0, 0), (.invokevirtual 325, 3, 0, 2, 0), (.checkcast 309, 3, 7, 0, 0), (.astore 6, 2, 0, 0, 0), (.aload 6, 2, 0, 0, 0), (.getfield 320, 3, 7, 1, 2), (.iload_n 1, 1, 0, 0, 0), (.iaload, 1, 0, 0, 0), (.istore 7, 2, 0, 0, 0), (.iload 7, 2, 0, 0, 0), (.iconst (-1), 1, 0, 0, 0), (.if_icmp .eq 17, 3, 90, 0, 0), (.iload 7, 2, 0, 0, 0), (.iload_n 2, 1, 0, 0, 0), (.if_icmp .gt 11, 3, 90, 0, 0), (.lload_n 3, 1, 0, 0, 0), (.aload 6, 2, 0, 0, 0), (.getfield 329, 3, 7, 0, 1), (.ladd, 1, 0, 0, 0), (.lstore_n 3, 1, 0, 0, 0)]
theorem k_X11_gap_35 : z_chk 13 false cX11_gap 8 35 b_X11_gap_35 90 = true := by decide +kernel
def b_X11_gap_90 : List z_E := [(.iinc 5 1, 3, 0, 0, 0), (.goto (-58), 3, 35, 0, 0)]
theorem k_X11_gap_90 : z_chk 13 false cX11_gap 8 90 b_X11_gap_90 96 = true := by decide +kernel
def b_X11_gap_96 : List z_E := [(.lload_n 3, 1, 0, 0, 0), (.lreturn, 1, 0, 0, 0)]
theorem k_X11_gap_96 : z_chk 13 false cX11_gap 8 96 b_X11_gap_96 98 = true := by decide +kernel
def b_X11_run_0 : List z_E := [(.lload_n 1, 1, 0, 0, 0), (.lconst 1, 1, 0, 0, 0), (.ldc2_w 330, 3, 0, 0, 1000000000), (.invokestatic 68, 3, 3, 0, 0), (.ifCond .ne 7, 3, 15, 0, 0), (.ldc2_w 166, 3, 0, 0, (-2)), (.lreturn, 1, 0, 0, 0)]
theorem k_X11_run_0 : z_chk 13 false cX11_run 5 0 b_X11_run_0 15 = true := by decide +kernel
def b_X11_run_15 : List z_E := [(.aload_n 0, 1, 0, 0, 0), (.invokevirtual 332, 3, 1, 0, 0), (.lstore_n 3, 1, 0, 0, 0), (.lload_n 3, 1, 0, 0, 0), (.aload_n 0, 1, 0, 0, 0), (.invokevirtual 336, 3, 1, 0, 0), (.lcmp, 1, 0, 0, 0), (.ifCond .lt 7, 3, 33, 0, 0), (.ldc2_w 323, 3, 0, 0, (-1)), (.lreturn, 1, 0, 0, 0)]
theorem k_X11_run_15 : z_chk 13 false cX11_run 5 15 b_X11_run_15 33 = true := by decide +kernel
def b_X11_run_33 : List z_E := [(.lload_n 3, 1, 0, 0, 0), (.lload_n 1, 1, 0, 0, 0), (.ladd, 1, 0, 0, 0), (.lconst 1, 1, 0, 0, 0), (.lsub, 1, 0, 0, 0), (.lload_n 1, 1, 0, 0, 0), (.ldiv, 1, 0, 0, 0), (.lreturn, 1, 0, 0, 0)]
theorem k_X11_run_33 : z_chk 13 false cX11_run 5 33 b_X11_run_33 41 = true := by decide +kernel
def b_X11_accountOf_0 : List z_E := [(.aload_n 0, 1, 0, 0, 0), (.iload_n 1, 1, 0, 0, 0), (.invokevirtual 119, 3, 2, 0, 0), (.astore_n 3, 1, 0, 0, 0), (.aload_n 3, 1, 0, 0, 0), (.ifnonnull 6, 3, 13, 0, 0), (.bipush (-2), 2, 0, 0, 0), (.ireturn, 1, 0, 0, 0)]
theorem k_X11_accountOf_0 : z_chk 13 false cX11_accountOf 4 0 b_X11_accountOf_0 13 = true := by decide +kernel
def b_X11_accountOf_13 : List z_E := [(.iload_n 2, 1, 0, 0, 0), (.tableswitch 53 0 3 #[30, 35, 43, 48], 30, 14, 0, 0)]
theorem k_X11_accountOf_13 : z_chk 13 false cX11_accountOf 4 13 b_X11_accountOf_13 44 = true := by decide +kernel
def b_X11_accountOf_44 : List z_E := [(.aload_n 3, 1, 0, 0, 0), (.getfield 339, 3, 2, 2, 0), (.ireturn, 1, 0, 0, 0)]
theorem k_X11_accountOf_44 : z_chk 13 false cX11_accountOf 4 44 b_X11_accountOf_44 49 = true := by decide +kernel
def b_X11_accountOf_49 : List z_E := [(.aload_n 3, 1, 0, 0, 0), (.getfield 342, 3, 2, 1, 2), (.invokevirtual 105, 3, 0, 1, 0), (.ireturn, 1, 0, 0, 0)]
theorem k_X11_accountOf_49 : z_chk 13 false cX11_accountOf 4 49 b_X11_accountOf_49 57 = true := by decide +kernel
def b_X11_accountOf_57 : List z_E := [(.aload_n 3, 1, 0, 0, 0), (.getfield 127, 3, 2, 5, 0), (.ireturn, 1, 0, 0, 0)]
theorem k_X11_accountOf_57 : z_chk 13 false cX11_accountOf 4 57 b_X11_accountOf_57 62 = true := by decide +kernel
def b_X11_accountOf_62 : List z_E := [(.aload_n 3, 1, 0, 0, 0), (.getfield 130, 3, 2, 6, 0), (.ireturn, 1, 0, 0, 0)]
theorem k_X11_accountOf_62 : z_chk 13 false cX11_accountOf 4 62 b_X11_accountOf_62 67 = true := by decide +kernel
def b_X11_accountOf_67 : List z_E := [(.bipush (-2), 2, 0, 0, 0), (.ireturn, 1, 0, 0, 0)]
theorem k_X11_accountOf_67 : z_chk 13 false cX11_accountOf 4 67 b_X11_accountOf_67 70 = true := by decide +kernel
def b_X11_folio_0 : List z_E := [(.aload_n 0, 1, 0, 0, 0), (.iload_n 1, 1, 0, 0, 0), (.invokevirtual 119, 3, 2, 0, 0), (.astore_n 3, 1, 0, 0, 0), (.aload_n 3, 1, 0, 0, 0), (.ifnonnull 7, 3, 14, 0, 0), (.iconst (-1), 1, 0, 0, 0), (.goto 8, 3, 19, 0, 0)]
theorem k_X11_folio_0 : z_chk 13 false cX11_folio 4 0 b_X11_folio_0 14 = true := by decide +kernel
def b_X11_folio_14 : List z_E := [(.aload_n 3, 1, 0, 0, 0), (.iload_n 2, 1, 0, 0, 0), (.invokevirtual 345, 3, 2, 0, 0)]
theorem k_X11_folio_14 : z_chk 13 false cX11_folio 4 14 b_X11_folio_14 19 = true := by decide +kernel
def b_X11_folio_19 : List z_E := [(.ireturn, 1, 0, 0, 0)]
theorem k_X11_folio_19 : z_chk 13 false cX11_folio 4 19 b_X11_folio_19 20 = true := by decide +kernel
def b_X11_balance_0 : List z_E := [(.aload_n 0, 1, 0, 0, 0), (.iload_n 1, 1, 0, 0, 0), (.invokevirtual 119, 3, 2, 0, 0), (.astore_n 2, 1, 0, 0, 0), (.aload_n 2, 1, 0, 0, 0), (.ifnonnull 7, 3, 14, 0, 0), (.lconst 0, 1, 0, 0, 0), (.goto 7, 3, 18, 0, 0)]
theorem k_X11_balance_0 : z_chk 13 false cX11_balance 3 0 b_X11_balance_0 14 = true := by decide +kernel
def b_X11_balance_14 : List z_E := [(.aload_n 2, 1, 0, 0, 0), (.getfield 186, 3, 2, 4, 1)]
theorem k_X11_balance_14 : z_chk 13 false cX11_balance 3 14 b_X11_balance_14 18 = true := by decide +kernel
def b_X11_balance_18 : List z_E := [(.lreturn, 1, 0, 0, 0)]
theorem k_X11_balance_18 : z_chk 13 false cX11_balance 3 18 b_X11_balance_18 19 = true := by decide +kernel
def b_X11_written_0 : List z_E := [(.aload_n 0, 1, 0, 0, 0), (.iload_n 1, 1, 0, 0, 0), (.invokevirtual 119, 3, 2, 0, 0), (.astore_n 2, 1, 0, 0, 0), (.aload_n 2, 1, 0, 0, 0), (.ifnonnull 7, 3, 14, 0, 0), (.lconst 0, 1, 0, 0, 0), (.goto 11, 3, 22, 0, 0)]
theorem k_X11_written_0 : z_chk 13 false cX11_written 3 0 b_X11_written_0 14 = true := by decide +kernel
def b_X11_written_14 : List z_E := [(.aload_n 0, 1, 0, 0, 0), (.getfield 48, 3, 13, 7, 2), (.iload_n 1, 1, 0, 0, 0), (.invokevirtual 348, 3, 2, 0, 0)]
theorem k_X11_written_14 : z_chk 13 false cX11_written 3 14 b_X11_written_14 22 = true := by decide +kernel
def b_X11_written_22 : List z_E := [(.lreturn, 1, 0, 0, 0)]
theorem k_X11_written_22 : z_chk 13 false cX11_written 3 22 b_X11_written_22 23 = true := by decide +kernel
def b_X11_line_0 : List z_E := [(.aload_n 0, 1, 0, 0, 0), (.getfield 48, 3, 13, 7, 2), (.iload_n 1, 1, 0, 0, 0), (.invokevirtual 269, 3, 2, 0, 0), (.astore_n 3, 1, 0, 0, 0), (.aload_n 3, 1, 0, 0, 0), (.ifnonnull 6, 3, 16, 0, 0), (.bipush (-2), 2, 0, 0, 0), (.ireturn, 1, 0, 0, 0)]
theorem k_X11_line_0 : z_chk 13 false cX11_line 4 0 b_X11_line_0 16 = true := by decide +kernel
def b_X11_line_16 : List z_E := [(.iload_n 2, 1, 0, 0, 0), (.tableswitch 63 0 4 #[35, 40, 48, 53, 58], 35, 17, 0, 0)]
theorem k_X11_line_16 : z_chk 13 false cX11_line 4 16 b_X11_line_16 52 = true := by decide +kernel
def b_X11_line_52 : List z_E := [(.aload_n 3, 1, 0, 0, 0), (.getfield 352, 3, 6, 0, 0), (.ireturn, 1, 0, 0, 0)]
theorem k_X11_line_52 : z_chk 13 false cX11_line 4 52 b_X11_line_52 57 = true := by decide +kernel
def b_X11_line_57 : List z_E := [(.aload_n 3, 1, 0, 0, 0), (.getfield 286, 3, 6, 3, 2), (.getfield 353, 3, 2, 0, 0), (.ireturn, 1, 0, 0, 0)]
theorem k_X11_line_57 : z_chk 13 false cX11_line 4 57 b_X11_line_57 65 = true := by decide +kernel
def b_X11_line_65 : List z_E := [(.aload_n 3, 1, 0, 0, 0), (.getfield 356, 3, 6, 1, 0), (.ireturn, 1, 0, 0, 0)]
theorem k_X11_line_65 : z_chk 13 false cX11_line 4 65 b_X11_line_65 70 = true := by decide +kernel
def b_X11_line_70 : List z_E := [(.aload_n 3, 1, 0, 0, 0), (.getfield 291, 3, 6, 4, 0), (.ireturn, 1, 0, 0, 0)]
theorem k_X11_line_70 : z_chk 13 false cX11_line 4 70 b_X11_line_70 75 = true := by decide +kernel
def b_X11_line_75 : List z_E := [(.aload_n 3, 1, 0, 0, 0), (.getfield 357, 3, 6, 2, 0), (.ireturn, 1, 0, 0, 0)]
theorem k_X11_line_75 : z_chk 13 false cX11_line 4 75 b_X11_line_75 80 = true := by decide +kernel
def b_X11_line_80 : List z_E := [(.bipush (-2), 2, 0, 0, 0), (.ireturn, 1, 0, 0, 0)]
theorem k_X11_line_80 : z_chk 13 false cX11_line 4 80 b_X11_line_80 83 = true := by decide +kernel
def b_X11_lineSum_0 : List z_E := [(.aload_n 0, 1, 0, 0, 0), (.getfield 48, 3, 13, 7, 2), (.iload_n 1, 1, 0, 0, 0), (.invokevirtual 269, 3, 2, 0, 0), (.astore_n 2, 1, 0, 0, 0), (.aload_n 2, 1, 0, 0, 0), (.ifnonnull 7, 3, 17, 0, 0), (.lconst 0, 1, 0, 0, 0), (.goto 7, 3, 21, 0, 0)]
theorem k_X11_lineSum_0 : z_chk 13 false cX11_lineSum 3 0 b_X11_lineSum_0 17 = true := by decide +kernel
def b_X11_lineSum_17 : List z_E := [(.aload_n 2, 1, 0, 0, 0), (.getfield 294, 3, 6, 5, 1)]
theorem k_X11_lineSum_17 : z_chk 13 false cX11_lineSum 3 17 b_X11_lineSum_17 21 = true := by decide +kernel
def b_X11_lineSum_21 : List z_E := [(.lreturn, 1, 0, 0, 0)]
theorem k_X11_lineSum_21 : z_chk 13 false cX11_lineSum 3 21 b_X11_lineSum_21 22 = true := by decide +kernel
def b_X11_orderOf_0 : List z_E := [(.aload_n 0, 1, 0, 0, 0), (.iload_n 1, 1, 0, 0, 0), (.invokevirtual 222, 3, 2, 0, 0), (.astore_n 3, 1, 0, 0, 0), (.aload_n 3, 1, 0, 0, 0), (.ifnonnull 6, 3, 13, 0, 0), (.bipush (-2), 2, 0, 0, 0), (.ireturn, 1, 0, 0, 0)]
theorem k_X11_orderOf_0 : z_chk 13 false cX11_orderOf 4 0 b_X11_orderOf_0 13 = true := by decide +kernel
def b_X11_orderOf_13 : List z_E := [(.iload_n 2, 1, 0, 0, 0), (.tableswitch 91 0 6 #[42, 50, 58, 63, 68, 73, 78], 42, 14, 0, 0)]
theorem k_X11_orderOf_13 : z_chk 13 false cX11_orderOf 4 13 b_X11_orderOf_13 56 = true := by decide +kernel
def b_X11_orderOf_56 : List z_E := [(.aload_n 3, 1, 0, 0, 0), (.getfield 360, 3, 8, 0, 2), (.getfield 353, 3, 2, 0, 0), (.ireturn, 1, 0, 0, 0)]
theorem k_X11_orderOf_56 : z_chk 13 false cX11_orderOf 4 56 b_X11_orderOf_56 64 = true := by decide +kernel
def b_X11_orderOf_64 : List z_E := [(.aload_n 3, 1, 0, 0, 0), (.getfield 276, 3, 8, 1, 2), (.getfield 353, 3, 2, 0, 0), (.ireturn, 1, 0, 0, 0)]
theorem k_X11_orderOf_64 : z_chk 13 false cX11_orderOf 4 64 b_X11_orderOf_64 72 = true := by decide +kernel
def b_X11_orderOf_72 : List z_E := [(.aload_n 3, 1, 0, 0, 0), (.getfield 363, 3, 8, 3, 0), (.ireturn, 1, 0, 0, 0)]
theorem k_X11_orderOf_72 : z_chk 13 false cX11_orderOf 4 72 b_X11_orderOf_72 77 = true := by decide +kernel
def b_X11_orderOf_77 : List z_E := [(.aload_n 3, 1, 0, 0, 0), (.getfield 364, 3, 8, 4, 0), (.ireturn, 1, 0, 0, 0)]
theorem k_X11_orderOf_77 : z_chk 13 false cX11_orderOf 4 77 b_X11_orderOf_77 82 = true := by decide +kernel
def b_X11_orderOf_82 : List z_E := [(.aload_n 3, 1, 0, 0, 0), (.getfield 226, 3, 8, 6, 0), (.ireturn, 1, 0, 0, 0)]
theorem k_X11_orderOf_82 : z_chk 13 false cX11_orderOf 4 82 b_X11_orderOf_82 87 = true := by decide +kernel
def b_X11_orderOf_87 : List z_E := [(.aload_n 3, 1, 0, 0, 0), (.getfield 233, 3, 8, 7, 0), (.ireturn, 1, 0, 0, 0)]
theorem k_X11_orderOf_87 : z_chk 13 false cX11_orderOf 4 87 b_X11_orderOf_87 92 = true := by decide +kernel
def b_X11_orderOf_92 : List z_E := [(.aload_n 3, 1, 0, 0, 0), (.getfield 263, 3, 8, 11, 3), (.ifCond .eq 7, 3, 103, 0, 0), (.iconst 1, 1, 0, 0, 0), (.goto 4, 3, 104, 0, 0)]
theorem k_X11_orderOf_92 : z_chk 13 false cX11_orderOf 4 92 b_X11_orderOf_92 103 = true := by decide +kernel
def b_X11_orderOf_103 : List z_E := [(.iconst 0, 1, 0, 0, 0)]
theorem k_X11_orderOf_103 : z_chk 13 false cX11_orderOf 4 103 b_X11_orderOf_103 104 = true := by decide +kernel
def b_X11_orderOf_104 : List z_E := [(.ireturn, 1, 0, 0, 0)]
theorem k_X11_orderOf_104 : z_chk 13 false cX11_orderOf 4 104 b_X11_orderOf_104 105 = true := by decide +kernel
def b_X11_orderOf_105 : List z_E := [(.bipush (-2), 2, 0, 0, 0), (.ireturn, 1, 0, 0, 0)]
theorem k_X11_orderOf_105 : z_chk 13 false cX11_orderOf 4 105 b_X11_orderOf_105 108 = true := by decide +kernel
def b_X11_receipt_0 : List z_E := [(.aload_n 0, 1, 0, 0, 0), (.iload_n 1, 1, 0, 0, 0), (.invokevirtual 367, 3, 2, 0, 0), (.astore_n 3, 1, 0, 0, 0), (.aload_n 3, 1, 0, 0, 0), (.ifnonnull 6, 3, 13, 0, 0), (.bipush (-2), 2, 0, 0, 0), (.ireturn, 1, 0, 0, 0)]
theorem k_X11_receipt_0 : z_chk 13 false cX11_receipt 4 0 b_X11_receipt_0 13 = true := by decide +kernel
def b_X11_receipt_13 : List z_E := [(.iload_n 2, 1, 0, 0, 0), (.tableswitch 74 0 5 #[38, 46, 54, 59, 64, 69], 38, 14, 0, 0)]
theorem k_X11_receipt_13 : z_chk 13 false cX11_receipt 4 13 b_X11_receipt_13 52 = true := by decide +kernel
def b_X11_receipt_52 : List z_E := [(.aload_n 3, 1, 0, 0, 0), (.getfield 182, 3, 9, 4, 2), (.getfield 353, 3, 2, 0, 0), (.ireturn, 1, 0, 0, 0)]
theorem k_X11_receipt_52 : z_chk 13 false cX11_receipt 4 52 b_X11_receipt_52 60 = true := by decide +kernel
def b_X11_receipt_60 : List z_E := [(.aload_n 3, 1, 0, 0, 0), (.getfield 168, 3, 9, 0, 2), (.getfield 370, 3, 4, 0, 0), (.ireturn, 1, 0, 0, 0)]
theorem k_X11_receipt_60 : z_chk 13 false cX11_receipt 4 60 b_X11_receipt_60 68 = true := by decide +kernel
def b_X11_receipt_68 : List z_E := [(.aload_n 3, 1, 0, 0, 0), (.getfield 194, 3, 9, 1, 0), (.ireturn, 1, 0, 0, 0)]
theorem k_X11_receipt_68 : z_chk 13 false cX11_receipt 4 68 b_X11_receipt_68 73 = true := by decide +kernel
def b_X11_receipt_73 : List z_E := [(.aload_n 3, 1, 0, 0, 0), (.getfield 197, 3, 9, 2, 0), (.ireturn, 1, 0, 0, 0)]
theorem k_X11_receipt_73 : z_chk 13 false cX11_receipt 4 73 b_X11_receipt_73 78 = true := by decide +kernel
def b_X11_receipt_78 : List z_E := [(.aload_n 3, 1, 0, 0, 0), (.getfield 210, 3, 9, 5, 0), (.ireturn, 1, 0, 0, 0)]
theorem k_X11_receipt_78 : z_chk 13 false cX11_receipt 4 78 b_X11_receipt_78 83 = true := by decide +kernel
def b_X11_receipt_83 : List z_E := [(.aload_n 3, 1, 0, 0, 0), (.getfield 200, 3, 9, 6, 0), (.ireturn, 1, 0, 0, 0)]
theorem k_X11_receipt_83 : z_chk 13 false cX11_receipt 4 83 b_X11_receipt_83 88 = true := by decide +kernel
def b_X11_receipt_88 : List z_E := [(.bipush (-2), 2, 0, 0, 0), (.ireturn, 1, 0, 0, 0)]
theorem k_X11_receipt_88 : z_chk 13 false cX11_receipt 4 88 b_X11_receipt_88 91 = true := by decide +kernel
def b_X11_book_0 : List z_E := [(.aload_n 0, 1, 0, 0, 0), (.iload_n 1, 1, 0, 0, 0), (.invokevirtual 367, 3, 2, 0, 0), (.astore_n 2, 1, 0, 0, 0), (.aload_n 2, 1, 0, 0, 0), (.ifnonnull 7, 3, 14, 0, 0), (.lconst 0, 1, 0, 0, 0), (.goto 7, 3, 18, 0, 0)]
theorem k_X11_book_0 : z_chk 13 false cX11_book 3 0 b_X11_book_0 14 = true := by decide +kernel
def b_X11_book_14 : List z_E := [(.aload_n 2, 1, 0, 0, 0), (.getfield 178, 3, 9, 3, 1)]
theorem k_X11_book_14 : z_chk 13 false cX11_book 3 14 b_X11_book_14 18 = true := by decide +kernel
def b_X11_book_18 : List z_E := [(.lreturn, 1, 0, 0, 0)]
theorem k_X11_book_18 : z_chk 13 false cX11_book 3 18 b_X11_book_18 19 = true := by decide +kernel
def b_X11_vault_0 : List z_E := [(.aload_n 0, 1, 0, 0, 0), (.iload_n 1, 1, 0, 0, 0), (.invokevirtual 133, 3, 2, 0, 0), (.astore_n 3, 1, 0, 0, 0), (.aload_n 3, 1, 0, 0, 0), (.ifnonnull 7, 3, 14, 0, 0), (.ldc2_w 323, 3, 0, 0, (-1)), (.lreturn, 1, 0, 0, 0)]
theorem k_X11_vault_0 : z_chk 13 false cX11_vault 4 0 b_X11_vault_0 14 = true := by decide +kernel
def b_X11_vault_14 : List z_E := [(.iload_n 2, 1, 0, 0, 0), (.tableswitch 52 0 2 #[25, 31, 36], 25, 15, 0, 0)]
theorem k_X11_vault_14 : z_chk 13 false cX11_vault 4 14 b_X11_vault_14 40 = true := by decide +kernel
def b_X11_vault_40 : List z_E := [(.aload_n 3, 1, 0, 0, 0), (.getfield 193, 3, 4, 4, 0), (.i2l, 1, 0, 0, 0), (.lreturn, 1, 0, 0, 0)]
theorem k_X11_vault_40 : z_chk 13 false cX11_vault 4 40 b_X11_vault_40 46 = true := by decide +kernel
def b_X11_vault_46 : List z_E := [(.aload_n 3, 1, 0, 0, 0), (.getfield 195, 3, 4, 5, 1), (.lreturn, 1, 0, 0, 0)]
theorem k_X11_vault_46 : z_chk 13 false cX11_vault 4 46 b_X11_vault_46 51 = true := by decide +kernel
def b_X11_vault_51 : List z_E := [(.aload_n 3, 1, 0, 0, 0), (.aload_n 3, 1, 0, 0, 0), (.getfield 195, 3, 4, 5, 1), (.aload_n 0, 1, 0, 0, 0), (.getfield 10, 3, 13, 0, 2), (.getfield 80, 3, 11, 0, 0), (.invokevirtual 305, 3, 3, 0, 0), (.lreturn, 1, 0, 0, 0)]
theorem k_X11_vault_51 : z_chk 13 false cX11_vault 4 51 b_X11_vault_51 67 = true := by decide +kernel
def b_X11_vault_67 : List z_E := [(.ldc2_w 323, 3, 0, 0, (-1)), (.lreturn, 1, 0, 0, 0)]
theorem k_X11_vault_67 : z_chk 13 false cX11_vault 4 67 b_X11_vault_67 71 = true := by decide +kernel
def b_X11_count_0 : List z_E := [(.iload_n 1, 1, 0, 0, 0), (.tableswitch 141 0 10 #[59, 64, 72, 80, 88, 93, 101, 112, 120, 128, 136], 59, 1, 0, 0)]
theorem k_X11_count_0 : z_chk 13 false cX11_count 2 0 b_X11_count_0 60 = true := by decide +kernel
def b_X11_count_60 : List z_E := [(.aload_n 0, 1, 0, 0, 0), (.getfield 215, 3, 13, 10, 0), (.ireturn, 1, 0, 0, 0)]
theorem k_X11_count_60 : z_chk 13 false cX11_count 2 60 b_X11_count_60 65 = true := by decide +kernel
def b_X11_count_65 : List z_E := [(.aload_n 0, 1, 0, 0, 0), (.getfield 19, 3, 13, 1, 2), (.invokevirtual 105, 3, 0, 1, 0), (.ireturn, 1, 0, 0, 0)]
theorem k_X11_count_65 : z_chk 13 false cX11_count 2 65 b_X11_count_65 73 = true := by decide +kernel
def b_X11_count_73 : List z_E := [(.aload_n 0, 1, 0, 0, 0), (.getfield 23, 3, 13, 2, 2), (.invokevirtual 105, 3, 0, 1, 0), (.ireturn, 1, 0, 0, 0)]
theorem k_X11_count_73 : z_chk 13 false cX11_count 2 73 b_X11_count_73 81 = true := by decide +kernel
def b_X11_count_81 : List z_E := [(.aload_n 0, 1, 0, 0, 0), (.getfield 29, 3, 13, 4, 2), (.invokevirtual 105, 3, 0, 1, 0), (.ireturn, 1, 0, 0, 0)]
theorem k_X11_count_81 : z_chk 13 false cX11_count 2 81 b_X11_count_81 89 = true := by decide +kernel
def b_X11_count_89 : List z_E := [(.aload_n 0, 1, 0, 0, 0), (.getfield 371, 3, 13, 11, 0), (.ireturn, 1, 0, 0, 0)]
theorem k_X11_count_89 : z_chk 13 false cX11_count 2 89 b_X11_count_89 94 = true := by decide +kernel
def b_X11_count_94 : List z_E := [(.aload_n 0, 1, 0, 0, 0), (.getfield 26, 3, 13, 3, 2), (.invokevirtual 105, 3, 0, 1, 0), (.ireturn, 1, 0, 0, 0)]
theorem k_X11_count_94 : z_chk 13 false cX11_count 2 94 b_X11_count_94 102 = true := by decide +kernel
def b_X11_count_102 : List z_E := [(.aload_n 0, 1, 0, 0, 0), (.getfield 48, 3, 13, 7, 2), (.getfield 374, 3, 5, 0, 2), (.invokevirtual 105, 3, 0, 1, 0), (.ireturn, 1, 0, 0, 0)]
theorem k_X11_count_102 : z_chk 13 false cX11_count 2 102 b_X11_count_102 113 = true := by decide +kernel
def b_X11_count_113 : List z_E := [(.aload_n 0, 1, 0, 0, 0), (.getfield 48, 3, 13, 7, 2), (.getfield 377, 3, 5, 4, 0), (.ireturn, 1, 0, 0, 0)]
theorem k_X11_count_113 : z_chk 13 false cX11_count 2 113 b_X11_count_113 121 = true := by decide +kernel
def b_X11_count_121 : List z_E := [(.aload_n 0, 1, 0, 0, 0), (.getfield 55, 3, 13, 8, 2), (.getfield 379, 3, 3, 0, 0), (.ireturn, 1, 0, 0, 0)]
theorem k_X11_count_121 : z_chk 13 false cX11_count 2 121 b_X11_count_121 129 = true := by decide +kernel
def b_X11_count_129 : List z_E := [(.aload_n 0, 1, 0, 0, 0), (.getfield 32, 3, 13, 5, 2), (.invokevirtual 105, 3, 0, 1, 0), (.ireturn, 1, 0, 0, 0)]
theorem k_X11_count_129 : z_chk 13 false cX11_count 2 129 b_X11_count_129 137 = true := by decide +kernel
def b_X11_count_137 : List z_E := [(.aload_n 0, 1, 0, 0, 0), (.invokevirtual 382, 3, 1, 0, 0), (.ireturn, 1, 0, 0, 0)]
theorem k_X11_count_137 : z_chk 13 false cX11_count 2 137 b_X11_count_137 142 = true := by decide +kernel
def b_X11_count_142 : List z_E := [(.iconst (-1), 1, 0, 0, 0), (.ireturn, 1, 0, 0, 0)]
theorem k_X11_count_142 : z_chk 13 false cX11_count 2 142 b_X11_count_142 144 = true := by decide +kernel
def b_X11_sum_0 : List z_E := [(.iload_n 1, 1, 0, 0, 0), (.tableswitch 66 0 4 #[35, 40, 45, 50, 58], 35, 1, 0, 0)]
theorem k_X11_sum_0 : z_chk 13 false cX11_sum 2 0 b_X11_sum_0 36 = true := by decide +kernel
def b_X11_sum_36 : List z_E := [(.aload_n 0, 1, 0, 0, 0), (.invokevirtual 336, 3, 1, 0, 0), (.lreturn, 1, 0, 0, 0)]
theorem k_X11_sum_36 : z_chk 13 false cX11_sum 2 36 b_X11_sum_36 41 = true := by decide +kernel
def b_X11_sum_41 : List z_E := [(.aload_n 0, 1, 0, 0, 0), (.invokevirtual 332, 3, 1, 0, 0), (.lreturn, 1, 0, 0, 0)]
theorem k_X11_sum_41 : z_chk 13 false cX11_sum 2 41 b_X11_sum_41 46 = true := by decide +kernel
def b_X11_sum_46 : List z_E := [(.aload_n 0, 1, 0, 0, 0), (.getfield 207, 3, 13, 12, 1), (.lreturn, 1, 0, 0, 0)]
theorem k_X11_sum_46 : z_chk 13 false cX11_sum 2 46 b_X11_sum_46 51 = true := by decide +kernel
def b_X11_sum_51 : List z_E := [(.aload_n 0, 1, 0, 0, 0), (.getfield 55, 3, 13, 8, 2), (.getfield 385, 3, 3, 1, 1), (.lreturn, 1, 0, 0, 0)]
theorem k_X11_sum_51 : z_chk 13 false cX11_sum 2 51 b_X11_sum_51 59 = true := by decide +kernel
def b_X11_sum_59 : List z_E := [(.aload_n 0, 1, 0, 0, 0), (.getfield 55, 3, 13, 8, 2), (.getfield 388, 3, 3, 2, 1), (.lreturn, 1, 0, 0, 0)]
theorem k_X11_sum_59 : z_chk 13 false cX11_sum 2 59 b_X11_sum_59 67 = true := by decide +kernel
def b_X11_sum_67 : List z_E := [(.lconst 0, 1, 0, 0, 0), (.lreturn, 1, 0, 0, 0)]
theorem k_X11_sum_67 : z_chk 13 false cX11_sum 2 67 b_X11_sum_67 69 = true := by decide +kernel
def b_X11_row_0 : List z_E := [(.aload_n 0, 1, 0, 0, 0), (.iload_n 1, 1, 0, 0, 0), (.invokevirtual 137, 3, 2, 0, 0), (.astore 4, 2, 0, 0, 0), (.aload 4, 2, 0, 0, 0), (.ifnull 21, 3, 30, 0, 0), (.iload_n 2, 1, 0, 0, 0), (.i2l, 1, 0, 0, 0), (.lconst 0, 1, 0, 0, 0), (.ldc2_w 391, 3, 0, 0, 3), (.invokestatic 68, 3, 3, 0, 0), (.ifCond .eq 9, 3, 30, 0, 0), (.iload_n 3, 1, 0, 0, 0), (.bipush 60, 2, 0, 0, 0), (.if_icmp .le 6, 3, 33, 0, 0)]
theorem k_X11_row_0 : z_chk 13 false cX11_row 5 0 b_X11_row_0 30 = true := by decide +kernel
def b_X11_row_30 : List z_E := [(.bipush (-2), 2, 0, 0, 0), (.ireturn, 1, 0, 0, 0)]
theorem k_X11_row_30 : z_chk 13 false cX11_row 5 30 b_X11_row_30 33 = true := by decide +kernel
def b_X11_row_33 : List z_E := [(.iload_n 3, 1, 0, 0, 0), (.ifCond .ge 6, 3, 40, 0, 0), (.bipush (-3), 2, 0, 0, 0), (.ireturn, 1, 0, 0, 0)]
theorem k_X11_row_33 : z_chk 13 false cX11_row 5 33 b_X11_row_33 40 = true := by decide +kernel
def b_X11_row_40 : List z_E := [(.aload 4, 2, 0, 0, 0), (.iload_n 2, 1, 0, 0, 0), (.iload_n 3, 1, 0, 0, 0), (.invokevirtual 393, 3, 3, 0, 0), (.iconst 0, 1, 0, 0, 0), (.ireturn, 1, 0, 0, 0)]
theorem k_X11_row_40 : z_chk 13 false cX11_row 5 40 b_X11_row_40 49 = true := by decide +kernel
def b_X11_tear_0 : List z_E := [(.aload_n 0, 1, 0, 0, 0), (.iload_n 1, 1, 0, 0, 0), (.invokevirtual 137, 3, 2, 0, 0), (.astore_n 2, 1, 0, 0, 0), (.aload_n 2, 1, 0, 0, 0), (.ifnull 10, 3, 17, 0, 0), (.aload_n 2, 1, 0, 0, 0), (.getfield 141, 3, 10, 1, 3), (.ifCond .ne 5, 3, 19, 0, 0)]
theorem k_X11_tear_0 : z_chk 13 false cX11_tear 3 0 b_X11_tear_0 17 = true := by decide +kernel
def b_X11_tear_17 : List z_E := [(.iconst 0, 1, 0, 0, 0), (.ireturn, 1, 0, 0, 0)]
theorem k_X11_tear_17 : z_chk 13 false cX11_tear 3 17 b_X11_tear_17 19 = true := by decide +kernel
def b_X11_tear_19 : List z_E := [(.aload_n 2, 1, 0, 0, 0), (.iconst 0, 1, 0, 0, 0), (.putfield 141, 3, 10, 1, 3), (.iconst 1, 1, 0, 0, 0), (.ireturn, 1, 0, 0, 0)]
theorem k_X11_tear_19 : z_chk 13 false cX11_tear 3 19 b_X11_tear_19 26 = true := by decide +kernel
def b_X11_write_0 : List z_E := [(.aload_n 0, 1, 0, 0, 0), (.iload_n 1, 1, 0, 0, 0), (.invokevirtual 137, 3, 2, 0, 0), (.astore 5, 2, 0, 0, 0), (.aload 5, 2, 0, 0, 0), (.ifnonnull 6, 3, 15, 0, 0), (.bipush (-2), 2, 0, 0, 0), (.ireturn, 1, 0, 0, 0)]
theorem k_X11_write_0 : z_chk 13 false cX11_write 6 0 b_X11_write_0 15 = true := by decide +kernel
def b_X11_write_15 : List z_E := [(.aload 5, 2, 0, 0, 0), (.getfield 141, 3, 10, 1, 3), (.ifCond .ne 6, 3, 26, 0, 0), (.bipush (-5), 2, 0, 0, 0), (.ireturn, 1, 0, 0, 0)]
theorem k_X11_write_15 : z_chk 13 false cX11_write 6 15 b_X11_write_15 26 = true := by decide +kernel
def b_X11_write_26 : List z_E := [(.iload_n 2, 1, 0, 0, 0), (.ifCond .lt 12, 3, 39, 0, 0), (.iload_n 2, 1, 0, 0, 0), (.aload 5, 2, 0, 0, 0), (.getfield 397, 3, 10, 3, 0), (.if_icmp .lt 6, 3, 42, 0, 0)]
theorem k_X11_write_26 : z_chk 13 false cX11_write 6 26 b_X11_write_26 39 = true := by decide +kernel
def b_X11_write_39 : List z_E := [(.bipush (-6), 2, 0, 0, 0), (.ireturn, 1, 0, 0, 0)]
theorem k_X11_write_39 : z_chk 13 false cX11_write 6 39 b_X11_write_39 42 = true := by decide +kernel
def b_X11_write_42 : List z_E := [(.aload 5, 2, 0, 0, 0), (.getfield 399, 3, 10, 0, 2), (.iload_n 2, 1, 0, 0, 0), (.aload 5, 2, 0, 0, 0), (.lload_n 3, 1, 0, 0, 0), (.invokevirtual 403, 3, 2, 0, 0), (.lastore, 1, 0, 0, 0), (.iconst 0, 1, 0, 0, 0), (.ireturn, 1, 0, 0, 0)]
theorem k_X11_write_42 : z_chk 13 false cX11_write 6 42 b_X11_write_42 57 = true := by decide +kernel
def b_X11_paste_0 : List z_E := [(.aload_n 0, 1, 0, 0, 0), (.iload_n 1, 1, 0, 0, 0), (.invokevirtual 137, 3, 2, 0, 0), (.astore 6, 2, 0, 0, 0), (.aload_n 0, 1, 0, 0, 0), (.iload_n 3, 1, 0, 0, 0), (.invokevirtual 137, 3, 2, 0, 0), (.astore 7, 2, 0, 0, 0), (.aload 6, 2, 0, 0, 0), (.ifnull 8, 3, 24, 0, 0), (.aload 7, 2, 0, 0, 0), (.ifnonnull 6, 3, 27, 0, 0)]
theorem k_X11_paste_0 : z_chk 13 false cX11_paste 8 0 b_X11_paste_0 24 = true := by decide +kernel
def b_X11_paste_24 : List z_E := [(.bipush (-2), 2, 0, 0, 0), (.ireturn, 1, 0, 0, 0)]
theorem k_X11_paste_24 : z_chk 13 false cX11_paste 8 24 b_X11_paste_24 27 = true := by decide +kernel
def b_X11_paste_27 : List z_E := [(.aload 6, 2, 0, 0, 0), (.getfield 141, 3, 10, 1, 3), (.ifCond .eq 11, 3, 43, 0, 0), (.aload 7, 2, 0, 0, 0), (.getfield 141, 3, 10, 1, 3), (.ifCond .ne 6, 3, 46, 0, 0)]
theorem k_X11_paste_27 : z_chk 13 false cX11_paste 8 27 b_X11_paste_27 43 = true := by decide +kernel
def b_X11_paste_43 : List z_E := [(.bipush (-5), 2, 0, 0, 0), (.ireturn, 1, 0, 0, 0)]
theorem k_X11_paste_43 : z_chk 13 false cX11_paste 8 43 b_X11_paste_43 46 = true := by decide +kernel
def b_X11_paste_46 : List z_E := [(.aload 6, 2, 0, 0, 0), (.getfield 407, 3, 10, 2, 0), (.aload 7, 2, 0, 0, 0), (.getfield 407, 3, 10, 2, 0), (.if_icmp .eq 6, 3, 62, 0, 0), (.bipush (-7), 2, 0, 0, 0), (.ireturn, 1, 0, 0, 0)]
theorem k_X11_paste_46 : z_chk 13 false cX11_paste 8 46 b_X11_paste_46 62 = true := by decide +kernel
def b_X11_paste_62 : List z_E := [(.aload 6, 2, 0, 0, 0), (.iload_n 2, 1, 0, 0, 0), (.iload 5, 2, 0, 0, 0), (.invokevirtual 410, 3, 3, 0, 0), (.ifCond .eq 15, 3, 85, 0, 0), (.aload 7, 2, 0, 0, 0), (.iload 4, 2, 0, 0, 0), (.iload 5, 2, 0, 0, 0), (.invokevirtual 410, 3, 3, 0, 0), (.ifCond .ne 6, 3, 88, 0, 0)]
theorem k_X11_paste_62 : z_chk 13 false cX11_paste 8 62 b_X11_paste_62 85 = true := by decide +kernel
def b_X11_paste_85 : List z_E := [(.bipush (-6), 2, 0, 0, 0), (.ireturn, 1, 0, 0, 0)]
theorem k_X11_paste_85 : z_chk 13 false cX11_paste 8 85 b_X11_paste_85 88 = true := by decide +kernel
def b_X11_paste_88 : List z_E := [(.aload 6, 2, 0, 0, 0), (.getfield 399, 3, 10, 0, 2), (.iload_n 2, 1, 0, 0, 0), (.aload 7, 2, 0, 0, 0), (.getfield 399, 3, 10, 0, 2), (.iload 4, 2, 0, 0, 0), (.iload 5, 2, 0, 0, 0), (.invokestatic 414, 3, 0, 6, 0), (.iconst 0, 1, 0, 0, 0), (.ireturn, 1, 0, 0, 0)]
theorem k_X11_paste_88 : z_chk 13 false cX11_paste 8 88 b_X11_paste_88 108 = true := by decide +kernel
def b_X11_within_0 : List z_E := [(.lload_n 0, 1, 0, 0, 0), (.lload_n 2, 1, 0, 0, 0), (.lcmp, 1, 0, 0, 0), (.ifCond .lt 14, 3, 17, 0, 0), (.lload_n 0, 1, 0, 0, 0), (.lload 4, 2, 0, 0, 0), (.lcmp, 1, 0, 0, 0), (.ifCond .gt 7, 3, 17, 0, 0), (.iconst 1, 1, 0, 0, 0), (.goto 4, 3, 18, 0, 0)]
theorem k_X11_within_0 : z_chk 13 false cX11_within 6 0 b_X11_within_0 17 = true := by decide +kernel
def b_X11_within_17 : List z_E := [(.iconst 0, 1, 0, 0, 0)]
theorem k_X11_within_17 : z_chk 13 false cX11_within 6 17 b_X11_within_17 18 = true := by decide +kernel
def b_X11_within_18 : List z_E := [(.ireturn, 1, 0, 0, 0)]
theorem k_X11_within_18 : z_chk 13 false cX11_within 6 18 b_X11_within_18 19 = true := by decide +kernel
def b_X11_kindAt_0 : List z_E := [(.iload_n 1, 1, 0, 0, 0), (.ifCond .lt 28, 3, 29, 0, 0), (.iload_n 1, 1, 0, 0, 0), (.aload_n 0, 1, 0, 0, 0), (.getfield 19, 3, 13, 1, 2), (.invokevirtual 105, 3, 0, 1, 0), (.if_icmp .ge 17, 3, 29, 0, 0), (.aload_n 0, 1, 0, 0, 0), (.getfield 19, 3, 13, 1, 2), (.iload_n 1, 1, 0, 0, 0), (.invokevirtual 325, 3, 0, 2, 0), (.checkcast 109, 3, 4, 0, 0), (.goto 4, 3, 30, 0, 0)]
theorem k_X11_kindAt_0 : z_chk 13 false cX11_kindAt 2 0 b_X11_kindAt_0 29 = true := by decide +kernel
def b_X11_kindAt_29 : List z_E := [(.aconst_null, 1, 0, 0, 0)]
theorem k_X11_kindAt_29 : z_chk 13 false cX11_kindAt 2 29 b_X11_kindAt_29 30 = true := by decide +kernel
def b_X11_kindAt_30 : List z_E := [(.areturn, 1, 0, 0, 0)]
theorem k_X11_kindAt_30 : z_chk 13 false cX11_kindAt 2 30 b_X11_kindAt_30 31 = true := by decide +kernel
def b_X11_accountAt_0 : List z_E := [(.iload_n 1, 1, 0, 0, 0), (.ifCond .lt 28, 3, 29, 0, 0), (.iload_n 1, 1, 0, 0, 0), (.aload_n 0, 1, 0, 0, 0), (.getfield 23, 3, 13, 2, 2), (.invokevirtual 105, 3, 0, 1, 0), (.if_icmp .ge 17, 3, 29, 0, 0), (.aload_n 0, 1, 0, 0, 0), (.getfield 23, 3, 13, 2, 2), (.iload_n 1, 1, 0, 0, 0), (.invokevirtual 325, 3, 0, 2, 0), (.checkcast 114, 3, 2, 0, 0), (.goto 4, 3, 30, 0, 0)]
theorem k_X11_accountAt_0 : z_chk 13 false cX11_accountAt 2 0 b_X11_accountAt_0 29 = true := by decide +kernel
def b_X11_accountAt_29 : List z_E := [(.aconst_null, 1, 0, 0, 0)]
theorem k_X11_accountAt_29 : z_chk 13 false cX11_accountAt 2 29 b_X11_accountAt_29 30 = true := by decide +kernel
def b_X11_accountAt_30 : List z_E := [(.areturn, 1, 0, 0, 0)]
theorem k_X11_accountAt_30 : z_chk 13 false cX11_accountAt 2 30 b_X11_accountAt_30 31 = true := by decide +kernel
def b_X11_receiptAt_0 : List z_E := [(.iload_n 1, 1, 0, 0, 0), (.ifCond .lt 28, 3, 29, 0, 0), (.iload_n 1, 1, 0, 0, 0), (.aload_n 0, 1, 0, 0, 0), (.getfield 26, 3, 13, 3, 2), (.invokevirtual 105, 3, 0, 1, 0), (.if_icmp .ge 17, 3, 29, 0, 0), (.aload_n 0, 1, 0, 0, 0), (.getfield 26, 3, 13, 3, 2), (.iload_n 1, 1, 0, 0, 0), (.invokevirtual 325, 3, 0, 2, 0), (.checkcast 169, 3, 9, 0, 0), (.goto 4, 3, 30, 0, 0)]
theorem k_X11_receiptAt_0 : z_chk 13 false cX11_receiptAt 2 0 b_X11_receiptAt_0 29 = true := by decide +kernel
def b_X11_receiptAt_29 : List z_E := [(.aconst_null, 1, 0, 0, 0)]
theorem k_X11_receiptAt_29 : z_chk 13 false cX11_receiptAt 2 29 b_X11_receiptAt_29 30 = true := by decide +kernel
def b_X11_receiptAt_30 : List z_E := [(.areturn, 1, 0, 0, 0)]
theorem k_X11_receiptAt_30 : z_chk 13 false cX11_receiptAt 2 30 b_X11_receiptAt_30 31 = true := by decide +kernel
def b_X11_openReceiptAt_0 : List z_E := [(.aload_n 0, 1, 0, 0, 0), (.iload_n 1, 1, 0, 0, 0), (.invokevirtual 367, 3, 2, 0, 0), (.astore_n 2, 1, 0, 0, 0), (.aload_n 2, 1, 0, 0, 0), (.ifnull 14, 3, 21, 0, 0), (.aload_n 2, 1, 0, 0, 0), (.getfield 200, 3, 9, 6, 0), (.ifCond .ne 7, 3, 21, 0, 0), (.aload_n 2, 1, 0, 0, 0), (.goto 4, 3, 22, 0, 0)]
theorem k_X11_openReceiptAt_0 : z_chk 13 false cX11_openReceiptAt 3 0 b_X11_openReceiptAt_0 21 = true := by decide +kernel
def b_X11_openReceiptAt_21 : List z_E := [(.aconst_null, 1, 0, 0, 0)]
theorem k_X11_openReceiptAt_21 : z_chk 13 false cX11_openReceiptAt 3 21 b_X11_openReceiptAt_21 22 = true := by decide +kernel
def b_X11_openReceiptAt_22 : List z_E := [(.areturn, 1, 0, 0, 0)]
theorem k_X11_openReceiptAt_22 : z_chk 13 false cX11_openReceiptAt 3 22 b_X11_openReceiptAt_22 23 = true := by decide +kernel
def b_X11_orderAt_0 : List z_E := [(.iload_n 1, 1, 0, 0, 0), (.ifCond .lt 28, 3, 29, 0, 0), (.iload_n 1, 1, 0, 0, 0), (.aload_n 0, 1, 0, 0, 0), (.getfield 29, 3, 13, 4, 2), (.invokevirtual 105, 3, 0, 1, 0), (.if_icmp .ge 17, 3, 29, 0, 0), (.aload_n 0, 1, 0, 0, 0), (.getfield 29, 3, 13, 4, 2), (.iload_n 1, 1, 0, 0, 0), (.invokevirtual 325, 3, 0, 2, 0), (.checkcast 227, 3, 8, 0, 0), (.goto 4, 3, 30, 0, 0)]
theorem k_X11_orderAt_0 : z_chk 13 false cX11_orderAt 2 0 b_X11_orderAt_0 29 = true := by decide +kernel
def b_X11_orderAt_29 : List z_E := [(.aconst_null, 1, 0, 0, 0)]
theorem k_X11_orderAt_29 : z_chk 13 false cX11_orderAt 2 29 b_X11_orderAt_29 30 = true := by decide +kernel
def b_X11_orderAt_30 : List z_E := [(.areturn, 1, 0, 0, 0)]
theorem k_X11_orderAt_30 : z_chk 13 false cX11_orderAt 2 30 b_X11_orderAt_30 31 = true := by decide +kernel
def b_X11_loanAt_0 : List z_E := [(.iload_n 1, 1, 0, 0, 0), (.ifCond .lt 28, 3, 29, 0, 0), (.iload_n 1, 1, 0, 0, 0), (.aload_n 0, 1, 0, 0, 0), (.getfield 32, 3, 13, 5, 2), (.invokevirtual 105, 3, 0, 1, 0), (.if_icmp .ge 17, 3, 29, 0, 0), (.aload_n 0, 1, 0, 0, 0), (.getfield 32, 3, 13, 5, 2), (.iload_n 1, 1, 0, 0, 0), (.invokevirtual 325, 3, 0, 2, 0), (.checkcast 309, 3, 7, 0, 0), (.goto 4, 3, 30, 0, 0)]
theorem k_X11_loanAt_0 : z_chk 13 false cX11_loanAt 2 0 b_X11_loanAt_0 29 = true := by decide +kernel
def b_X11_loanAt_29 : List z_E := [(.aconst_null, 1, 0, 0, 0)]
theorem k_X11_loanAt_29 : z_chk 13 false cX11_loanAt 2 29 b_X11_loanAt_29 30 = true := by decide +kernel
def b_X11_loanAt_30 : List z_E := [(.areturn, 1, 0, 0, 0)]
theorem k_X11_loanAt_30 : z_chk 13 false cX11_loanAt 2 30 b_X11_loanAt_30 31 = true := by decide +kernel
def b_X11_slotAt_0 : List z_E := [(.iload_n 1, 1, 0, 0, 0), (.ifCond .lt 28, 3, 29, 0, 0), (.iload_n 1, 1, 0, 0, 0), (.aload_n 0, 1, 0, 0, 0), (.getfield 35, 3, 13, 6, 2), (.invokevirtual 105, 3, 0, 1, 0), (.if_icmp .ge 17, 3, 29, 0, 0), (.aload_n 0, 1, 0, 0, 0), (.getfield 35, 3, 13, 6, 2), (.iload_n 1, 1, 0, 0, 0), (.invokevirtual 325, 3, 0, 2, 0), (.checkcast 38, 3, 10, 0, 0), (.goto 4, 3, 30, 0, 0)]
theorem k_X11_slotAt_0 : z_chk 13 false cX11_slotAt 2 0 b_X11_slotAt_0 29 = true := by decide +kernel
def b_X11_slotAt_29 : List z_E := [(.aconst_null, 1, 0, 0, 0)]
theorem k_X11_slotAt_29 : z_chk 13 false cX11_slotAt 2 29 b_X11_slotAt_29 30 = true := by decide +kernel
def b_X11_slotAt_30 : List z_E := [(.areturn, 1, 0, 0, 0)]
theorem k_X11_slotAt_30 : z_chk 13 false cX11_slotAt 2 30 b_X11_slotAt_30 31 = true := by decide +kernel
def b_X11_room_0 : List z_E := [(.sipush 2000, 3, 0, 0, 0), (.aload_n 0, 1, 0, 0, 0), (.getfield 48, 3, 13, 7, 2), (.getfield 374, 3, 5, 0, 2), (.invokevirtual 105, 3, 0, 1, 0), (.isub, 1, 0, 0, 0), (.iconst 3, 1, 0, 0, 0), (.aload_n 0, 1, 0, 0, 0), (.getfield 371, 3, 13, 11, 0), (.imul, 1, 0, 0, 0), (.isub, 1, 0, 0, 0), (.ireturn, 1, 0, 0, 0)]
theorem k_X11_room_0 : z_chk 13 false cX11_room 1 0 b_X11_room_0 22 = true := by decide +kernel
def b_X11_feeOn_0 : List z_E := [(.aload_n 1, 1, 0, 0, 0), (.getfield 178, 3, 9, 3, 1), (.aload_n 0, 1, 0, 0, 0), (.getfield 10, 3, 13, 0, 2), (.getfield 84, 3, 11, 1, 0), (.i2l, 1, 0, 0, 0), (.lmul, 1, 0, 0, 0), (.ldc2_w 74, 3, 0, 0, 1000), (.ldiv, 1, 0, 0, 0), (.lreturn, 1, 0, 0, 0)]
theorem k_X11_feeOn_0 : z_chk 13 false cX11_feeOn 2 0 b_X11_feeOn_0 18 = true := by decide +kernel
def b_X11_bringIn_0 : List z_E := [(.aload_n 2, 1, 0, 0, 0), (.iload 4, 2, 0, 0, 0), (.i2l, 1, 0, 0, 0), (.aload_n 0, 1, 0, 0, 0), (.getfield 10, 3, 13, 0, 2), (.getfield 80, 3, 11, 0, 0), (.invokevirtual 305, 3, 3, 0, 0), (.lstore 5, 2, 0, 0, 0), (.aload_n 0, 1, 0, 0, 0), (.getfield 26, 3, 13, 3, 2), (.new 169, 3, 9, 0, 0), (.dup, 1, 0, 0, 0), (.aload_n 1, 1, 0, 0, 0), (.aload_n 2, 1, 0, 0, 0), (.iload_n 3, 1, 0, 0, 0), (.iload 4, 2, 0, 0, 0), (.lload 5, 2, 0, 0, 0), (.aload_n 0, 1, 0, 0, 0), (.getfield 215, 3, 13, 10, 0), (.aload_n 0, 1, 0, 0, 0), (.getfield 10, 3, 13, 0, 2), (.getfield 87, 3, 11, 2, 0), (.iadd, 1, 0, 0, 0), (.invokespecial 420, 3, 7, 0, 0), (.invokevirtual 41, 3, 0, 3, 0), (.pop, 1, 0, 0, 0), (.aload_n 2, 1, 0, 0, 0), (.dup, 1, 0, 0, 0), (.getfield 193, 3, 4, 4, 0), (.iload_n 3, 1, 0, 0, 0), (.iadd, 1, 0, 0, 0), (.putfield 193, 3, 4, 4, 0), (.aload_n 2, 1, 0, 0, 0), (.dup, 1, 0, 0, 0), (.getfield 195, 3, 4, 5, 1), (.iload 4, 2, 0, 0, 0), (.i2l, 1, 0, 0, 0), (.ladd, 1, 0, 0, 0), (.putfield 195, 3, 4, 5, 1), (.aload_n 1, 1, 0, 0, 0), (.dup, 1, 0, 0, 0), (.getfield 186, 3, 2, 4, 1), (.lload 5, 2, 0, 0, 0), (.ladd, 1, 0, 0, 0), (.putfield 186, 3, 2, 4, 1), (.aload_n 0, 1, 0, 0, 0), (.getfield 48, 3, 13, 7, 2), (.aload_n 0, 1, 0, 0, 0), (.getfield 215, 3, 13, 10, 0), (.aload_n 1, 1, 0, 0, 0), (.iconst 1, 1, 0, 0, 0), (.lload 5, 2, 0, 0, 0), (.iconst (-1), 1, 0, 0, 0), (.invokevirtual 282, 3, 6, 0, 0), (.pop, 1, 0, 0, 0), (.aload_n 0, 1, 0, 0, 0), (.getfield 55, 3, 13, 8, 2), (.dup, 1, 0, 0, 0), (.getfield 423, 3, 3, 4, 1), (.lload 5, 2, 0, 0, 0), (.ladd, 1, 0, 0, 0), (.putfield 423, 3, 3, 4, 1), (.return_, 1, 0, 0, 0)]
theorem k_X11_bringIn_0 : z_chk 13 false cX11_bringIn 7 0 b_X11_bringIn_0 115 = true := by decide +kernel
def b_X11_payOut_0 : List z_E := [(.aload_n 1, 1, 0, 0, 0), (.dup, 1, 0, 0, 0), (.getfield 186, 3, 2, 4, 1), (.lload_n 2, 1, 0, 0, 0), (.lsub, 1, 0, 0, 0), (.putfield 186, 3, 2, 4, 1), (.aload_n 0, 1, 0, 0, 0), (.getfield 48, 3, 13, 7, 2), (.aload_n 0, 1, 0, 0, 0), (.getfield 215, 3, 13, 10, 0), (.aload_n 1, 1, 0, 0, 0), (.iconst 0, 1, 0, 0, 0), (.lload_n 2, 1, 0, 0, 0), (.iconst (-1), 1, 0, 0, 0), (.invokevirtual 282, 3, 6, 0, 0), (.pop, 1, 0, 0, 0), (.return_, 1, 0, 0, 0)]
theorem k_X11_payOut_0 : z_chk 13 false cX11_payOut 4 0 b_X11_payOut_0 27 = true := by decide +kernel
def b_X11_letWait_0 : List z_E := [(.aload_n 0, 1, 0, 0, 0), (.iload_n 1, 1, 0, 0, 0), (.invokevirtual 119, 3, 2, 0, 0), (.astore 8, 2, 0, 0, 0), (.aload_n 0, 1, 0, 0, 0), (.iload_n 2, 1, 0, 0, 0), (.invokevirtual 119, 3, 2, 0, 0), (.astore 9, 2, 0, 0, 0), (.aload 8, 2, 0, 0, 0), (.ifnull 24, 3, 40, 0, 0), (.aload 9, 2, 0, 0, 0), (.ifnull 19, 3, 40, 0, 0), (.iload_n 1, 1, 0, 0, 0), (.iload_n 2, 1, 0, 0, 0), (.if_icmp .eq 14, 3, 40, 0, 0), (.lload_n 3, 1, 0, 0, 0), (.lconst 1, 1, 0, 0, 0), (.ldc2_w 330, 3, 0, 0, 1000000000), (.invokestatic 68, 3, 3, 0, 0), (.ifCond .ne 6, 3, 43, 0, 0)]
theorem k_X11_letWait_0 : z_chk 13 false cX11_letWait 10 0 b_X11_letWait_0 40 = true := by decide +kernel
def b_X11_letWait_40 : List z_E := [(.bipush (-2), 2, 0, 0, 0), (.ireturn, 1, 0, 0, 0)]
theorem k_X11_letWait_40 : z_chk 13 false cX11_letWait 10 40 b_X11_letWait_40 43 = true := by decide +kernel
def b_X11_letWait_43 : List z_E := [(.aload_n 0, 1, 0, 0, 0), (.getfield 29, 3, 13, 4, 2), (.invokevirtual 105, 3, 0, 1, 0), (.sipush 300, 3, 0, 0, 0), (.if_icmp .ge 11, 3, 64, 0, 0), (.aload_n 0, 1, 0, 0, 0), (.invokevirtual 145, 3, 1, 0, 0), (.iconst 3, 1, 0, 0, 0), (.if_icmp .ge 6, 3, 67, 0, 0)]
theorem k_X11_letWait_43 : z_chk 13 false cX11_letWait 10 43 b_X11_letWait_43 64 = true := by decide +kernel
def b_X11_letWait_64 : List z_E := [(.bipush (-3), 2, 0, 0, 0), (.ireturn, 1, 0, 0, 0)]
theorem k_X11_letWait_64 : z_chk 13 false cX11_letWait 10 64 b_X11_letWait_64 67 = true := by decide +kernel
def b_X11_letWait_67 : List z_E := [(.aload_n 0, 1, 0, 0, 0), (.getfield 29, 3, 13, 4, 2), (.new 227, 3, 8, 0, 0), (.dup, 1, 0, 0, 0), (.aload 8, 2, 0, 0, 0), (.aload 9, 2, 0, 0, 0), (.lload_n 3, 1, 0, 0, 0), (.iload 5, 2, 0, 0, 0), (.iload 6, 2, 0, 0, 0), (.iload 7, 2, 0, 0, 0), (.invokespecial 426, 3, 7, 0, 0), (.invokevirtual 41, 3, 0, 3, 0), (.pop, 1, 0, 0, 0), (.aload_n 0, 1, 0, 0, 0), (.dup, 1, 0, 0, 0), (.getfield 371, 3, 13, 11, 0), (.iconst 1, 1, 0, 0, 0), (.iadd, 1, 0, 0, 0), (.putfield 371, 3, 13, 11, 0), (.aload_n 0, 1, 0, 0, 0), (.getfield 29, 3, 13, 4, 2), (.invokevirtual 105, 3, 0, 1, 0), (.iconst 1, 1, 0, 0, 0), (.isub, 1, 0, 0, 0), (.ireturn, 1, 0, 0, 0)]
theorem k_X11_letWait_67 : z_chk 13 false cX11_letWait 10 67 b_X11_letWait_67 113 = true := by decide +kernel
def b_X11_slipIsAsTold_0 : List z_E := [(.iload_n 2, 1, 0, 0, 0), (.tableswitch 87 0 3 #[31, 31, 41, 51], 31, 1, 0, 0)]
theorem k_X11_slipIsAsTold_0 : z_chk 13 false cX11_slipIsAsTold 4 0 b_X11_slipIsAsTold_0 32 = true := by decide +kernel
def b_X11_slipIsAsTold_32 : List z_E := [(.iload_n 3, 1, 0, 0, 0), (.ifCond .ne 7, 3, 40, 0, 0), (.iconst 1, 1, 0, 0, 0), (.goto 4, 3, 41, 0, 0)]
theorem k_X11_slipIsAsTold_32 : z_chk 13 false cX11_slipIsAsTold 4 32 b_X11_slipIsAsTold_32 40 = true := by decide +kernel
def b_X11_slipIsAsTold_40 : List z_E := [(.iconst 0, 1, 0, 0, 0)]
theorem k_X11_slipIsAsTold_40 : z_chk 13 false cX11_slipIsAsTold 4 40 b_X11_slipIsAsTold_40 41 = true := by decide +kernel
def b_X11_slipIsAsTold_41 : List z_E := [(.ireturn, 1, 0, 0, 0)]
theorem k_X11_slipIsAsTold_41 : z_chk 13 false cX11_slipIsAsTold 4 41 b_X11_slipIsAsTold_41 42 = true := by decide +kernel
def b_X11_slipIsAsTold_42 : List z_E := [(.iload_n 3, 1, 0, 0, 0), (.i2l, 1, 0, 0, 0), (.lconst 0, 1, 0, 0, 0), (.ldc2_w 429, 3, 0, 0, 8), (.invokestatic 68, 3, 3, 0, 0), (.ireturn, 1, 0, 0, 0)]
theorem k_X11_slipIsAsTold_42 : z_chk 13 false cX11_slipIsAsTold 4 42 b_X11_slipIsAsTold_42 52 = true := by decide +kernel
def b_X11_slipIsAsTold_52 : List z_E := [(.aload_n 0, 1, 0, 0, 0), (.iload_n 3, 1, 0, 0, 0), (.invokevirtual 119, 3, 2, 0, 0), (.ifnull 29, 3, 86, 0, 0), (.iload_n 3, 1, 0, 0, 0), (.aload_n 1, 1, 0, 0, 0), (.getfield 360, 3, 8, 0, 2), (.getfield 353, 3, 2, 0, 0), (.if_icmp .eq 18, 3, 86, 0, 0), (.iload_n 3, 1, 0, 0, 0), (.aload_n 1, 1, 0, 0, 0), (.getfield 276, 3, 8, 1, 2), (.getfield 353, 3, 2, 0, 0), (.if_icmp .eq 7, 3, 86, 0, 0), (.iconst 1, 1, 0, 0, 0), (.goto 4, 3, 87, 0, 0)]
theorem k_X11_slipIsAsTold_52 : z_chk 13 false cX11_slipIsAsTold 4 52 b_X11_slipIsAsTold_52 86 = true := by decide +kernel
def b_X11_slipIsAsTold_86 : List z_E := [(.iconst 0, 1, 0, 0, 0)]
theorem k_X11_slipIsAsTold_86 : z_chk 13 false cX11_slipIsAsTold 4 86 b_X11_slipIsAsTold_86 87 = true := by decide +kernel
def b_X11_slipIsAsTold_87 : List z_E := [(.ireturn, 1, 0, 0, 0)]
theorem k_X11_slipIsAsTold_87 : z_chk 13 false cX11_slipIsAsTold 4 87 b_X11_slipIsAsTold_87 88 = true := by decide +kernel
def b_X11_slipIsAsTold_88 : List z_E := [(.iconst 0, 1, 0, 0, 0), (.ireturn, 1, 0, 0, 0)]
theorem k_X11_slipIsAsTold_88 : z_chk 13 false cX11_slipIsAsTold 4 88 b_X11_slipIsAsTold_88 90 = true := by decide +kernel
def b_X11_carryOutOrders_0 : List z_E := [(.iconst 0, 1, 0, 0, 0), (.istore_n 1, 1, 0, 0, 0), (.aload_n 0, 1, 0, 0, 0), (.getfield 371, 3, 13, 11, 0), (.istore_n 2, 1, 0, 0, 0)]
theorem k_X11_carryOutOrders_0 : z_chk 13 false cX11_carryOutOrders 5 0 b_X11_carryOutOrders_0 7 = true := by decide +kernel
def b_X11_carryOutOrders_7 : List z_E := [(.iload_n 2, 1, 0, 0, 0), (.ifCond .le 58, 3, 66, 0, 0), (.aload_n 0, 1, 0, 0, 0), (.invokevirtual 431, 3, 1, 0, 0), (.istore_n 3, 1, 0, 0, 0), (.aload_n 0, 1, 0, 0, 0), (.iload_n 3, 1, 0, 0, 0), (.invokevirtual 222, 3, 2, 0, 0), (.astore 4, 2, 0, 0, 0), (.aload 4, 2, 0, 0, 0), (.ifnonnull 6, 3, 31, 0, 0), (.goto 38, 3, 66, 0, 0)]
theorem k_X11_carryOutOrders_7 : z_chk 13 false cX11_carryOutOrders 5 7 b_X11_carryOutOrders_7 31 = true := by decide +kernel
def b_X11_carryOutOrders_31 : List z_E := [(.aload_n 0, 1, 0, 0, 0), (.aload 4, 2, 0, 0, 0), (.iload_n 3, 1, 0, 0, 0), (.invokevirtual 434, 3, 3, 0, 0), (.aload_n 0, 1, 0, 0, 0), (.dup, 1, 0, 0, 0), (.getfield 371, 3, 13, 11, 0), (.iconst 1, 1, 0, 0, 0), (.isub, 1, 0, 0, 0), (.putfield 371, 3, 13, 11, 0), (.aload 4, 2, 0, 0, 0), (.getfield 226, 3, 8, 6, 0), (.iconst 1, 1, 0, 0, 0), (.if_icmp .ne 6, 3, 60, 0, 0), (.iinc 1 1, 3, 0, 0, 0)]
theorem k_X11_carryOutOrders_31 : z_chk 13 false cX11_carryOutOrders 5 31 b_X11_carryOutOrders_31 60 = true := by decide +kernel
def b_X11_carryOutOrders_60 : List z_E := [(.iinc 2 (-1), 3, 0, 0, 0), (.goto (-56), 3, 7, 0, 0)]
theorem k_X11_carryOutOrders_60 : z_chk 13 false cX11_carryOutOrders 5 60 b_X11_carryOutOrders_60 66 = true := by decide +kernel
def b_X11_carryOutOrders_66 : List z_E := [(.iload_n 1, 1, 0, 0, 0), (.ireturn, 1, 0, 0, 0)]
theorem k_X11_carryOutOrders_66 : z_chk 13 false cX11_carryOutOrders 5 66 b_X11_carryOutOrders_66 68 = true := by decide +kernel
def b_X11_nextOrderDue_0 : List z_E := [(.iconst (-1), 1, 0, 0, 0), (.istore_n 1, 1, 0, 0, 0), (.bipush 24, 2, 0, 0, 0), (.istore_n 2, 1, 0, 0, 0), (.iconst 0, 1, 0, 0, 0), (.istore_n 3, 1, 0, 0, 0)]
theorem k_X11_nextOrderDue_0 : z_chk 13 false cX11_nextOrderDue 5 0 b_X11_nextOrderDue_0 7 = true := by decide +kernel
def b_X11_nextOrderDue_7 : List z_E := [(.iload_n 3, 1, 0, 0, 0), (.aload_n 0, 1, 0, 0, 0), (.getfield 29, 3, 13, 4, 2), (.invokevirtual 105, 3, 0, 1, 0), (.if_icmp .ge 59, 3, 74, 0, 0), (.aload_n 0, 1, 0, 0, 0), (.getfield 29, 3, 13, 4, 2), (.iload_n 3, 1, 0, 0, 0), (.invokevirtual 325, 3, 0, 2, 0), (.checkcast 227, 3, 8, 0, 0), (.astore 4, 2, 0, 0, 0), (.aload 4, 2, 0, 0, 0), (.getfield 226, 3, 8, 6, 0), (.ifCond .ne 32, 3, 68, 0, 0), (.aload 4, 2, 0, 0, 0), (.getfield 363, 3, 8, 3, 0), (.aload_n 0, 1, 0, 0, 0), (.getfield 215, 3, 13, 10, 0), (.if_icmp .gt 20, 3, 68, 0, 0), (.aload 4, 2, 0, 0, 0), (.getfield 364, 3, 8, 4, 0), (.iload_n 2, 1, 0, 0, 0), (.if_icmp .ge 11, 3, 68, 0, 0), (.iload_n 3, 1, 0, 0, 0), (.istore_n 1, 1, 0, 0, 0), (.aload 4, 2, 0, 0, 0), (.getfield 364, 3, 8, 4, 0), (.istore_n 2, 1, 0, 0, 0)]
theorem k_X11_nextOrderDue_7 : z_chk 13 false cX11_nextOrderDue 5 7 b_X11_nextOrderDue_7 68 = true := by decide +kernel
def b_X11_nextOrderDue_68 : List z_E := [(.iinc 3 1, 3, 0, 0, 0), (.goto (-64), 3, 7, 0, 0)]
theorem k_X11_nextOrderDue_68 : z_chk 13 false cX11_nextOrderDue 5 68 b_X11_nextOrderDue_68 74 = true := by decide +kernel
def b_X11_nextOrderDue_74 : List z_E := [(.iload_n 1, 1, 0, 0, 0), (.ireturn, 1, 0, 0, 0)]
theorem k_X11_nextOrderDue_74 : z_chk 13 false cX11_nextOrderDue 5 74 b_X11_nextOrderDue_74 76 = true := by decide +kernel
def b_X11_carryOut_0 : List z_E := [(.aload_n 1, 1, 0, 0, 0), (.getfield 360, 3, 8, 0, 2), (.astore_n 3, 1, 0, 0, 0), (.aload_n 3, 1, 0, 0, 0), (.aload_n 1, 1, 0, 0, 0), (.getfield 438, 3, 8, 5, 0), (.aload_n 0, 1, 0, 0, 0), (.getfield 215, 3, 13, 10, 0), (.invokevirtual 441, 3, 3, 0, 0), (.ifCond .ne 11, 3, 28, 0, 0), (.aload_n 1, 1, 0, 0, 0), (.iconst 2, 1, 0, 0, 0), (.putfield 226, 3, 8, 6, 0), (.goto 154, 3, 179, 0, 0)]
theorem k_X11_carryOut_0 : z_chk 13 false cX11_carryOut 6 0 b_X11_carryOut_0 28 = true := by decide +kernel
def b_X11_carryOut_28 : List z_E := [(.aload_n 3, 1, 0, 0, 0), (.getfield 186, 3, 2, 4, 1), (.aload_n 1, 1, 0, 0, 0), (.getfield 279, 3, 8, 2, 1), (.lcmp, 1, 0, 0, 0), (.ifCond .ge 55, 3, 92, 0, 0), (.aload_n 1, 1, 0, 0, 0), (.iconst 3, 1, 0, 0, 0), (.putfield 226, 3, 8, 6, 0), (.aload_n 1, 1, 0, 0, 0), (.getfield 279, 3, 8, 2, 1), (.aload_n 0, 1, 0, 0, 0), (.getfield 10, 3, 13, 0, 2), (.getfield 90, 3, 11, 3, 0), (.i2l, 1, 0, 0, 0), (.lmul, 1, 0, 0, 0), (.ldc2_w 72, 3, 0, 0, 100), (.ldiv, 1, 0, 0, 0), (.aload_n 3, 1, 0, 0, 0), (.getfield 186, 3, 2, 4, 1), (.invokestatic 444, 3, 2, 0, 0), (.lstore 4, 2, 0, 0, 0), (.aload_n 0, 1, 0, 0, 0), (.aload_n 3, 1, 0, 0, 0), (.lload 4, 2, 0, 0, 0), (.invokevirtual 203, 3, 3, 0, 0), (.aload_n 0, 1, 0, 0, 0), (.dup, 1, 0, 0, 0), (.getfield 207, 3, 13, 12, 1), (.lload 4, 2, 0, 0, 0), (.ladd, 1, 0, 0, 0), (.putfield 207, 3, 13, 12, 1), (.goto 90, 3, 179, 0, 0)]
theorem k_X11_carryOut_28 : z_chk 13 false cX11_carryOut 6 28 b_X11_carryOut_28 92 = true := by decide +kernel
def b_X11_carryOut_92 : List z_E := [(.aload_n 1, 1, 0, 0, 0), (.iconst 1, 1, 0, 0, 0), (.putfield 226, 3, 8, 6, 0), (.aload_n 1, 1, 0, 0, 0), (.aload_n 0, 1, 0, 0, 0), (.getfield 215, 3, 13, 10, 0), (.putfield 273, 3, 8, 9, 0), (.aload_n 3, 1, 0, 0, 0), (.dup, 1, 0, 0, 0), (.getfield 186, 3, 2, 4, 1), (.aload_n 1, 1, 0, 0, 0), (.getfield 279, 3, 8, 2, 1), (.lsub, 1, 0, 0, 0), (.putfield 186, 3, 2, 4, 1), (.aload_n 1, 1, 0, 0, 0), (.getfield 276, 3, 8, 1, 2), (.dup, 1, 0, 0, 0), (.getfield 186, 3, 2, 4, 1), (.aload_n 1, 1, 0, 0, 0), (.getfield 279, 3, 8, 2, 1), (.ladd, 1, 0, 0, 0), (.putfield 186, 3, 2, 4, 1), (.aload_n 0, 1, 0, 0, 0), (.getfield 48, 3, 13, 7, 2), (.aload_n 0, 1, 0, 0, 0), (.getfield 215, 3, 13, 10, 0), (.aload_n 3, 1, 0, 0, 0), (.iconst 0, 1, 0, 0, 0), (.aload_n 1, 1, 0, 0, 0), (.getfield 279, 3, 8, 2, 1), (.iload_n 2, 1, 0, 0, 0), (.invokevirtual 282, 3, 6, 0, 0), (.pop, 1, 0, 0, 0), (.aload_n 1, 1, 0, 0, 0), (.aload_n 0, 1, 0, 0, 0), (.aload_n 1, 1, 0, 0, 0), (.iload_n 2, 1, 0, 0, 0), (.invokevirtual 450, 3, 3, 0, 0), (.putfield 266, 3, 8, 10, 0), (.aload_n 0, 1, 0, 0, 0), (.getfield 55, 3, 13, 8, 2), (.dup, 1, 0, 0, 0), (.getfield 454, 3, 3, 3, 1), (.aload_n 1, 1, 0, 0, 0), (.getfield 279, 3, 8, 2, 1), (.ladd, 1, 0, 0, 0), (.putfield 454, 3, 3, 3, 1)]
theorem k_X11_carryOut_92 : z_chk 13 false cX11_carryOut 6 92 b_X11_carryOut_92 179 = true := by decide +kernel
def b_X11_carryOut_179 : List z_E := [(.return_, 1, 0, 0, 0)]
theorem k_X11_carryOut_179 : z_chk 13 false cX11_carryOut 6 179 b_X11_carryOut_179 180 = true := by decide +kernel
def b_X11_enterCredit_0 : List z_E := [(.aload_n 1, 1, 0, 0, 0), (.getfield 276, 3, 8, 1, 2), (.astore_n 3, 1, 0, 0, 0), (.iconst 1, 1, 0, 0, 0), (.istore 4, 2, 0, 0, 0), (.aload_n 1, 1, 0, 0, 0), (.getfield 279, 3, 8, 2, 1), (.lstore 5, 2, 0, 0, 0), (.aload_n 1, 1, 0, 0, 0), (.getfield 233, 3, 8, 7, 0), (.tableswitch 77 0 3 #[30, 32, 38, 52], 30, 18, 0, 0)]
theorem k_X11_enterCredit_0 : z_chk 13 false cX11_enterCredit 8 0 b_X11_enterCredit_0 48 = true := by decide +kernel
def b_X11_enterCredit_48 : List z_E := [(.iconst (-1), 1, 0, 0, 0), (.ireturn, 1, 0, 0, 0)]
theorem k_X11_enterCredit_48 : z_chk 13 false cX11_enterCredit 8 48 b_X11_enterCredit_48 50 = true := by decide +kernel
def b_X11_enterCredit_50 : List z_E := [(.iconst 0, 1, 0, 0, 0), (.istore 4, 2, 0, 0, 0), (.goto 42, 3, 95, 0, 0)]
theorem k_X11_enterCredit_50 : z_chk 13 false cX11_enterCredit 8 50 b_X11_enterCredit_50 56 = true := by decide +kernel
def b_X11_enterCredit_56 : List z_E := [(.lload 5, 2, 0, 0, 0), (.aload_n 1, 1, 0, 0, 0), (.getfield 236, 3, 8, 8, 0), (.invokestatic 457, 3, 2, 0, 0), (.lstore 5, 2, 0, 0, 0), (.goto 28, 3, 95, 0, 0)]
theorem k_X11_enterCredit_56 : z_chk 13 false cX11_enterCredit 8 56 b_X11_enterCredit_56 70 = true := by decide +kernel
def b_X11_enterCredit_70 : List z_E := [(.aload_n 0, 1, 0, 0, 0), (.aload_n 1, 1, 0, 0, 0), (.getfield 236, 3, 8, 8, 0), (.invokevirtual 119, 3, 2, 0, 0), (.astore 7, 2, 0, 0, 0), (.aload 7, 2, 0, 0, 0), (.ifnonnull 7, 3, 89, 0, 0), (.aload_n 3, 1, 0, 0, 0), (.goto 5, 3, 91, 0, 0)]
theorem k_X11_enterCredit_70 : z_chk 13 false cX11_enterCredit 8 70 b_X11_enterCredit_70 89 = true := by decide +kernel
def b_X11_enterCredit_89 : List z_E := [(.aload 7, 2, 0, 0, 0)]
theorem k_X11_enterCredit_89 : z_chk 13 false cX11_enterCredit 8 89 b_X11_enterCredit_89 91 = true := by decide +kernel
def b_X11_enterCredit_91 : List z_E := [(.astore_n 3, 1, 0, 0, 0), (.goto 3, 3, 95, 0, 0)]
theorem k_X11_enterCredit_91 : z_chk 13 false cX11_enterCredit 8 91 b_X11_enterCredit_91 95 = true := by decide +kernel
def b_X11_enterCredit_95 : List z_E := [(.aload_n 0, 1, 0, 0, 0), (.getfield 48, 3, 13, 7, 2), (.aload_n 0, 1, 0, 0, 0), (.getfield 215, 3, 13, 10, 0), (.aload_n 3, 1, 0, 0, 0), (.iload 4, 2, 0, 0, 0), (.lload 5, 2, 0, 0, 0), (.iload_n 2, 1, 0, 0, 0), (.invokevirtual 282, 3, 6, 0, 0), (.ireturn, 1, 0, 0, 0)]
theorem k_X11_enterCredit_95 : z_chk 13 false cX11_enterCredit 8 95 b_X11_enterCredit_95 113 = true := by decide +kernel
def b_X11_lapseReceipts_0 : List z_E := [(.iconst 0, 1, 0, 0, 0), (.istore_n 1, 1, 0, 0, 0)]
theorem k_X11_lapseReceipts_0 : z_chk 13 false cX11_lapseReceipts 3 0 b_X11_lapseReceipts_0 2 = true := by decide +kernel
def b_X11_lapseReceipts_2 : List z_E := [(.iload_n 1, 1, 0, 0, 0), (.aload_n 0, 1, 0, 0, 0), (.getfield 26, 3, 13, 3, 2), (.invokevirtual 105, 3, 0, 1, 0), (.if_icmp .ge 44, 3, 54, 0, 0), (.aload_n 0, 1, 0, 0, 0), (.getfield 26, 3, 13, 3, 2), (.iload_n 1, 1, 0, 0, 0), (.invokevirtual 325, 3, 0, 2, 0), (.checkcast 169, 3, 9, 0, 0), (.astore_n 2, 1, 0, 0, 0), (.aload_n 2, 1, 0, 0, 0), (.getfield 200, 3, 9, 6, 0), (.ifCond .ne 19, 3, 48, 0, 0), (.aload_n 2, 1, 0, 0, 0), (.getfield 210, 3, 9, 5, 0), (.aload_n 0, 1, 0, 0, 0), (.getfield 215, 3, 13, 10, 0), (.if_icmp .gt 8, 3, 48, 0, 0), (.aload_n 2, 1, 0, 0, 0), (.iconst 2, 1, 0, 0, 0), (.putfield 200, 3, 9, 6, 0)]
theorem k_X11_lapseReceipts_2 : z_chk 13 false cX11_lapseReceipts 3 2 b_X11_lapseReceipts_2 48 = true := by decide +kernel
def b_X11_lapseReceipts_48 : List z_E := [(.iinc 1 1, 3, 0, 0, 0), (.goto (-49), 3, 2, 0, 0)]
theorem k_X11_lapseReceipts_48 : z_chk 13 false cX11_lapseReceipts 3 48 b_X11_lapseReceipts_48 54 = true := by decide +kernel
def b_X11_lapseReceipts_54 : List z_E := [(.return_, 1, 0, 0, 0)]
theorem k_X11_lapseReceipts_54 : z_chk 13 false cX11_lapseReceipts 3 54 b_X11_lapseReceipts_54 55 = true := by decide +kernel
def b_X11_allBalances_0 : List z_E := [(.lconst 0, 1, 0, 0, 0), (.lstore_n 1, 1, 0, 0, 0), (.iconst 0, 1, 0, 0, 0), (.istore_n 3, 1, 0, 0, 0)]
theorem k_X11_allBalances_0 : z_chk 13 false cX11_allBalances 4 0 b_X11_allBalances_0 4 = true := by decide +kernel
def b_X11_allBalances_4 : List z_E := [(.iload_n 3, 1, 0, 0, 0), (.aload_n 0, 1, 0, 0, 0), (.getfield 23, 3, 13, 2, 2), (.invokevirtual 105, 3, 0, 1, 0), (.if_icmp .ge 26, 3, 38, 0, 0), (.lload_n 1, 1, 0, 0, 0), (.aload_n 0, 1, 0, 0, 0), (.getfield 23, 3, 13, 2, 2), (.iload_n 3, 1, 0, 0, 0), (.invokevirtual 325, 3, 0, 2, 0), (.checkcast 114, 3, 2, 0, 0), (.getfield 186, 3, 2, 4, 1), (.ladd, 1, 0, 0, 0), (.lstore_n 1, 1, 0, 0, 0), (.iinc 3 1, 3, 0, 0, 0), (.goto (-31), 3, 4, 0, 0)]
theorem k_X11_allBalances_4 : z_chk 13 false cX11_allBalances 4 4 b_X11_allBalances_4 38 = true := by decide +kernel
def b_X11_allBalances_38 : List z_E := [(.lload_n 1, 1, 0, 0, 0), (.lreturn, 1, 0, 0, 0)]
theorem k_X11_allBalances_38 : z_chk 13 false cX11_allBalances 4 38 b_X11_allBalances_38 40 = true := by decide +kernel
def b_X11_bookOfVault_0 : List z_E := [(.lconst 0, 1, 0, 0, 0), (.lstore_n 1, 1, 0, 0, 0), (.iconst 0, 1, 0, 0, 0), (.istore_n 3, 1, 0, 0, 0)]
theorem k_X11_bookOfVault_0 : z_chk 13 false cX11_bookOfVault 5 0 b_X11_bookOfVault_0 4 = true := by decide +kernel
def b_X11_bookOfVault_4 : List z_E := [(.iload_n 3, 1, 0, 0, 0), (.aload_n 0, 1, 0, 0, 0), (.getfield 19, 3, 13, 1, 2), (.invokevirtual 105, 3, 0, 1, 0), (.if_icmp .ge 42, 3, 54, 0, 0), (.aload_n 0, 1, 0, 0, 0), (.getfield 19, 3, 13, 1, 2), (.iload_n 3, 1, 0, 0, 0), (.invokevirtual 325, 3, 0, 2, 0), (.checkcast 109, 3, 4, 0, 0), (.astore 4, 2, 0, 0, 0), (.lload_n 1, 1, 0, 0, 0), (.aload 4, 2, 0, 0, 0), (.aload 4, 2, 0, 0, 0), (.getfield 195, 3, 4, 5, 1), (.aload_n 0, 1, 0, 0, 0), (.getfield 10, 3, 13, 0, 2), (.getfield 80, 3, 11, 0, 0), (.invokevirtual 305, 3, 3, 0, 0), (.ladd, 1, 0, 0, 0), (.lstore_n 1, 1, 0, 0, 0), (.iinc 3 1, 3, 0, 0, 0), (.goto (-47), 3, 4, 0, 0)]
theorem k_X11_bookOfVault_4 : z_chk 13 false cX11_bookOfVault 5 4 b_X11_bookOfVault_4 54 = true := by decide +kernel
def b_X11_bookOfVault_54 : List z_E := [(.lload_n 1, 1, 0, 0, 0), (.lreturn, 1, 0, 0, 0)]
theorem k_X11_bookOfVault_54 : z_chk 13 false cX11_bookOfVault 5 54 b_X11_bookOfVault_54 56 = true := by decide +kernel
def b_X11_slotsWithRow_0 : List z_E := [(.iconst 0, 1, 0, 0, 0), (.istore_n 1, 1, 0, 0, 0), (.iconst 0, 1, 0, 0, 0), (.istore_n 2, 1, 0, 0, 0)]
theorem k_X11_slotsWithRow_0 : z_chk 13 false cX11_slotsWithRow 3 0 b_X11_slotsWithRow_0 4 = true := by decide +kernel
def b_X11_slotsWithRow_4 : List z_E := [(.iload_n 2, 1, 0, 0, 0), (.aload_n 0, 1, 0, 0, 0), (.getfield 35, 3, 13, 6, 2), (.invokevirtual 105, 3, 0, 1, 0), (.if_icmp .ge 29, 3, 41, 0, 0), (.aload_n 0, 1, 0, 0, 0), (.getfield 35, 3, 13, 6, 2), (.iload_n 2, 1, 0, 0, 0), (.invokevirtual 325, 3, 0, 2, 0), (.checkcast 38, 3, 10, 0, 0), (.getfield 141, 3, 10, 1, 3), (.ifCond .eq 6, 3, 35, 0, 0), (.iinc 1 1, 3, 0, 0, 0)]
theorem k_X11_slotsWithRow_4 : z_chk 13 false cX11_slotsWithRow 3 4 b_X11_slotsWithRow_4 35 = true := by decide +kernel
def b_X11_slotsWithRow_35 : List z_E := [(.iinc 2 1, 3, 0, 0, 0), (.goto (-34), 3, 4, 0, 0)]
theorem k_X11_slotsWithRow_35 : z_chk 13 false cX11_slotsWithRow 3 35 b_X11_slotsWithRow_35 41 = true := by decide +kernel
def b_X11_slotsWithRow_41 : List z_E := [(.iload_n 1, 1, 0, 0, 0), (.ireturn, 1, 0, 0, 0)]
theorem k_X11_slotsWithRow_41 : z_chk 13 false cX11_slotsWithRow 3 41 b_X11_slotsWithRow_41 43 = true := by decide +kernel
end
section
def b_L_law_0 : List z_E := [(.new 7, 3, 13, 0, 0), (.dup, 1, 0, 0, 0), (.invokespecial 9, 3, 1, 0, 0), (.astore_n 1, 1, 0, 0, 0), (.new 10, 3, 14, 0, 0), (.dup, 1, 0, 0, 0), (.invokespecial 12, 3, 1, 0, 0), (.astore_n 2, 1, 0, 0, 0), (.iconst 0, 1, 0, 0, 0), (.istore_n 3, 1, 0, 0, 0)]
theorem k_L_law_0 : z_chk 16 false cL_law 4 0 b_L_law_0 18 = true := by decide +kernel
def b_L_law_18 : List z_E := [(.iload_n 3, 1, 0, 0, 0), (.aload_n 0, 1, 0, 0, 0), (.arraylength, 1, 0, 0, 0), (.bipush 9, 2, 0, 0, 0), (.isub, 1, 0, 0, 0), (.if_icmp .gt 1561, 3, 1585, 0, 0), (.aload_n 0, 1, 0, 0, 0), (.iload_n 3, 1, 0, 0, 0), (.iaload, 1, 0, 1, 0), (.bipush 63, 2, 0, 0, 0), (.iand, 1, 0, 0, 0), (.tableswitch 1546 0 35 #[159, 258, 301, 314, 357, 400, 424, 448, 481, 576, 659, 702, 715, 738, 771, 794, 838, 881, 914, 948, 1002, 1035, 1068, 1092, 1116, 1149, 1173, 1206, 1239, 1263, 1297, 1320, 1344, 1387, 1410, 1483], 159, 33, 0, 0)]
theorem k_L_law_18 : z_chk 16 false cL_law 4 18 b_L_law_18 192 = true := by decide +kernel
def b_L_law_192 : List z_E := [(.aload_n 1, 1, 0, 0, 0), (.aload_n 0, 1, 0, 0, 0), (.iload_n 3, 1, 0, 0, 0), (.iconst 1, 1, 0, 0, 0), (.iadd, 1, 0, 0, 0), (.iaload, 1, 0, 1, 0), (.aload_n 0, 1, 0, 0, 0), (.iload_n 3, 1, 0, 0, 0), (.iconst 2, 1, 0, 0, 0), (.iadd, 1, 0, 0, 0), (.iaload, 1, 0, 1, 0), (.aload_n 0, 1, 0, 0, 0), (.iload_n 3, 1, 0, 0, 0), (.iconst 3, 1, 0, 0, 0), (.iadd, 1, 0, 0, 0), (.iaload, 1, 0, 1, 0), (.aload_n 0, 1, 0, 0, 0), (.iload_n 3, 1, 0, 0, 0), (.iconst 4, 1, 0, 0, 0), (.iadd, 1, 0, 0, 0), (.iaload, 1, 0, 1, 0), (.aload_n 0, 1, 0, 0, 0), (.iload_n 3, 1, 0, 0, 0), (.iconst 5, 1, 0, 0, 0), (.iadd, 1, 0, 0, 0), (.iaload, 1, 0, 1, 0), (.aload_n 0, 1, 0, 0, 0), (.iload_n 3, 1, 0, 0, 0), (.bipush 6, 2, 0, 0, 0), (.iadd, 1, 0, 0, 0), (.iaload, 1, 0, 1, 0), (.aload_n 0, 1, 0, 0, 0), (.iload_n 3, 1, 0, 0, 0), (.bipush 7, 2, 0, 0, 0), (.iadd, 1, 0, 0, 0), (.iaload, 1, 0, 1, 0), (.aload_n 0, 1, 0, 0, 0), (.iload_n 3, 1, 0, 0, 0), (.bipush 8, 2, 0, 0, 0), (.iadd, 1, 0, 0, 0), (.iaload, 1, 0, 1, 0), (.invokevirtual 13, 3, 9, 0, 0), (.aload_n 2, 1, 0, 0, 0), (.aload_n 0, 1, 0, 0, 0), (.iload_n 3, 1, 0, 0, 0), (.iconst 1, 1, 0, 0, 0), (.iadd, 1, 0, 0, 0), (.iaload, 1, 0, 1, 0), (.aload_n 0, 1, 0, 0, 0), (.iload_n 3, 1, 0, 0, 0), (.iconst 2, 1, 0, 0, 0), (.iadd, 1, 0, 0, 0), (.iaload, 1, 0, 1, 0), (.aload_n 0, 1, 0, 0, 0), (.iload_n 3, 1, 0, 0, 0), (.iconst 3, 1, 0, 0, 0), (.iadd, 1, 0, 0, 0), (.iaload, 1, 0, 1, 0), (.aload_n 0, 1, 0, 0, 0), (.iload_n 3, 1, 0, 0, 0), (.iconst 4, 1, 0, 0, 0), (.iadd, 1, 0, 0, 0), (.iaload, 1, 0, 1, 0), (.aload_n 0, 1, 0, 0, 0), (.iload_n 3, 1, 0, 0, 0), (.iconst 5, 1, 0, 0, 0), (.iadd, 1, 0, 0, 0), (.iaload, 1, 0, 1, 0), (.aload_n 0, 1, 0, 0, 0), (.iload_n 3, 1, 0, 0, 0), (.bipush 6, 2, 0, 0, 0), (.iadd, 1, 0, 0, 0), (.iaload, 1, 0, 1, 0), (.aload_n 0, 1, 0, 0, 0), (.iload_n 3, 1, 0, 0, 0), (.bipush 7, 2, 0, 0, 0), (.iadd, 1, 0, 0, 0), (.iaload, 1, 0, 1, 0), (.aload_n 0, 1, 0, 0, 0), (.iload_n 3, 1, 0, 0, 0), (.bipush 8, 2, 0, 0, 0), (.iadd, 1, 0, 0, 0), (.iaload, 1, 0, 1, 0), (.invokevirtual 17, 3, 9, 0, 0), (.if_icmp .eq 1293, 3, 1579, 0, 0), (.iconst 0, 1, 0, 0, 0), (.ireturn, 1, 0, 0, 0)]
theorem k_L_law_192 : z_chk 16 false cL_law 4 192 b_L_law_192 291 = true := by decide +kernel
def b_L_law_291 : List z_E := [(.aload_n 1, 1, 0, 0, 0), (.aload_n 0, 1, 0, 0, 0), (.iload_n 3, 1, 0, 0, 0), (.iconst 1, 1, 0, 0, 0), (.iadd, 1, 0, 0, 0), (.iaload, 1, 0, 1, 0), (.aload_n 0, 1, 0, 0, 0), (.iload_n 3, 1, 0, 0, 0), (.iconst 2, 1, 0, 0, 0), (.iadd, 1, 0, 0, 0), (.iaload, 1, 0, 1, 0), (.aload_n 0, 1, 0, 0, 0), (.iload_n 3, 1, 0, 0, 0), (.iconst 3, 1, 0, 0, 0), (.iadd, 1, 0, 0, 0), (.iaload, 1, 0, 1, 0), (.invokevirtual 18, 3, 4, 0, 0), (.aload_n 2, 1, 0, 0, 0), (.aload_n 0, 1, 0, 0, 0), (.iload_n 3, 1, 0, 0, 0), (.iconst 1, 1, 0, 0, 0), (.iadd, 1, 0, 0, 0), (.iaload, 1, 0, 1, 0), (.aload_n 0, 1, 0, 0, 0), (.iload_n 3, 1, 0, 0, 0), (.iconst 2, 1, 0, 0, 0), (.iadd, 1, 0, 0, 0), (.iaload, 1, 0, 1, 0), (.aload_n 0, 1, 0, 0, 0), (.iload_n 3, 1, 0, 0, 0), (.iconst 3, 1, 0, 0, 0), (.iadd, 1, 0, 0, 0), (.iaload, 1, 0, 1, 0), (.invokevirtual 22, 3, 4, 0, 0), (.if_icmp .eq 1250, 3, 1579, 0, 0), (.iconst 0, 1, 0, 0, 0), (.ireturn, 1, 0, 0, 0)]
theorem k_L_law_291 : z_chk 16 false cL_law 4 291 b_L_law_291 334 = true := by decide +kernel
def b_L_law_334 : List z_E := [(.aload_n 1, 1, 0, 0, 0), (.invokevirtual 23, 3, 1, 0, 0), (.aload_n 2, 1, 0, 0, 0), (.invokevirtual 27, 3, 1, 0, 0), (.if_icmp .eq 1237, 3, 1579, 0, 0), (.iconst 0, 1, 0, 0, 0), (.ireturn, 1, 0, 0, 0)]
theorem k_L_law_334 : z_chk 16 false cL_law 4 334 b_L_law_334 347 = true := by decide +kernel
def b_L_law_347 : List z_E := [(.aload_n 1, 1, 0, 0, 0), (.aload_n 0, 1, 0, 0, 0), (.iload_n 3, 1, 0, 0, 0), (.iconst 1, 1, 0, 0, 0), (.iadd, 1, 0, 0, 0), (.iaload, 1, 0, 1, 0), (.aload_n 0, 1, 0, 0, 0), (.iload_n 3, 1, 0, 0, 0), (.iconst 2, 1, 0, 0, 0), (.iadd, 1, 0, 0, 0), (.iaload, 1, 0, 1, 0), (.aload_n 0, 1, 0, 0, 0), (.iload_n 3, 1, 0, 0, 0), (.iconst 3, 1, 0, 0, 0), (.iadd, 1, 0, 0, 0), (.iaload, 1, 0, 1, 0), (.invokevirtual 28, 3, 4, 0, 0), (.aload_n 2, 1, 0, 0, 0), (.aload_n 0, 1, 0, 0, 0), (.iload_n 3, 1, 0, 0, 0), (.iconst 1, 1, 0, 0, 0), (.iadd, 1, 0, 0, 0), (.iaload, 1, 0, 1, 0), (.aload_n 0, 1, 0, 0, 0), (.iload_n 3, 1, 0, 0, 0), (.iconst 2, 1, 0, 0, 0), (.iadd, 1, 0, 0, 0), (.iaload, 1, 0, 1, 0), (.aload_n 0, 1, 0, 0, 0), (.iload_n 3, 1, 0, 0, 0), (.iconst 3, 1, 0, 0, 0), (.iadd, 1, 0, 0, 0), (.iaload, 1, 0, 1, 0), (.invokevirtual 31, 3, 4, 0, 0), (.if_icmp .eq 1194, 3, 1579, 0, 0), (.iconst 0, 1, 0, 0, 0), (.ireturn, 1, 0, 0, 0)]
theorem k_L_law_347 : z_chk 16 false cL_law 4 347 b_L_law_347 390 = true := by decide +kernel
def b_L_law_390 : List z_E := [(.aload_n 1, 1, 0, 0, 0), (.aload_n 0, 1, 0, 0, 0), (.iload_n 3, 1, 0, 0, 0), (.iconst 1, 1, 0, 0, 0), (.iadd, 1, 0, 0, 0), (.iaload, 1, 0, 1, 0), (.aload_n 0, 1, 0, 0, 0), (.iload_n 3, 1, 0, 0, 0), (.iconst 2, 1, 0, 0, 0), (.iadd, 1, 0, 0, 0), (.iaload, 1, 0, 1, 0), (.aload_n 0, 1, 0, 0, 0), (.iload_n 3, 1, 0, 0, 0), (.iconst 3, 1, 0, 0, 0), (.iadd, 1, 0, 0, 0), (.iaload, 1, 0, 1, 0), (.invokevirtual 32, 3, 4, 0, 0), (.aload_n 2, 1, 0, 0, 0), (.aload_n 0, 1, 0, 0, 0), (.iload_n 3, 1, 0, 0, 0), (.iconst 1, 1, 0, 0, 0), (.iadd, 1, 0, 0, 0), (.iaload, 1, 0, 1, 0), (.aload_n 0, 1, 0, 0, 0), (.iload_n 3, 1, 0, 0, 0), (.iconst 2, 1, 0, 0, 0), (.iadd, 1, 0, 0, 0), (.iaload, 1, 0, 1, 0), (.aload_n 0, 1, 0, 0, 0), (.iload_n 3, 1, 0, 0, 0), (.iconst 3, 1, 0, 0, 0), (.iadd, 1, 0, 0, 0), (.iaload, 1, 0, 1, 0), (.invokevirtual 35, 3, 4, 0, 0), (.if_icmp .eq 1151, 3, 1579, 0, 0), (.iconst 0, 1, 0, 0, 0), (.ireturn, 1, 0, 0, 0)]
theorem k_L_law_390 : z_chk 16 false cL_law 4 390 b_L_law_390 433 = true := by decide +kernel
def b_L_law_433 : List z_E := [(.aload_n 1, 1, 0, 0, 0), (.aload_n 0, 1, 0, 0, 0), (.iload_n 3, 1, 0, 0, 0), (.iconst 1, 1, 0, 0, 0), (.iadd, 1, 0, 0, 0), (.iaload, 1, 0, 1, 0), (.invokevirtual 36, 3, 2, 0, 0), (.aload_n 2, 1, 0, 0, 0), (.aload_n 0, 1, 0, 0, 0), (.iload_n 3, 1, 0, 0, 0), (.iconst 1, 1, 0, 0, 0), (.iadd, 1, 0, 0, 0), (.iaload, 1, 0, 1, 0), (.invokevirtual 40, 3, 2, 0, 0), (.lcmp, 1, 0, 0, 0), (.ifCond .eq 1127, 3, 1579, 0, 0), (.iconst 0, 1, 0, 0, 0), (.ireturn, 1, 0, 0, 0)]
theorem k_L_law_433 : z_chk 16 false cL_law 4 433 b_L_law_433 457 = true := by decide +kernel
def b_L_law_457 : List z_E := [(.aload_n 1, 1, 0, 0, 0), (.aload_n 0, 1, 0, 0, 0), (.iload_n 3, 1, 0, 0, 0), (.iconst 1, 1, 0, 0, 0), (.iadd, 1, 0, 0, 0), (.iaload, 1, 0, 1, 0), (.invokevirtual 41, 3, 2, 0, 0), (.aload_n 2, 1, 0, 0, 0), (.aload_n 0, 1, 0, 0, 0), (.iload_n 3, 1, 0, 0, 0), (.iconst 1, 1, 0, 0, 0), (.iadd, 1, 0, 0, 0), (.iaload, 1, 0, 1, 0), (.invokevirtual 44, 3, 2, 0, 0), (.lcmp, 1, 0, 0, 0), (.ifCond .eq 1103, 3, 1579, 0, 0), (.iconst 0, 1, 0, 0, 0), (.ireturn, 1, 0, 0, 0)]
theorem k_L_law_457 : z_chk 16 false cL_law 4 457 b_L_law_457 481 = true := by decide +kernel
def b_L_law_481 : List z_E := [(.aload_n 1, 1, 0, 0, 0), (.aload_n 0, 1, 0, 0, 0), (.iload_n 3, 1, 0, 0, 0), (.iconst 1, 1, 0, 0, 0), (.iadd, 1, 0, 0, 0), (.iaload, 1, 0, 1, 0), (.aload_n 0, 1, 0, 0, 0), (.iload_n 3, 1, 0, 0, 0), (.iconst 2, 1, 0, 0, 0), (.iadd, 1, 0, 0, 0), (.iaload, 1, 0, 1, 0), (.invokevirtual 45, 3, 3, 0, 0), (.aload_n 2, 1, 0, 0, 0), (.aload_n 0, 1, 0, 0, 0), (.iload_n 3, 1, 0, 0, 0), (.iconst 1, 1, 0, 0, 0), (.iadd, 1, 0, 0, 0), (.iaload, 1, 0, 1, 0), (.aload_n 0, 1, 0, 0, 0), (.iload_n 3, 1, 0, 0, 0), (.iconst 2, 1, 0, 0, 0), (.iadd, 1, 0, 0, 0), (.iaload, 1, 0, 1, 0), (.invokevirtual 49, 3, 3, 0, 0), (.if_icmp .eq 1070, 3, 1579, 0, 0), (.iconst 0, 1, 0, 0, 0), (.ireturn, 1, 0, 0, 0)]
theorem k_L_law_481 : z_chk 16 false cL_law 4 481 b_L_law_481 514 = true := by decide +kernel
def b_L_law_514 : List z_E := [(.aload_n 1, 1, 0, 0, 0), (.aload_n 0, 1, 0, 0, 0), (.iload_n 3, 1, 0, 0, 0), (.iconst 1, 1, 0, 0, 0), (.iadd, 1, 0, 0, 0), (.iaload, 1, 0, 1, 0), (.aload_n 0, 1, 0, 0, 0), (.iload_n 3, 1, 0, 0, 0), (.iconst 2, 1, 0, 0, 0), (.iadd, 1, 0, 0, 0), (.iaload, 1, 0, 1, 0), (.aload_n 0, 1, 0, 0, 0), (.iload_n 3, 1, 0, 0, 0), (.iconst 3, 1, 0, 0, 0), (.iadd, 1, 0, 0, 0), (.iaload, 1, 0, 1, 0), (.i2l, 1, 0, 0, 0), (.bipush 32, 2, 0, 0, 0), (.lshl, 1, 0, 0, 0), (.aload_n 0, 1, 0, 0, 0), (.iload_n 3, 1, 0, 0, 0), (.iconst 4, 1, 0, 0, 0), (.iadd, 1, 0, 0, 0), (.iaload, 1, 0, 1, 0), (.i2l, 1, 0, 0, 0), (.ldc2_w 50, 3, 0, 0, 4294967295), (.land, 1, 0, 0, 0), (.lor, 1, 0, 0, 0), (.aload_n 0, 1, 0, 0, 0), (.iload_n 3, 1, 0, 0, 0), (.iconst 5, 1, 0, 0, 0), (.iadd, 1, 0, 0, 0), (.iaload, 1, 0, 1, 0), (.aload_n 0, 1, 0, 0, 0), (.iload_n 3, 1, 0, 0, 0), (.bipush 6, 2, 0, 0, 0), (.iadd, 1, 0, 0, 0), (.iaload, 1, 0, 1, 0), (.invokevirtual 52, 3, 6, 0, 0), (.aload_n 2, 1, 0, 0, 0), (.aload_n 0, 1, 0, 0, 0), (.iload_n 3, 1, 0, 0, 0), (.iconst 1, 1, 0, 0, 0), (.iadd, 1, 0, 0, 0), (.iaload, 1, 0, 1, 0), (.aload_n 0, 1, 0, 0, 0), (.iload_n 3, 1, 0, 0, 0), (.iconst 2, 1, 0, 0, 0), (.iadd, 1, 0, 0, 0), (.iaload, 1, 0, 1, 0), (.aload_n 0, 1, 0, 0, 0), (.iload_n 3, 1, 0, 0, 0), (.iconst 3, 1, 0, 0, 0), (.iadd, 1, 0, 0, 0), (.iaload, 1, 0, 1, 0), (.i2l, 1, 0, 0, 0), (.bipush 32, 2, 0, 0, 0), (.lshl, 1, 0, 0, 0), (.aload_n 0, 1, 0, 0, 0), (.iload_n 3, 1, 0, 0, 0), (.iconst 4, 1, 0, 0, 0), (.iadd, 1, 0, 0, 0), (.iaload, 1, 0, 1, 0), (.i2l, 1, 0, 0, 0), (.ldc2_w 50, 3, 0, 0, 4294967295), (.land, 1, 0, 0, 0), (.lor, 1, 0, 0, 0), (.aload_n 0, 1, 0, 0, 0), (.iload_n 3, 1, 0, 0, 0), (.iconst 5, 1, 0, 0, 0), (.iadd, 1, 0, 0, 0), (.iaload, 1, 0, 1, 0), (.aload_n 0, 1, 0, 0, 0), (.iload_n 3, 1, 0, 0, 0), (.bipush 6, 2, 0, 0, 0), (.iadd, 1, 0, 0, 0), (.iaload, 1, 0, 1, 0), (.invokevirtual 56, 3, 6, 0, 0), (.if_icmp .eq 975, 3, 1579, 0, 0), (.iconst 0, 1, 0, 0, 0), (.ireturn, 1, 0, 0, 0)]
theorem k_L_law_514 : z_chk 16 false cL_law 4 514 b_L_law_514 609 = true := by decide +kernel
def b_L_law_609 : List z_E := [(.aload_n 1, 1, 0, 0, 0), (.aload_n 0, 1, 0, 0, 0), (.iload_n 3, 1, 0, 0, 0), (.iconst 1, 1, 0, 0, 0), (.iadd, 1, 0, 0, 0), (.iaload, 1, 0, 1, 0), (.aload_n 0, 1, 0, 0, 0), (.iload_n 3, 1, 0, 0, 0), (.iconst 2, 1, 0, 0, 0), (.iadd, 1, 0, 0, 0), (.iaload, 1, 0, 1, 0), (.aload_n 0, 1, 0, 0, 0), (.iload_n 3, 1, 0, 0, 0), (.iconst 3, 1, 0, 0, 0), (.iadd, 1, 0, 0, 0), (.iaload, 1, 0, 1, 0), (.i2l, 1, 0, 0, 0), (.bipush 32, 2, 0, 0, 0), (.lshl, 1, 0, 0, 0), (.aload_n 0, 1, 0, 0, 0), (.iload_n 3, 1, 0, 0, 0), (.iconst 4, 1, 0, 0, 0), (.iadd, 1, 0, 0, 0), (.iaload, 1, 0, 1, 0), (.i2l, 1, 0, 0, 0), (.ldc2_w 50, 3, 0, 0, 4294967295), (.land, 1, 0, 0, 0), (.lor, 1, 0, 0, 0), (.aload_n 0, 1, 0, 0, 0), (.iload_n 3, 1, 0, 0, 0), (.iconst 5, 1, 0, 0, 0), (.iadd, 1, 0, 0, 0), (.iaload, 1, 0, 1, 0), (.invokevirtual 57, 3, 5, 0, 0), (.aload_n 2, 1, 0, 0, 0), (.aload_n 0, 1, 0, 0, 0), (.iload_n 3, 1, 0, 0, 0), (.iconst 1, 1, 0, 0, 0), (.iadd, 1, 0, 0, 0), (.iaload, 1, 0, 1, 0), (.aload_n 0, 1, 0, 0, 0), (.iload_n 3, 1, 0, 0, 0), (.iconst 2, 1, 0, 0, 0), (.iadd, 1, 0, 0, 0), (.iaload, 1, 0, 1, 0), (.aload_n 0, 1, 0, 0, 0), (.iload_n 3, 1, 0, 0, 0), (.iconst 3, 1, 0, 0, 0), (.iadd, 1, 0, 0, 0), (.iaload, 1, 0, 1, 0), (.i2l, 1, 0, 0, 0), (.bipush 32, 2, 0, 0, 0), (.lshl, 1, 0, 0, 0), (.aload_n 0, 1, 0, 0, 0), (.iload_n 3, 1, 0, 0, 0), (.iconst 4, 1, 0, 0, 0), (.iadd, 1, 0, 0, 0), (.iaload, 1, 0, 1, 0), (.i2l, 1, 0, 0, 0), (.ldc2_w 50, 3, 0, 0, 4294967295), (.land, 1, 0, 0, 0), (.lor, 1, 0, 0, 0), (.aload_n 0, 1, 0, 0, 0), (.iload_n 3, 1, 0, 0, 0), (.iconst 5, 1, 0, 0, 0), (.iadd, 1, 0, 0, 0), (.iaload, 1, 0, 1, 0), (.invokevirtual 61, 3, 5, 0, 0), (.if_icmp .eq 892, 3, 1579, 0, 0), (.iconst 0, 1, 0, 0, 0), (.ireturn, 1, 0, 0, 0)]
theorem k_L_law_609 : z_chk 16 false cL_law 4 609 b_L_law_609 692 = true := by decide +kernel
def b_L_law_692 : List z_E := [(.aload_n 1, 1, 0, 0, 0), (.aload_n 0, 1, 0, 0, 0), (.iload_n 3, 1, 0, 0, 0), (.iconst 1, 1, 0, 0, 0), (.iadd, 1, 0, 0, 0), (.iaload, 1, 0, 1, 0), (.aload_n 0, 1, 0, 0, 0), (.iload_n 3, 1, 0, 0, 0), (.iconst 2, 1, 0, 0, 0), (.iadd, 1, 0, 0, 0), (.iaload, 1, 0, 1, 0), (.aload_n 0, 1, 0, 0, 0), (.iload_n 3, 1, 0, 0, 0), (.iconst 3, 1, 0, 0, 0), (.iadd, 1, 0, 0, 0), (.iaload, 1, 0, 1, 0), (.invokevirtual 62, 3, 4, 0, 0), (.aload_n 2, 1, 0, 0, 0), (.aload_n 0, 1, 0, 0, 0), (.iload_n 3, 1, 0, 0, 0), (.iconst 1, 1, 0, 0, 0), (.iadd, 1, 0, 0, 0), (.iaload, 1, 0, 1, 0), (.aload_n 0, 1, 0, 0, 0), (.iload_n 3, 1, 0, 0, 0), (.iconst 2, 1, 0, 0, 0), (.iadd, 1, 0, 0, 0), (.iaload, 1, 0, 1, 0), (.aload_n 0, 1, 0, 0, 0), (.iload_n 3, 1, 0, 0, 0), (.iconst 3, 1, 0, 0, 0), (.iadd, 1, 0, 0, 0), (.iaload, 1, 0, 1, 0), (.invokevirtual 65, 3, 4, 0, 0), (.if_icmp .eq 849, 3, 1579, 0, 0), (.iconst 0, 1, 0, 0, 0), (.ireturn, 1, 0, 0, 0)]
theorem k_L_law_692 : z_chk 16 false cL_law 4 692 b_L_law_692 735 = true := by decide +kernel
def b_L_law_735 : List z_E := [(.aload_n 1, 1, 0, 0, 0), (.invokevirtual 66, 3, 1, 0, 0), (.aload_n 2, 1, 0, 0, 0), (.invokevirtual 69, 3, 1, 0, 0), (.if_icmp .eq 836, 3, 1579, 0, 0), (.iconst 0, 1, 0, 0, 0), (.ireturn, 1, 0, 0, 0)]
theorem k_L_law_735 : z_chk 16 false cL_law 4 735 b_L_law_735 748 = true := by decide +kernel
def b_L_law_748 : List z_E := [(.aload_n 1, 1, 0, 0, 0), (.aload_n 0, 1, 0, 0, 0), (.iload_n 3, 1, 0, 0, 0), (.iconst 1, 1, 0, 0, 0), (.iadd, 1, 0, 0, 0), (.iaload, 1, 0, 1, 0), (.invokevirtual 70, 3, 2, 0, 0), (.aload_n 2, 1, 0, 0, 0), (.aload_n 0, 1, 0, 0, 0), (.iload_n 3, 1, 0, 0, 0), (.iconst 1, 1, 0, 0, 0), (.iadd, 1, 0, 0, 0), (.iaload, 1, 0, 1, 0), (.invokevirtual 74, 3, 2, 0, 0), (.if_icmp .eq 813, 3, 1579, 0, 0), (.iconst 0, 1, 0, 0, 0), (.ireturn, 1, 0, 0, 0)]
theorem k_L_law_748 : z_chk 16 false cL_law 4 748 b_L_law_748 771 = true := by decide +kernel
def b_L_law_771 : List z_E := [(.aload_n 1, 1, 0, 0, 0), (.aload_n 0, 1, 0, 0, 0), (.iload_n 3, 1, 0, 0, 0), (.iconst 1, 1, 0, 0, 0), (.iadd, 1, 0, 0, 0), (.iaload, 1, 0, 1, 0), (.aload_n 0, 1, 0, 0, 0), (.iload_n 3, 1, 0, 0, 0), (.iconst 2, 1, 0, 0, 0), (.iadd, 1, 0, 0, 0), (.iaload, 1, 0, 1, 0), (.invokevirtual 75, 3, 3, 0, 0), (.aload_n 2, 1, 0, 0, 0), (.aload_n 0, 1, 0, 0, 0), (.iload_n 3, 1, 0, 0, 0), (.iconst 1, 1, 0, 0, 0), (.iadd, 1, 0, 0, 0), (.iaload, 1, 0, 1, 0), (.aload_n 0, 1, 0, 0, 0), (.iload_n 3, 1, 0, 0, 0), (.iconst 2, 1, 0, 0, 0), (.iadd, 1, 0, 0, 0), (.iaload, 1, 0, 1, 0), (.invokevirtual 78, 3, 3, 0, 0), (.if_icmp .eq 780, 3, 1579, 0, 0), (.iconst 0, 1, 0, 0, 0), (.ireturn, 1, 0, 0, 0)]
theorem k_L_law_771 : z_chk 16 false cL_law 4 771 b_L_law_771 804 = true := by decide +kernel
def b_L_law_804 : List z_E := [(.aload_n 1, 1, 0, 0, 0), (.aload_n 0, 1, 0, 0, 0), (.iload_n 3, 1, 0, 0, 0), (.iconst 1, 1, 0, 0, 0), (.iadd, 1, 0, 0, 0), (.iaload, 1, 0, 1, 0), (.invokevirtual 79, 3, 2, 0, 0), (.aload_n 2, 1, 0, 0, 0), (.aload_n 0, 1, 0, 0, 0), (.iload_n 3, 1, 0, 0, 0), (.iconst 1, 1, 0, 0, 0), (.iadd, 1, 0, 0, 0), (.iaload, 1, 0, 1, 0), (.invokevirtual 83, 3, 2, 0, 0), (.if_icmp .eq 757, 3, 1579, 0, 0), (.iconst 0, 1, 0, 0, 0), (.ireturn, 1, 0, 0, 0)]
theorem k_L_law_804 : z_chk 16 false cL_law 4 804 b_L_law_804 827 = true := by decide +kernel
def b_L_law_827 : List z_E := [(.aload_n 1, 1, 0, 0, 0), (.aload_n 0, 1, 0, 0, 0), (.iload_n 3, 1, 0, 0, 0), (.iconst 1, 1, 0, 0, 0), (.iadd, 1, 0, 0, 0), (.iaload, 1, 0, 1, 0), (.aload_n 0, 1, 0, 0, 0), (.iload_n 3, 1, 0, 0, 0), (.iconst 2, 1, 0, 0, 0), (.iadd, 1, 0, 0, 0), (.iaload, 1, 0, 1, 0), (.aload_n 0, 1, 0, 0, 0), (.iload_n 3, 1, 0, 0, 0), (.iconst 3, 1, 0, 0, 0), (.iadd, 1, 0, 0, 0), (.iaload, 1, 0, 1, 0), (.invokevirtual 84, 3, 4, 0, 0), (.aload_n 2, 1, 0, 0, 0), (.aload_n 0, 1, 0, 0, 0), (.iload_n 3, 1, 0, 0, 0), (.iconst 1, 1, 0, 0, 0), (.iadd, 1, 0, 0, 0), (.iaload, 1, 0, 1, 0), (.aload_n 0, 1, 0, 0, 0), (.iload_n 3, 1, 0, 0, 0), (.iconst 2, 1, 0, 0, 0), (.iadd, 1, 0, 0, 0), (.iaload, 1, 0, 1, 0), (.aload_n 0, 1, 0, 0, 0), (.iload_n 3, 1, 0, 0, 0), (.iconst 3, 1, 0, 0, 0), (.iadd, 1, 0, 0, 0), (.iaload, 1, 0, 1, 0), (.invokevirtual 88, 3, 4, 0, 0), (.lcmp, 1, 0, 0, 0), (.ifCond .eq 713, 3, 1579, 0, 0), (.iconst 0, 1, 0, 0, 0), (.ireturn, 1, 0, 0, 0)]
theorem k_L_law_827 : z_chk 16 false cL_law 4 827 b_L_law_827 871 = true := by decide +kernel
def b_L_law_871 : List z_E := [(.aload_n 1, 1, 0, 0, 0), (.aload_n 0, 1, 0, 0, 0), (.iload_n 3, 1, 0, 0, 0), (.iconst 1, 1, 0, 0, 0), (.iadd, 1, 0, 0, 0), (.iaload, 1, 0, 1, 0), (.aload_n 0, 1, 0, 0, 0), (.iload_n 3, 1, 0, 0, 0), (.iconst 2, 1, 0, 0, 0), (.iadd, 1, 0, 0, 0), (.iaload, 1, 0, 1, 0), (.aload_n 0, 1, 0, 0, 0), (.iload_n 3, 1, 0, 0, 0), (.iconst 3, 1, 0, 0, 0), (.iadd, 1, 0, 0, 0), (.iaload, 1, 0, 1, 0), (.invokevirtual 89, 3, 4, 0, 0), (.aload_n 2, 1, 0, 0, 0), (.aload_n 0, 1, 0, 0, 0), (.iload_n 3, 1, 0, 0, 0), (.iconst 1, 1, 0, 0, 0), (.iadd, 1, 0, 0, 0), (.iaload, 1, 0, 1, 0), (.aload_n 0, 1, 0, 0, 0), (.iload_n 3, 1, 0, 0, 0), (.iconst 2, 1, 0, 0, 0), (.iadd, 1, 0, 0, 0), (.iaload, 1, 0, 1, 0), (.aload_n 0, 1, 0, 0, 0), (.iload_n 3, 1, 0, 0, 0), (.iconst 3, 1, 0, 0, 0), (.iadd, 1, 0, 0, 0), (.iaload, 1, 0, 1, 0), (.invokevirtual 92, 3, 4, 0, 0), (.if_icmp .eq 670, 3, 1579, 0, 0), (.iconst 0, 1, 0, 0, 0), (.ireturn, 1, 0, 0, 0)]
theorem k_L_law_871 : z_chk 16 false cL_law 4 871 b_L_law_871 914 = true := by decide +kernel
def b_L_law_914 : List z_E := [(.aload_n 1, 1, 0, 0, 0), (.aload_n 0, 1, 0, 0, 0), (.iload_n 3, 1, 0, 0, 0), (.iconst 1, 1, 0, 0, 0), (.iadd, 1, 0, 0, 0), (.iaload, 1, 0, 1, 0), (.aload_n 0, 1, 0, 0, 0), (.iload_n 3, 1, 0, 0, 0), (.iconst 2, 1, 0, 0, 0), (.iadd, 1, 0, 0, 0), (.iaload, 1, 0, 1, 0), (.invokevirtual 93, 3, 3, 0, 0), (.aload_n 2, 1, 0, 0, 0), (.aload_n 0, 1, 0, 0, 0), (.iload_n 3, 1, 0, 0, 0), (.iconst 1, 1, 0, 0, 0), (.iadd, 1, 0, 0, 0), (.iaload, 1, 0, 1, 0), (.aload_n 0, 1, 0, 0, 0), (.iload_n 3, 1, 0, 0, 0), (.iconst 2, 1, 0, 0, 0), (.iadd, 1, 0, 0, 0), (.iaload, 1, 0, 1, 0), (.invokevirtual 97, 3, 3, 0, 0), (.if_icmp .eq 637, 3, 1579, 0, 0), (.iconst 0, 1, 0, 0, 0), (.ireturn, 1, 0, 0, 0)]
theorem k_L_law_914 : z_chk 16 false cL_law 4 914 b_L_law_914 947 = true := by decide +kernel
def b_L_law_947 : List z_E := [(.aload_n 1, 1, 0, 0, 0), (.aload_n 0, 1, 0, 0, 0), (.iload_n 3, 1, 0, 0, 0), (.iconst 1, 1, 0, 0, 0), (.iadd, 1, 0, 0, 0), (.iaload, 1, 0, 1, 0), (.aload_n 0, 1, 0, 0, 0), (.iload_n 3, 1, 0, 0, 0), (.iconst 2, 1, 0, 0, 0), (.iadd, 1, 0, 0, 0), (.iaload, 1, 0, 1, 0), (.invokevirtual 98, 3, 3, 0, 0), (.aload_n 2, 1, 0, 0, 0), (.aload_n 0, 1, 0, 0, 0), (.iload_n 3, 1, 0, 0, 0), (.iconst 1, 1, 0, 0, 0), (.iadd, 1, 0, 0, 0), (.iaload, 1, 0, 1, 0), (.aload_n 0, 1, 0, 0, 0), (.iload_n 3, 1, 0, 0, 0), (.iconst 2, 1, 0, 0, 0), (.iadd, 1, 0, 0, 0), (.iaload, 1, 0, 1, 0), (.invokevirtual 102, 3, 3, 0, 0), (.lcmp, 1, 0, 0, 0), (.ifCond .eq 603, 3, 1579, 0, 0), (.iconst 0, 1, 0, 0, 0), (.ireturn, 1, 0, 0, 0)]
theorem k_L_law_947 : z_chk 16 false cL_law 4 947 b_L_law_947 981 = true := by decide +kernel
def b_L_law_981 : List z_E := [(.aload_n 1, 1, 0, 0, 0), (.aload_n 0, 1, 0, 0, 0), (.iload_n 3, 1, 0, 0, 0), (.iconst 1, 1, 0, 0, 0), (.iadd, 1, 0, 0, 0), (.iaload, 1, 0, 1, 0), (.i2l, 1, 0, 0, 0), (.bipush 32, 2, 0, 0, 0), (.lshl, 1, 0, 0, 0), (.aload_n 0, 1, 0, 0, 0), (.iload_n 3, 1, 0, 0, 0), (.iconst 2, 1, 0, 0, 0), (.iadd, 1, 0, 0, 0), (.iaload, 1, 0, 1, 0), (.i2l, 1, 0, 0, 0), (.ldc2_w 50, 3, 0, 0, 4294967295), (.land, 1, 0, 0, 0), (.lor, 1, 0, 0, 0), (.invokevirtual 103, 3, 2, 0, 0), (.aload_n 2, 1, 0, 0, 0), (.aload_n 0, 1, 0, 0, 0), (.iload_n 3, 1, 0, 0, 0), (.iconst 1, 1, 0, 0, 0), (.iadd, 1, 0, 0, 0), (.iaload, 1, 0, 1, 0), (.i2l, 1, 0, 0, 0), (.bipush 32, 2, 0, 0, 0), (.lshl, 1, 0, 0, 0), (.aload_n 0, 1, 0, 0, 0), (.iload_n 3, 1, 0, 0, 0), (.iconst 2, 1, 0, 0, 0), (.iadd, 1, 0, 0, 0), (.iaload, 1, 0, 1, 0), (.i2l, 1, 0, 0, 0), (.ldc2_w 50, 3, 0, 0, 4294967295), (.land, 1, 0, 0, 0), (.lor, 1, 0, 0, 0), (.invokevirtual 107, 3, 2, 0, 0), (.lcmp, 1, 0, 0, 0), (.ifCond .eq 549, 3, 1579, 0, 0), (.iconst 0, 1, 0, 0, 0), (.ireturn, 1, 0, 0, 0)]
theorem k_L_law_981 : z_chk 16 false cL_law 4 981 b_L_law_981 1035 = true := by decide +kernel
def b_L_law_1035 : List z_E := [(.aload_n 1, 1, 0, 0, 0), (.aload_n 0, 1, 0, 0, 0), (.iload_n 3, 1, 0, 0, 0), (.iconst 1, 1, 0, 0, 0), (.iadd, 1, 0, 0, 0), (.iaload, 1, 0, 1, 0), (.aload_n 0, 1, 0, 0, 0), (.iload_n 3, 1, 0, 0, 0), (.iconst 2, 1, 0, 0, 0), (.iadd, 1, 0, 0, 0), (.iaload, 1, 0, 1, 0), (.invokevirtual 108, 3, 3, 0, 0), (.aload_n 2, 1, 0, 0, 0), (.aload_n 0, 1, 0, 0, 0), (.iload_n 3, 1, 0, 0, 0), (.iconst 1, 1, 0, 0, 0), (.iadd, 1, 0, 0, 0), (.iaload, 1, 0, 1, 0), (.aload_n 0, 1, 0, 0, 0), (.iload_n 3, 1, 0, 0, 0), (.iconst 2, 1, 0, 0, 0), (.iadd, 1, 0, 0, 0), (.iaload, 1, 0, 1, 0), (.invokevirtual 111, 3, 3, 0, 0), (.if_icmp .eq 516, 3, 1579, 0, 0), (.iconst 0, 1, 0, 0, 0), (.ireturn, 1, 0, 0, 0)]
theorem k_L_law_1035 : z_chk 16 false cL_law 4 1035 b_L_law_1035 1068 = true := by decide +kernel
def b_L_law_1068 : List z_E := [(.aload_n 1, 1, 0, 0, 0), (.aload_n 0, 1, 0, 0, 0), (.iload_n 3, 1, 0, 0, 0), (.iconst 1, 1, 0, 0, 0), (.iadd, 1, 0, 0, 0), (.iaload, 1, 0, 1, 0), (.aload_n 0, 1, 0, 0, 0), (.iload_n 3, 1, 0, 0, 0), (.iconst 2, 1, 0, 0, 0), (.iadd, 1, 0, 0, 0), (.iaload, 1, 0, 1, 0), (.invokevirtual 112, 3, 3, 0, 0), (.aload_n 2, 1, 0, 0, 0), (.aload_n 0, 1, 0, 0, 0), (.iload_n 3, 1, 0, 0, 0), (.iconst 1, 1, 0, 0, 0), (.iadd, 1, 0, 0, 0), (.iaload, 1, 0, 1, 0), (.aload_n 0, 1, 0, 0, 0), (.iload_n 3, 1, 0, 0, 0), (.iconst 2, 1, 0, 0, 0), (.iadd, 1, 0, 0, 0), (.iaload, 1, 0, 1, 0), (.invokevirtual 115, 3, 3, 0, 0), (.if_icmp .eq 483, 3, 1579, 0, 0), (.iconst 0, 1, 0, 0, 0), (.ireturn, 1, 0, 0, 0)]
theorem k_L_law_1068 : z_chk 16 false cL_law 4 1068 b_L_law_1068 1101 = true := by decide +kernel
def b_L_law_1101 : List z_E := [(.aload_n 1, 1, 0, 0, 0), (.aload_n 0, 1, 0, 0, 0), (.iload_n 3, 1, 0, 0, 0), (.iconst 1, 1, 0, 0, 0), (.iadd, 1, 0, 0, 0), (.iaload, 1, 0, 1, 0), (.invokevirtual 116, 3, 2, 0, 0), (.aload_n 2, 1, 0, 0, 0), (.aload_n 0, 1, 0, 0, 0), (.iload_n 3, 1, 0, 0, 0), (.iconst 1, 1, 0, 0, 0), (.iadd, 1, 0, 0, 0), (.iaload, 1, 0, 1, 0), (.invokevirtual 119, 3, 2, 0, 0), (.lcmp, 1, 0, 0, 0), (.ifCond .eq 459, 3, 1579, 0, 0), (.iconst 0, 1, 0, 0, 0), (.ireturn, 1, 0, 0, 0)]
theorem k_L_law_1101 : z_chk 16 false cL_law 4 1101 b_L_law_1101 1125 = true := by decide +kernel
def b_L_law_1125 : List z_E := [(.aload_n 1, 1, 0, 0, 0), (.aload_n 0, 1, 0, 0, 0), (.iload_n 3, 1, 0, 0, 0), (.iconst 1, 1, 0, 0, 0), (.iadd, 1, 0, 0, 0), (.iaload, 1, 0, 1, 0), (.invokevirtual 120, 3, 2, 0, 0), (.aload_n 2, 1, 0, 0, 0), (.aload_n 0, 1, 0, 0, 0), (.iload_n 3, 1, 0, 0, 0), (.iconst 1, 1, 0, 0, 0), (.iadd, 1, 0, 0, 0), (.iaload, 1, 0, 1, 0), (.invokevirtual 123, 3, 2, 0, 0), (.lcmp, 1, 0, 0, 0), (.ifCond .eq 435, 3, 1579, 0, 0), (.iconst 0, 1, 0, 0, 0), (.ireturn, 1, 0, 0, 0)]
theorem k_L_law_1125 : z_chk 16 false cL_law 4 1125 b_L_law_1125 1149 = true := by decide +kernel
def b_L_law_1149 : List z_E := [(.aload_n 1, 1, 0, 0, 0), (.aload_n 0, 1, 0, 0, 0), (.iload_n 3, 1, 0, 0, 0), (.iconst 1, 1, 0, 0, 0), (.iadd, 1, 0, 0, 0), (.iaload, 1, 0, 1, 0), (.aload_n 0, 1, 0, 0, 0), (.iload_n 3, 1, 0, 0, 0), (.iconst 2, 1, 0, 0, 0), (.iadd, 1, 0, 0, 0), (.iaload, 1, 0, 1, 0), (.invokevirtual 124, 3, 3, 0, 0), (.aload_n 2, 1, 0, 0, 0), (.aload_n 0, 1, 0, 0, 0), (.iload_n 3, 1, 0, 0, 0), (.iconst 1, 1, 0, 0, 0), (.iadd, 1, 0, 0, 0), (.iaload, 1, 0, 1, 0), (.aload_n 0, 1, 0, 0, 0), (.iload_n 3, 1, 0, 0, 0), (.iconst 2, 1, 0, 0, 0), (.iadd, 1, 0, 0, 0), (.iaload, 1, 0, 1, 0), (.invokevirtual 127, 3, 3, 0, 0), (.if_icmp .eq 402, 3, 1579, 0, 0), (.iconst 0, 1, 0, 0, 0), (.ireturn, 1, 0, 0, 0)]
theorem k_L_law_1149 : z_chk 16 false cL_law 4 1149 b_L_law_1149 1182 = true := by decide +kernel
def b_L_law_1182 : List z_E := [(.aload_n 1, 1, 0, 0, 0), (.aload_n 0, 1, 0, 0, 0), (.iload_n 3, 1, 0, 0, 0), (.iconst 1, 1, 0, 0, 0), (.iadd, 1, 0, 0, 0), (.iaload, 1, 0, 1, 0), (.invokevirtual 128, 3, 2, 0, 0), (.aload_n 2, 1, 0, 0, 0), (.aload_n 0, 1, 0, 0, 0), (.iload_n 3, 1, 0, 0, 0), (.iconst 1, 1, 0, 0, 0), (.iadd, 1, 0, 0, 0), (.iaload, 1, 0, 1, 0), (.invokevirtual 131, 3, 2, 0, 0), (.lcmp, 1, 0, 0, 0), (.ifCond .eq 378, 3, 1579, 0, 0), (.iconst 0, 1, 0, 0, 0), (.ireturn, 1, 0, 0, 0)]
theorem k_L_law_1182 : z_chk 16 false cL_law 4 1182 b_L_law_1182 1206 = true := by decide +kernel
def b_L_law_1206 : List z_E := [(.aload_n 1, 1, 0, 0, 0), (.aload_n 0, 1, 0, 0, 0), (.iload_n 3, 1, 0, 0, 0), (.iconst 1, 1, 0, 0, 0), (.iadd, 1, 0, 0, 0), (.iaload, 1, 0, 1, 0), (.aload_n 0, 1, 0, 0, 0), (.iload_n 3, 1, 0, 0, 0), (.iconst 2, 1, 0, 0, 0), (.iadd, 1, 0, 0, 0), (.iaload, 1, 0, 1, 0), (.invokevirtual 132, 3, 3, 0, 0), (.aload_n 2, 1, 0, 0, 0), (.aload_n 0, 1, 0, 0, 0), (.iload_n 3, 1, 0, 0, 0), (.iconst 1, 1, 0, 0, 0), (.iadd, 1, 0, 0, 0), (.iaload, 1, 0, 1, 0), (.aload_n 0, 1, 0, 0, 0), (.iload_n 3, 1, 0, 0, 0), (.iconst 2, 1, 0, 0, 0), (.iadd, 1, 0, 0, 0), (.iaload, 1, 0, 1, 0), (.invokevirtual 135, 3, 3, 0, 0), (.if_icmp .eq 345, 3, 1579, 0, 0), (.iconst 0, 1, 0, 0, 0), (.ireturn, 1, 0, 0, 0)]
theorem k_L_law_1206 : z_chk 16 false cL_law 4 1206 b_L_law_1206 1239 = true := by decide +kernel
def b_L_law_1239 : List z_E := [(.aload_n 1, 1, 0, 0, 0), (.aload_n 0, 1, 0, 0, 0), (.iload_n 3, 1, 0, 0, 0), (.iconst 1, 1, 0, 0, 0), (.iadd, 1, 0, 0, 0), (.iaload, 1, 0, 1, 0), (.aload_n 0, 1, 0, 0, 0), (.iload_n 3, 1, 0, 0, 0), (.iconst 2, 1, 0, 0, 0), (.iadd, 1, 0, 0, 0), (.iaload, 1, 0, 1, 0), (.invokevirtual 136, 3, 3, 0, 0), (.aload_n 2, 1, 0, 0, 0), (.aload_n 0, 1, 0, 0, 0), (.iload_n 3, 1, 0, 0, 0), (.iconst 1, 1, 0, 0, 0), (.iadd, 1, 0, 0, 0), (.iaload, 1, 0, 1, 0), (.aload_n 0, 1, 0, 0, 0), (.iload_n 3, 1, 0, 0, 0), (.iconst 2, 1, 0, 0, 0), (.iadd, 1, 0, 0, 0), (.iaload, 1, 0, 1, 0), (.invokevirtual 139, 3, 3, 0, 0), (.if_icmp .eq 312, 3, 1579, 0, 0), (.iconst 0, 1, 0, 0, 0), (.ireturn, 1, 0, 0, 0)]
theorem k_L_law_1239 : z_chk 16 false cL_law 4 1239 b_L_law_1239 1272 = true := by decide +kernel
def b_L_law_1272 : List z_E := [(.aload_n 1, 1, 0, 0, 0), (.aload_n 0, 1, 0, 0, 0), (.iload_n 3, 1, 0, 0, 0), (.iconst 1, 1, 0, 0, 0), (.iadd, 1, 0, 0, 0), (.iaload, 1, 0, 1, 0), (.invokevirtual 140, 3, 2, 0, 0), (.aload_n 2, 1, 0, 0, 0), (.aload_n 0, 1, 0, 0, 0), (.iload_n 3, 1, 0, 0, 0), (.iconst 1, 1, 0, 0, 0), (.iadd, 1, 0, 0, 0), (.iaload, 1, 0, 1, 0), (.invokevirtual 143, 3, 2, 0, 0), (.lcmp, 1, 0, 0, 0), (.ifCond .eq 288, 3, 1579, 0, 0), (.iconst 0, 1, 0, 0, 0), (.ireturn, 1, 0, 0, 0)]
theorem k_L_law_1272 : z_chk 16 false cL_law 4 1272 b_L_law_1272 1296 = true := by decide +kernel
def b_L_law_1296 : List z_E := [(.aload_n 1, 1, 0, 0, 0), (.aload_n 0, 1, 0, 0, 0), (.iload_n 3, 1, 0, 0, 0), (.iconst 1, 1, 0, 0, 0), (.iadd, 1, 0, 0, 0), (.iaload, 1, 0, 1, 0), (.aload_n 0, 1, 0, 0, 0), (.iload_n 3, 1, 0, 0, 0), (.iconst 2, 1, 0, 0, 0), (.iadd, 1, 0, 0, 0), (.iaload, 1, 0, 1, 0), (.invokevirtual 144, 3, 3, 0, 0), (.aload_n 2, 1, 0, 0, 0), (.aload_n 0, 1, 0, 0, 0), (.iload_n 3, 1, 0, 0, 0), (.iconst 1, 1, 0, 0, 0), (.iadd, 1, 0, 0, 0), (.iaload, 1, 0, 1, 0), (.aload_n 0, 1, 0, 0, 0), (.iload_n 3, 1, 0, 0, 0), (.iconst 2, 1, 0, 0, 0), (.iadd, 1, 0, 0, 0), (.iaload, 1, 0, 1, 0), (.invokevirtual 147, 3, 3, 0, 0), (.lcmp, 1, 0, 0, 0), (.ifCond .eq 254, 3, 1579, 0, 0), (.iconst 0, 1, 0, 0, 0), (.ireturn, 1, 0, 0, 0)]
theorem k_L_law_1296 : z_chk 16 false cL_law 4 1296 b_L_law_1296 1330 = true := by decide +kernel
def b_L_law_1330 : List z_E := [(.aload_n 1, 1, 0, 0, 0), (.aload_n 0, 1, 0, 0, 0), (.iload_n 3, 1, 0, 0, 0), (.iconst 1, 1, 0, 0, 0), (.iadd, 1, 0, 0, 0), (.iaload, 1, 0, 1, 0), (.invokevirtual 148, 3, 2, 0, 0), (.aload_n 2, 1, 0, 0, 0), (.aload_n 0, 1, 0, 0, 0), (.iload_n 3, 1, 0, 0, 0), (.iconst 1, 1, 0, 0, 0), (.iadd, 1, 0, 0, 0), (.iaload, 1, 0, 1, 0), (.invokevirtual 151, 3, 2, 0, 0), (.if_icmp .eq 231, 3, 1579, 0, 0), (.iconst 0, 1, 0, 0, 0), (.ireturn, 1, 0, 0, 0)]
theorem k_L_law_1330 : z_chk 16 false cL_law 4 1330 b_L_law_1330 1353 = true := by decide +kernel
def b_L_law_1353 : List z_E := [(.aload_n 1, 1, 0, 0, 0), (.aload_n 0, 1, 0, 0, 0), (.iload_n 3, 1, 0, 0, 0), (.iconst 1, 1, 0, 0, 0), (.iadd, 1, 0, 0, 0), (.iaload, 1, 0, 1, 0), (.invokevirtual 152, 3, 2, 0, 0), (.aload_n 2, 1, 0, 0, 0), (.aload_n 0, 1, 0, 0, 0), (.iload_n 3, 1, 0, 0, 0), (.iconst 1, 1, 0, 0, 0), (.iadd, 1, 0, 0, 0), (.iaload, 1, 0, 1, 0), (.invokevirtual 155, 3, 2, 0, 0), (.lcmp, 1, 0, 0, 0), (.ifCond .eq 207, 3, 1579, 0, 0), (.iconst 0, 1, 0, 0, 0), (.ireturn, 1, 0, 0, 0)]
theorem k_L_law_1353 : z_chk 16 false cL_law 4 1353 b_L_law_1353 1377 = true := by decide +kernel
def b_L_law_1377 : List z_E := [(.aload_n 1, 1, 0, 0, 0), (.aload_n 0, 1, 0, 0, 0), (.iload_n 3, 1, 0, 0, 0), (.iconst 1, 1, 0, 0, 0), (.iadd, 1, 0, 0, 0), (.iaload, 1, 0, 1, 0), (.aload_n 0, 1, 0, 0, 0), (.iload_n 3, 1, 0, 0, 0), (.iconst 2, 1, 0, 0, 0), (.iadd, 1, 0, 0, 0), (.iaload, 1, 0, 1, 0), (.aload_n 0, 1, 0, 0, 0), (.iload_n 3, 1, 0, 0, 0), (.iconst 3, 1, 0, 0, 0), (.iadd, 1, 0, 0, 0), (.iaload, 1, 0, 1, 0), (.invokevirtual 156, 3, 4, 0, 0), (.aload_n 2, 1, 0, 0, 0), (.aload_n 0, 1, 0, 0, 0), (.iload_n 3, 1, 0, 0, 0), (.iconst 1, 1, 0, 0, 0), (.iadd, 1, 0, 0, 0), (.iaload, 1, 0, 1, 0), (.aload_n 0, 1, 0, 0, 0), (.iload_n 3, 1, 0, 0, 0), (.iconst 2, 1, 0, 0, 0), (.iadd, 1, 0, 0, 0), (.iaload, 1, 0, 1, 0), (.aload_n 0, 1, 0, 0, 0), (.iload_n 3, 1, 0, 0, 0), (.iconst 3, 1, 0, 0, 0), (.iadd, 1, 0, 0, 0), (.iaload, 1, 0, 1, 0), (.invokevirtual 159, 3, 4, 0, 0), (.if_icmp .eq 164, 3, 1579, 0, 0), (.iconst 0, 1, 0, 0, 0), (.ireturn, 1, 0, 0, 0)]
theorem k_L_law_1377 : z_chk 16 false cL_law 4 1377 b_L_law_1377 1420 = true := by decide +kernel
def b_L_law_1420 : List z_E := [(.aload_n 1, 1, 0, 0, 0), (.aload_n 0, 1, 0, 0, 0), (.iload_n 3, 1, 0, 0, 0), (.iconst 1, 1, 0, 0, 0), (.iadd, 1, 0, 0, 0), (.iaload, 1, 0, 1, 0), (.invokevirtual 160, 3, 2, 0, 0), (.aload_n 2, 1, 0, 0, 0), (.aload_n 0, 1, 0, 0, 0), (.iload_n 3, 1, 0, 0, 0), (.iconst 1, 1, 0, 0, 0), (.iadd, 1, 0, 0, 0), (.iaload, 1, 0, 1, 0), (.invokevirtual 163, 3, 2, 0, 0), (.if_icmp .eq 141, 3, 1579, 0, 0), (.iconst 0, 1, 0, 0, 0), (.ireturn, 1, 0, 0, 0)]
theorem k_L_law_1420 : z_chk 16 false cL_law 4 1420 b_L_law_1420 1443 = true := by decide +kernel
def b_L_law_1443 : List z_E := [(.aload_n 1, 1, 0, 0, 0), (.aload_n 0, 1, 0, 0, 0), (.iload_n 3, 1, 0, 0, 0), (.iconst 1, 1, 0, 0, 0), (.iadd, 1, 0, 0, 0), (.iaload, 1, 0, 1, 0), (.aload_n 0, 1, 0, 0, 0), (.iload_n 3, 1, 0, 0, 0), (.iconst 2, 1, 0, 0, 0), (.iadd, 1, 0, 0, 0), (.iaload, 1, 0, 1, 0), (.aload_n 0, 1, 0, 0, 0), (.iload_n 3, 1, 0, 0, 0), (.iconst 3, 1, 0, 0, 0), (.iadd, 1, 0, 0, 0), (.iaload, 1, 0, 1, 0), (.i2l, 1, 0, 0, 0), (.bipush 32, 2, 0, 0, 0), (.lshl, 1, 0, 0, 0), (.aload_n 0, 1, 0, 0, 0), (.iload_n 3, 1, 0, 0, 0), (.iconst 4, 1, 0, 0, 0), (.iadd, 1, 0, 0, 0), (.iaload, 1, 0, 1, 0), (.i2l, 1, 0, 0, 0), (.ldc2_w 50, 3, 0, 0, 4294967295), (.land, 1, 0, 0, 0), (.lor, 1, 0, 0, 0), (.invokevirtual 164, 3, 4, 0, 0), (.aload_n 2, 1, 0, 0, 0), (.aload_n 0, 1, 0, 0, 0), (.iload_n 3, 1, 0, 0, 0), (.iconst 1, 1, 0, 0, 0), (.iadd, 1, 0, 0, 0), (.iaload, 1, 0, 1, 0), (.aload_n 0, 1, 0, 0, 0), (.iload_n 3, 1, 0, 0, 0), (.iconst 2, 1, 0, 0, 0), (.iadd, 1, 0, 0, 0), (.iaload, 1, 0, 1, 0), (.aload_n 0, 1, 0, 0, 0), (.iload_n 3, 1, 0, 0, 0), (.iconst 3, 1, 0, 0, 0), (.iadd, 1, 0, 0, 0), (.iaload, 1, 0, 1, 0), (.i2l, 1, 0, 0, 0), (.bipush 32, 2, 0, 0, 0), (.lshl, 1, 0, 0, 0), (.aload_n 0, 1, 0, 0, 0), (.iload_n 3, 1, 0, 0, 0), (.iconst 4, 1, 0, 0, 0), (.iadd, 1, 0, 0, 0), (.iaload, 1, 0, 1, 0), (.i2l, 1, 0, 0, 0), (.ldc2_w 50, 3, 0, 0, 4294967295), (.land, 1, 0, 0, 0), (.lor, 1, 0, 0, 0), (.invokevirtual 168, 3, 4, 0, 0), (.if_icmp .eq 68, 3, 1579, 0, 0), (.iconst 0, 1, 0, 0, 0), (.ireturn, 1, 0, 0, 0)]
theorem k_L_law_1443 : z_chk 16 false cL_law 4 1443 b_L_law_1443 1516 = true := by decide +kernel
def b_L_law_1516 : List z_E := [(.aload_n 1, 1, 0, 0, 0), (.aload_n 0, 1, 0, 0, 0), (.iload_n 3, 1, 0, 0, 0), (.iconst 1, 1, 0, 0, 0), (.iadd, 1, 0, 0, 0), (.iaload, 1, 0, 1, 0), (.aload_n 0, 1, 0, 0, 0), (.iload_n 3, 1, 0, 0, 0), (.iconst 2, 1, 0, 0, 0), (.iadd, 1, 0, 0, 0), (.iaload, 1, 0, 1, 0), (.aload_n 0, 1, 0, 0, 0), (.iload_n 3, 1, 0, 0, 0), (.iconst 3, 1, 0, 0, 0), (.iadd, 1, 0, 0, 0), (.iaload, 1, 0, 1, 0), (.aload_n 0, 1, 0, 0, 0), (.iload_n 3, 1, 0, 0, 0), (.iconst 4, 1, 0, 0, 0), (.iadd, 1, 0, 0, 0), (.iaload, 1, 0, 1, 0), (.aload_n 0, 1, 0, 0, 0), (.iload_n 3, 1, 0, 0, 0), (.iconst 5, 1, 0, 0, 0), (.iadd, 1, 0, 0, 0), (.iaload, 1, 0, 1, 0), (.invokevirtual 169, 3, 6, 0, 0), (.aload_n 2, 1, 0, 0, 0), (.aload_n 0, 1, 0, 0, 0), (.iload_n 3, 1, 0, 0, 0), (.iconst 1, 1, 0, 0, 0), (.iadd, 1, 0, 0, 0), (.iaload, 1, 0, 1, 0), (.aload_n 0, 1, 0, 0, 0), (.iload_n 3, 1, 0, 0, 0), (.iconst 2, 1, 0, 0, 0), (.iadd, 1, 0, 0, 0), (.iaload, 1, 0, 1, 0), (.aload_n 0, 1, 0, 0, 0), (.iload_n 3, 1, 0, 0, 0), (.iconst 3, 1, 0, 0, 0), (.iadd, 1, 0, 0, 0), (.iaload, 1, 0, 1, 0), (.aload_n 0, 1, 0, 0, 0), (.iload_n 3, 1, 0, 0, 0), (.iconst 4, 1, 0, 0, 0), (.iadd, 1, 0, 0, 0), (.iaload, 1, 0, 1, 0), (.aload_n 0, 1, 0, 0, 0), (.iload_n 3, 1, 0, 0, 0), (.iconst 5, 1, 0, 0, 0), (.iadd, 1, 0, 0, 0), (.iaload, 1, 0, 1, 0), (.invokevirtual 173, 3, 6, 0, 0), (.if_icmp .eq 5, 3, 1579, 0, 0), (.iconst 0, 1, 0, 0, 0), (.ireturn, 1, 0, 0, 0)]
theorem k_L_law_1516 : z_chk 16 false cL_law 4 1516 b_L_law_1516 1579 = true := by decide +kernel
def b_L_law_1579 : List z_E := [(.iinc 3 9, 3, 0, 0, 0), (.goto (-1564), 3, 18, 0, 0)]
theorem k_L_law_1579 : z_chk 16 false cL_law 4 1579 b_L_law_1579 1585 = true := by decide +kernel
def b_L_law_1585 : List z_E := [(.iconst 1, 1, 0, 0, 0), (.ireturn, 1, 0, 0, 0)]
theorem k_L_law_1585 : z_chk 16 false cL_law 4 1585 b_L_law_1585 1587 = true := by decide +kernel
end
section
theorem cq_X11_init : z_cq 2 yX11_init cX11_init 2 none 1 := ⟨z_ix 68 (by decide +kernel), z_ix 39 (by decide +kernel), by decide +kernel, by decide, ⟨z_ix 67 (by decide +kernel), rfl, rfl⟩⟩
theorem lk_L_9 : z_ck RL 9 2 yX11_init cX11_init 2 none 1 := ⟨cq_X11_init, z_ix 66 (by decide +kernel)⟩
theorem cq_X12_init : z_cq 2 yX12_init cX12_init 2 none 1 := ⟨z_ix 950 (by decide +kernel), z_ix 52 (by decide +kernel), by decide +kernel, by decide, ⟨z_ix 949 (by decide +kernel), rfl, rfl⟩⟩
theorem lk_L_12 : z_ck RL 12 2 yX12_init cX12_init 2 none 1 := ⟨cq_X12_init, z_ix 948 (by decide +kernel)⟩
theorem cq_X11_terms : z_cq 0 yX11_terms cX11_terms 10 (some .int) 9 := ⟨z_ix 352 (by decide +kernel), z_ix 39 (by decide +kernel), by decide +kernel, by decide, ⟨z_ix 350 (by decide +kernel), z_ix 351 (by decide +kernel)⟩⟩
theorem lk_L_13 : z_ck RL 13 0 yX11_terms cX11_terms 10 (some .int) 9 := ⟨cq_X11_terms, z_ix 349 (by decide +kernel)⟩
theorem cq_X12_terms : z_cq 0 yX12_terms cX12_terms 9 (some .int) 9 := ⟨z_ix 1184 (by decide +kernel), z_ix 52 (by decide +kernel), by decide +kernel, by decide, ⟨z_ix 1182 (by decide +kernel), z_ix 1183 (by decide +kernel)⟩⟩
theorem lk_L_17 : z_ck RL 17 0 yX12_terms cX12_terms 9 (some .int) 9 := ⟨cq_X12_terms, z_ix 1181 (by decide +kernel)⟩
theorem cq_X11_kind : z_cq 0 yX11_kind cX11_kind 4 (some .int) 4 := ⟨z_ix 364 (by decide +kernel), z_ix 39 (by decide +kernel), by decide +kernel, by decide, ⟨z_ix 362 (by decide +kernel), z_ix 363 (by decide +kernel)⟩⟩
theorem lk_L_18 : z_ck RL 18 0 yX11_kind cX11_kind 4 (some .int) 4 := ⟨cq_X11_kind, z_ix 361 (by decide +kernel)⟩
theorem cq_X12_kind : z_cq 0 yX12_kind cX12_kind 4 (some .int) 4 := ⟨z_ix 1193 (by decide +kernel), z_ix 52 (by decide +kernel), by decide +kernel, by decide, ⟨z_ix 1191 (by decide +kernel), z_ix 1192 (by decide +kernel)⟩⟩
theorem lk_L_22 : z_ck RL 22 0 yX12_kind cX12_kind 4 (some .int) 4 := ⟨cq_X12_kind, z_ix 1190 (by decide +kernel)⟩
theorem cq_X11_account : z_cq 0 yX11_account cX11_account 1 (some .int) 1 := ⟨z_ix 398 (by decide +kernel), z_ix 39 (by decide +kernel), by decide +kernel, by decide, ⟨z_ix 396 (by decide +kernel), z_ix 397 (by decide +kernel)⟩⟩
theorem lk_L_23 : z_ck RL 23 0 yX11_account cX11_account 1 (some .int) 1 := ⟨cq_X11_account, z_ix 395 (by decide +kernel)⟩
theorem cq_X12_account : z_cq 0 yX12_account cX12_account 1 (some .int) 1 := ⟨z_ix 1197 (by decide +kernel), z_ix 52 (by decide +kernel), by decide +kernel, by decide, ⟨z_ix 1195 (by decide +kernel), z_ix 1196 (by decide +kernel)⟩⟩
theorem lk_L_27 : z_ck RL 27 0 yX12_account cX12_account 1 (some .int) 1 := ⟨cq_X12_account, z_ix 1194 (by decide +kernel)⟩
theorem cq_X11_attorney : z_cq 0 yX11_attorney cX11_attorney 5 (some .int) 4 := ⟨z_ix 440 (by decide +kernel), z_ix 39 (by decide +kernel), by decide +kernel, by decide, ⟨z_ix 438 (by decide +kernel), z_ix 439 (by decide +kernel)⟩⟩
theorem lk_L_28 : z_ck RL 28 0 yX11_attorney cX11_attorney 5 (some .int) 4 := ⟨cq_X11_attorney, z_ix 437 (by decide +kernel)⟩
theorem cq_X12_attorney : z_cq 0 yX12_attorney cX12_attorney 4 (some .int) 4 := ⟨z_ix 1201 (by decide +kernel), z_ix 52 (by decide +kernel), by decide +kernel, by decide, ⟨z_ix 1199 (by decide +kernel), z_ix 1200 (by decide +kernel)⟩⟩
theorem lk_L_31 : z_ck RL 31 0 yX12_attorney cX12_attorney 4 (some .int) 4 := ⟨cq_X12_attorney, z_ix 1198 (by decide +kernel)⟩
theorem cq_X11_take : z_cq 0 yX11_take cX11_take 7 (some .int) 4 := ⟨z_ix 464 (by decide +kernel), z_ix 39 (by decide +kernel), by decide +kernel, by decide, ⟨z_ix 462 (by decide +kernel), z_ix 463 (by decide +kernel)⟩⟩
theorem lk_L_32 : z_ck RL 32 0 yX11_take cX11_take 7 (some .int) 4 := ⟨cq_X11_take, z_ix 461 (by decide +kernel)⟩
theorem cq_X12_take : z_cq 0 yX12_take cX12_take 10 (some .int) 4 := ⟨z_ix 1211 (by decide +kernel), z_ix 52 (by decide +kernel), by decide +kernel, by decide, ⟨z_ix 1209 (by decide +kernel), z_ix 1210 (by decide +kernel)⟩⟩
theorem lk_L_35 : z_ck RL 35 0 yX12_take cX12_take 10 (some .int) 4 := ⟨cq_X12_take, z_ix 1208 (by decide +kernel)⟩
theorem cq_X11_redeem : z_cq 0 yX11_redeem cX11_redeem 8 (some .long) 2 := ⟨z_ix 602 (by decide +kernel), z_ix 39 (by decide +kernel), by decide +kernel, by decide, ⟨z_ix 600 (by decide +kernel), z_ix 601 (by decide +kernel)⟩⟩
theorem lk_L_36 : z_ck RL 36 0 yX11_redeem cX11_redeem 8 (some .long) 2 := ⟨cq_X11_redeem, z_ix 599 (by decide +kernel)⟩
theorem cq_X12_redeem : z_cq 0 yX12_redeem cX12_redeem 5 (some .long) 2 := ⟨z_ix 1239 (by decide +kernel), z_ix 52 (by decide +kernel), by decide +kernel, by decide, ⟨z_ix 1237 (by decide +kernel), z_ix 1238 (by decide +kernel)⟩⟩
theorem lk_L_40 : z_ck RL 40 0 yX12_redeem cX12_redeem 5 (some .long) 2 := ⟨cq_X12_redeem, z_ix 1236 (by decide +kernel)⟩
theorem cq_X11_prolong : z_cq 0 yX11_prolong cX11_prolong 5 (some .long) 2 := ⟨z_ix 626 (by decide +kernel), z_ix 39 (by decide +kernel), by decide +kernel, by decide, ⟨z_ix 624 (by decide +kernel), z_ix 625 (by decide +kernel)⟩⟩
theorem lk_L_41 : z_ck RL 41 0 yX11_prolong cX11_prolong 5 (some .long) 2 := ⟨cq_X11_prolong, z_ix 623 (by decide +kernel)⟩
theorem cq_X12_prolong : z_cq 0 yX12_prolong cX12_prolong 4 (some .long) 2 := ⟨z_ix 1255 (by decide +kernel), z_ix 52 (by decide +kernel), by decide +kernel, by decide, ⟨z_ix 1253 (by decide +kernel), z_ix 1254 (by decide +kernel)⟩⟩
theorem lk_L_44 : z_ck RL 44 0 yX12_prolong cX12_prolong 4 (some .long) 2 := ⟨cq_X12_prolong, z_ix 1252 (by decide +kernel)⟩
theorem cq_X11_give : z_cq 0 yX11_give cX11_give 5 (some .int) 3 := ⟨z_ix 630 (by decide +kernel), z_ix 39 (by decide +kernel), by decide +kernel, by decide, ⟨z_ix 628 (by decide +kernel), z_ix 629 (by decide +kernel)⟩⟩
theorem lk_L_45 : z_ck RL 45 0 yX11_give cX11_give 5 (some .int) 3 := ⟨cq_X11_give, z_ix 627 (by decide +kernel)⟩
theorem cq_X12_give : z_cq 0 yX12_give cX12_give 3 (some .int) 3 := ⟨z_ix 1259 (by decide +kernel), z_ix 52 (by decide +kernel), by decide +kernel, by decide, ⟨z_ix 1257 (by decide +kernel), z_ix 1258 (by decide +kernel)⟩⟩
theorem lk_L_49 : z_ck RL 49 0 yX12_give cX12_give 3 (some .int) 3 := ⟨cq_X12_give, z_ix 1256 (by decide +kernel)⟩
theorem cq_X11_order : z_cq 0 yX11_order cX11_order 8 (some .int) 6 := ⟨z_ix 634 (by decide +kernel), z_ix 39 (by decide +kernel), by decide +kernel, by decide, ⟨z_ix 632 (by decide +kernel), z_ix 633 (by decide +kernel)⟩⟩
theorem lk_L_52 : z_ck RL 52 0 yX11_order cX11_order 8 (some .int) 6 := ⟨cq_X11_order, z_ix 631 (by decide +kernel)⟩
theorem cq_X12_order : z_cq 0 yX12_order cX12_order 7 (some .int) 6 := ⟨z_ix 1263 (by decide +kernel), z_ix 52 (by decide +kernel), by decide +kernel, by decide, ⟨z_ix 1261 (by decide +kernel), z_ix 1262 (by decide +kernel)⟩⟩
theorem lk_L_56 : z_ck RL 56 0 yX12_order cX12_order 7 (some .int) 6 := ⟨cq_X12_order, z_ix 1260 (by decide +kernel)⟩
theorem cq_X11_bill : z_cq 0 yX11_bill cX11_bill 6 (some .int) 5 := ⟨z_ix 697 (by decide +kernel), z_ix 39 (by decide +kernel), by decide +kernel, by decide, ⟨z_ix 695 (by decide +kernel), z_ix 696 (by decide +kernel)⟩⟩
theorem lk_L_57 : z_ck RL 57 0 yX11_bill cX11_bill 6 (some .int) 5 := ⟨cq_X11_bill, z_ix 694 (by decide +kernel)⟩
theorem cq_X12_bill : z_cq 0 yX12_bill cX12_bill 6 (some .int) 5 := ⟨z_ix 1273 (by decide +kernel), z_ix 52 (by decide +kernel), by decide +kernel, by decide, ⟨z_ix 1271 (by decide +kernel), z_ix 1272 (by decide +kernel)⟩⟩
theorem lk_L_61 : z_ck RL 61 0 yX12_bill cX12_bill 6 (some .int) 5 := ⟨cq_X12_bill, z_ix 1270 (by decide +kernel)⟩
theorem cq_X11_slip : z_cq 0 yX11_slip cX11_slip 5 (some .int) 4 := ⟨z_ix 701 (by decide +kernel), z_ix 39 (by decide +kernel), by decide +kernel, by decide, ⟨z_ix 699 (by decide +kernel), z_ix 700 (by decide +kernel)⟩⟩
theorem lk_L_62 : z_ck RL 62 0 yX11_slip cX11_slip 5 (some .int) 4 := ⟨cq_X11_slip, z_ix 698 (by decide +kernel)⟩
theorem cq_X12_slip : z_cq 0 yX12_slip cX12_slip 5 (some .int) 4 := ⟨z_ix 1277 (by decide +kernel), z_ix 52 (by decide +kernel), by decide +kernel, by decide, ⟨z_ix 1275 (by decide +kernel), z_ix 1276 (by decide +kernel)⟩⟩
theorem lk_L_65 : z_ck RL 65 0 yX12_slip cX12_slip 5 (some .int) 4 := ⟨cq_X12_slip, z_ix 1274 (by decide +kernel)⟩
theorem cq_X11_close : z_cq 0 yX11_close cX11_close 2 (some .int) 1 := ⟨z_ix 714 (by decide +kernel), z_ix 39 (by decide +kernel), by decide +kernel, by decide, ⟨z_ix 712 (by decide +kernel), z_ix 713 (by decide +kernel)⟩⟩
theorem lk_L_66 : z_ck RL 66 0 yX11_close cX11_close 2 (some .int) 1 := ⟨cq_X11_close, z_ix 711 (by decide +kernel)⟩
theorem cq_X12_close : z_cq 0 yX12_close cX12_close 6 (some .int) 1 := ⟨z_ix 1282 (by decide +kernel), z_ix 52 (by decide +kernel), by decide +kernel, by decide, ⟨z_ix 1280 (by decide +kernel), z_ix 1281 (by decide +kernel)⟩⟩
theorem lk_L_69 : z_ck RL 69 0 yX12_close cX12_close 6 (some .int) 1 := ⟨cq_X12_close, z_ix 1279 (by decide +kernel)⟩
theorem cq_X11_suspects : z_cq 0 yX11_suspects cX11_suspects 2 (some .int) 2 := ⟨z_ix 764 (by decide +kernel), z_ix 39 (by decide +kernel), by decide +kernel, by decide, ⟨z_ix 762 (by decide +kernel), z_ix 763 (by decide +kernel)⟩⟩
theorem lk_L_70 : z_ck RL 70 0 yX11_suspects cX11_suspects 2 (some .int) 2 := ⟨cq_X11_suspects, z_ix 761 (by decide +kernel)⟩
theorem cq_X12_suspects : z_cq 0 yX12_suspects cX12_suspects 6 (some .int) 2 := ⟨z_ix 1298 (by decide +kernel), z_ix 52 (by decide +kernel), by decide +kernel, by decide, ⟨z_ix 1296 (by decide +kernel), z_ix 1297 (by decide +kernel)⟩⟩
theorem lk_L_74 : z_ck RL 74 0 yX12_suspects cX12_suspects 6 (some .int) 2 := ⟨cq_X12_suspects, z_ix 1295 (by decide +kernel)⟩
theorem cq_X11_suspect : z_cq 0 yX11_suspect cX11_suspect 3 (some .int) 3 := ⟨z_ix 789 (by decide +kernel), z_ix 39 (by decide +kernel), by decide +kernel, by decide, ⟨z_ix 787 (by decide +kernel), z_ix 788 (by decide +kernel)⟩⟩
theorem lk_L_75 : z_ck RL 75 0 yX11_suspect cX11_suspect 3 (some .int) 3 := ⟨cq_X11_suspect, z_ix 786 (by decide +kernel)⟩
theorem cq_X12_suspect : z_cq 0 yX12_suspect cX12_suspect 3 (some .int) 3 := ⟨z_ix 1308 (by decide +kernel), z_ix 52 (by decide +kernel), by decide +kernel, by decide, ⟨z_ix 1306 (by decide +kernel), z_ix 1307 (by decide +kernel)⟩⟩
theorem lk_L_78 : z_ck RL 78 0 yX12_suspect cX12_suspect 3 (some .int) 3 := ⟨cq_X12_suspect, z_ix 1305 (by decide +kernel)⟩
theorem cq_X11_mend : z_cq 0 yX11_mend cX11_mend 4 (some .boolean) 2 := ⟨z_ix 793 (by decide +kernel), z_ix 39 (by decide +kernel), by decide +kernel, by decide, ⟨z_ix 791 (by decide +kernel), z_ix 792 (by decide +kernel)⟩⟩
theorem lk_L_79 : z_ck RL 79 0 yX11_mend cX11_mend 4 (some .boolean) 2 := ⟨cq_X11_mend, z_ix 790 (by decide +kernel)⟩
theorem cq_X12_mend : z_cq 0 yX12_mend cX12_mend 3 (some .boolean) 2 := ⟨z_ix 1312 (by decide +kernel), z_ix 52 (by decide +kernel), by decide +kernel, by decide, ⟨z_ix 1310 (by decide +kernel), z_ix 1311 (by decide +kernel)⟩⟩
theorem lk_L_83 : z_ck RL 83 0 yX12_mend cX12_mend 3 (some .boolean) 2 := ⟨cq_X12_mend, z_ix 1309 (by decide +kernel)⟩
theorem cq_X11_weighed : z_cq 0 yX11_weighed cX11_weighed 6 (some .long) 4 := ⟨z_ix 801 (by decide +kernel), z_ix 39 (by decide +kernel), by decide +kernel, by decide, ⟨z_ix 799 (by decide +kernel), z_ix 800 (by decide +kernel)⟩⟩
theorem lk_L_84 : z_ck RL 84 0 yX11_weighed cX11_weighed 6 (some .long) 4 := ⟨cq_X11_weighed, z_ix 798 (by decide +kernel)⟩
theorem cq_X12_weighed : z_cq 0 yX12_weighed cX12_weighed 15 (some .long) 4 := ⟨z_ix 1316 (by decide +kernel), z_ix 52 (by decide +kernel), by decide +kernel, by decide, ⟨z_ix 1314 (by decide +kernel), z_ix 1315 (by decide +kernel)⟩⟩
theorem lk_L_88 : z_ck RL 88 0 yX12_weighed cX12_weighed 15 (some .long) 4 := ⟨cq_X12_weighed, z_ix 1313 (by decide +kernel)⟩
theorem cq_X11_loan : z_cq 0 yX11_loan cX11_loan 7 (some .int) 4 := ⟨z_ix 807 (by decide +kernel), z_ix 39 (by decide +kernel), by decide +kernel, by decide, ⟨z_ix 805 (by decide +kernel), z_ix 806 (by decide +kernel)⟩⟩
theorem lk_L_89 : z_ck RL 89 0 yX11_loan cX11_loan 7 (some .int) 4 := ⟨cq_X11_loan, z_ix 804 (by decide +kernel)⟩
theorem cq_X12_loan : z_cq 0 yX12_loan cX12_loan 7 (some .int) 4 := ⟨z_ix 1323 (by decide +kernel), z_ix 52 (by decide +kernel), by decide +kernel, by decide, ⟨z_ix 1321 (by decide +kernel), z_ix 1322 (by decide +kernel)⟩⟩
theorem lk_L_92 : z_ck RL 92 0 yX12_loan cX12_loan 7 (some .int) 4 := ⟨cq_X12_loan, z_ix 1320 (by decide +kernel)⟩
theorem cq_X11_tell : z_cq 0 yX11_tell cX11_tell 4 (some .boolean) 3 := ⟨z_ix 826 (by decide +kernel), z_ix 39 (by decide +kernel), by decide +kernel, by decide, ⟨z_ix 824 (by decide +kernel), z_ix 825 (by decide +kernel)⟩⟩
theorem lk_L_93 : z_ck RL 93 0 yX11_tell cX11_tell 4 (some .boolean) 3 := ⟨cq_X11_tell, z_ix 823 (by decide +kernel)⟩
theorem cq_X12_tell : z_cq 0 yX12_tell cX12_tell 3 (some .boolean) 3 := ⟨z_ix 1327 (by decide +kernel), z_ix 52 (by decide +kernel), by decide +kernel, by decide, ⟨z_ix 1325 (by decide +kernel), z_ix 1326 (by decide +kernel)⟩⟩
theorem lk_L_97 : z_ck RL 97 0 yX12_tell cX12_tell 3 (some .boolean) 3 := ⟨cq_X12_tell, z_ix 1324 (by decide +kernel)⟩
theorem cq_X11_gap : z_cq 0 yX11_gap cX11_gap 8 (some .long) 3 := ⟨z_ix 835 (by decide +kernel), z_ix 39 (by decide +kernel), by decide +kernel, by decide, ⟨z_ix 833 (by decide +kernel), z_ix 834 (by decide +kernel)⟩⟩
theorem lk_L_98 : z_ck RL 98 0 yX11_gap cX11_gap 8 (some .long) 3 := ⟨cq_X11_gap, z_ix 832 (by decide +kernel)⟩
theorem cq_X12_gap : z_cq 0 yX12_gap cX12_gap 6 (some .long) 3 := ⟨z_ix 1332 (by decide +kernel), z_ix 52 (by decide +kernel), by decide +kernel, by decide, ⟨z_ix 1330 (by decide +kernel), z_ix 1331 (by decide +kernel)⟩⟩
theorem lk_L_102 : z_ck RL 102 0 yX12_gap cX12_gap 6 (some .long) 3 := ⟨cq_X12_gap, z_ix 1329 (by decide +kernel)⟩
theorem cq_X11_run : z_cq 0 yX11_run cX11_run 5 (some .long) 2 := ⟨z_ix 840 (by decide +kernel), z_ix 39 (by decide +kernel), by decide +kernel, by decide, ⟨z_ix 838 (by decide +kernel), z_ix 839 (by decide +kernel)⟩⟩
theorem lk_L_103 : z_ck RL 103 0 yX11_run cX11_run 5 (some .long) 2 := ⟨cq_X11_run, z_ix 837 (by decide +kernel)⟩
theorem cq_X12_run : z_cq 0 yX12_run cX12_run 5 (some .long) 2 := ⟨z_ix 1337 (by decide +kernel), z_ix 52 (by decide +kernel), by decide +kernel, by decide, ⟨z_ix 1335 (by decide +kernel), z_ix 1336 (by decide +kernel)⟩⟩
theorem lk_L_107 : z_ck RL 107 0 yX12_run cX12_run 5 (some .long) 2 := ⟨cq_X12_run, z_ix 1334 (by decide +kernel)⟩
theorem cq_X11_accountOf : z_cq 0 yX11_accountOf cX11_accountOf 4 (some .int) 3 := ⟨z_ix 852 (by decide +kernel), z_ix 39 (by decide +kernel), by decide +kernel, by decide, ⟨z_ix 850 (by decide +kernel), z_ix 851 (by decide +kernel)⟩⟩
theorem lk_L_108 : z_ck RL 108 0 yX11_accountOf cX11_accountOf 4 (some .int) 3 := ⟨cq_X11_accountOf, z_ix 849 (by decide +kernel)⟩
theorem cq_X12_accountOf : z_cq 0 yX12_accountOf cX12_accountOf 5 (some .int) 3 := ⟨z_ix 1349 (by decide +kernel), z_ix 52 (by decide +kernel), by decide +kernel, by decide, ⟨z_ix 1347 (by decide +kernel), z_ix 1348 (by decide +kernel)⟩⟩
theorem lk_L_111 : z_ck RL 111 0 yX12_accountOf cX12_accountOf 5 (some .int) 3 := ⟨cq_X12_accountOf, z_ix 1346 (by decide +kernel)⟩
theorem cq_X11_folio : z_cq 0 yX11_folio cX11_folio 4 (some .int) 3 := ⟨z_ix 856 (by decide +kernel), z_ix 39 (by decide +kernel), by decide +kernel, by decide, ⟨z_ix 854 (by decide +kernel), z_ix 855 (by decide +kernel)⟩⟩
theorem lk_L_112 : z_ck RL 112 0 yX11_folio cX11_folio 4 (some .int) 3 := ⟨cq_X11_folio, z_ix 853 (by decide +kernel)⟩
theorem cq_X12_folio : z_cq 0 yX12_folio cX12_folio 5 (some .int) 3 := ⟨z_ix 1353 (by decide +kernel), z_ix 52 (by decide +kernel), by decide +kernel, by decide, ⟨z_ix 1351 (by decide +kernel), z_ix 1352 (by decide +kernel)⟩⟩
theorem lk_L_115 : z_ck RL 115 0 yX12_folio cX12_folio 5 (some .int) 3 := ⟨cq_X12_folio, z_ix 1350 (by decide +kernel)⟩
theorem cq_X11_balance : z_cq 0 yX11_balance cX11_balance 3 (some .long) 2 := ⟨z_ix 871 (by decide +kernel), z_ix 39 (by decide +kernel), by decide +kernel, by decide, ⟨z_ix 869 (by decide +kernel), z_ix 870 (by decide +kernel)⟩⟩
theorem lk_L_116 : z_ck RL 116 0 yX11_balance cX11_balance 3 (some .long) 2 := ⟨cq_X11_balance, z_ix 868 (by decide +kernel)⟩
theorem cq_X12_balance : z_cq 0 yX12_balance cX12_balance 2 (some .long) 2 := ⟨z_ix 1357 (by decide +kernel), z_ix 52 (by decide +kernel), by decide +kernel, by decide, ⟨z_ix 1355 (by decide +kernel), z_ix 1356 (by decide +kernel)⟩⟩
theorem lk_L_119 : z_ck RL 119 0 yX12_balance cX12_balance 2 (some .long) 2 := ⟨cq_X12_balance, z_ix 1354 (by decide +kernel)⟩
theorem cq_X11_written : z_cq 0 yX11_written cX11_written 3 (some .long) 2 := ⟨z_ix 875 (by decide +kernel), z_ix 39 (by decide +kernel), by decide +kernel, by decide, ⟨z_ix 873 (by decide +kernel), z_ix 874 (by decide +kernel)⟩⟩
theorem lk_L_120 : z_ck RL 120 0 yX11_written cX11_written 3 (some .long) 2 := ⟨cq_X11_written, z_ix 872 (by decide +kernel)⟩
theorem cq_X12_written : z_cq 0 yX12_written cX12_written 5 (some .long) 2 := ⟨z_ix 1361 (by decide +kernel), z_ix 52 (by decide +kernel), by decide +kernel, by decide, ⟨z_ix 1359 (by decide +kernel), z_ix 1360 (by decide +kernel)⟩⟩
theorem lk_L_123 : z_ck RL 123 0 yX12_written cX12_written 5 (some .long) 2 := ⟨cq_X12_written, z_ix 1358 (by decide +kernel)⟩
theorem cq_X11_line : z_cq 0 yX11_line cX11_line 4 (some .int) 3 := ⟨z_ix 883 (by decide +kernel), z_ix 39 (by decide +kernel), by decide +kernel, by decide, ⟨z_ix 881 (by decide +kernel), z_ix 882 (by decide +kernel)⟩⟩
theorem lk_L_124 : z_ck RL 124 0 yX11_line cX11_line 4 (some .int) 3 := ⟨cq_X11_line, z_ix 880 (by decide +kernel)⟩
theorem cq_X12_line : z_cq 0 yX12_line cX12_line 3 (some .int) 3 := ⟨z_ix 1365 (by decide +kernel), z_ix 52 (by decide +kernel), by decide +kernel, by decide, ⟨z_ix 1363 (by decide +kernel), z_ix 1364 (by decide +kernel)⟩⟩
theorem lk_L_127 : z_ck RL 127 0 yX12_line cX12_line 3 (some .int) 3 := ⟨cq_X12_line, z_ix 1362 (by decide +kernel)⟩
theorem cq_X11_lineSum : z_cq 0 yX11_lineSum cX11_lineSum 3 (some .long) 2 := ⟨z_ix 887 (by decide +kernel), z_ix 39 (by decide +kernel), by decide +kernel, by decide, ⟨z_ix 885 (by decide +kernel), z_ix 886 (by decide +kernel)⟩⟩
theorem lk_L_128 : z_ck RL 128 0 yX11_lineSum cX11_lineSum 3 (some .long) 2 := ⟨cq_X11_lineSum, z_ix 884 (by decide +kernel)⟩
theorem cq_X12_lineSum : z_cq 0 yX12_lineSum cX12_lineSum 2 (some .long) 2 := ⟨z_ix 1369 (by decide +kernel), z_ix 52 (by decide +kernel), by decide +kernel, by decide, ⟨z_ix 1367 (by decide +kernel), z_ix 1368 (by decide +kernel)⟩⟩
theorem lk_L_131 : z_ck RL 131 0 yX12_lineSum cX12_lineSum 2 (some .long) 2 := ⟨cq_X12_lineSum, z_ix 1366 (by decide +kernel)⟩
theorem cq_X11_orderOf : z_cq 0 yX11_orderOf cX11_orderOf 4 (some .int) 3 := ⟨z_ix 891 (by decide +kernel), z_ix 39 (by decide +kernel), by decide +kernel, by decide, ⟨z_ix 889 (by decide +kernel), z_ix 890 (by decide +kernel)⟩⟩
theorem lk_L_132 : z_ck RL 132 0 yX11_orderOf cX11_orderOf 4 (some .int) 3 := ⟨cq_X11_orderOf, z_ix 888 (by decide +kernel)⟩
theorem cq_X12_orderOf : z_cq 0 yX12_orderOf cX12_orderOf 3 (some .int) 3 := ⟨z_ix 1373 (by decide +kernel), z_ix 52 (by decide +kernel), by decide +kernel, by decide, ⟨z_ix 1371 (by decide +kernel), z_ix 1372 (by decide +kernel)⟩⟩
theorem lk_L_135 : z_ck RL 135 0 yX12_orderOf cX12_orderOf 3 (some .int) 3 := ⟨cq_X12_orderOf, z_ix 1370 (by decide +kernel)⟩
theorem cq_X11_receipt : z_cq 0 yX11_receipt cX11_receipt 4 (some .int) 3 := ⟨z_ix 895 (by decide +kernel), z_ix 39 (by decide +kernel), by decide +kernel, by decide, ⟨z_ix 893 (by decide +kernel), z_ix 894 (by decide +kernel)⟩⟩
theorem lk_L_136 : z_ck RL 136 0 yX11_receipt cX11_receipt 4 (some .int) 3 := ⟨cq_X11_receipt, z_ix 892 (by decide +kernel)⟩
theorem cq_X12_receipt : z_cq 0 yX12_receipt cX12_receipt 3 (some .int) 3 := ⟨z_ix 1377 (by decide +kernel), z_ix 52 (by decide +kernel), by decide +kernel, by decide, ⟨z_ix 1375 (by decide +kernel), z_ix 1376 (by decide +kernel)⟩⟩
theorem lk_L_139 : z_ck RL 139 0 yX12_receipt cX12_receipt 3 (some .int) 3 := ⟨cq_X12_receipt, z_ix 1374 (by decide +kernel)⟩
theorem cq_X11_book : z_cq 0 yX11_book cX11_book 3 (some .long) 2 := ⟨z_ix 899 (by decide +kernel), z_ix 39 (by decide +kernel), by decide +kernel, by decide, ⟨z_ix 897 (by decide +kernel), z_ix 898 (by decide +kernel)⟩⟩
theorem lk_L_140 : z_ck RL 140 0 yX11_book cX11_book 3 (some .long) 2 := ⟨cq_X11_book, z_ix 896 (by decide +kernel)⟩
theorem cq_X12_book : z_cq 0 yX12_book cX12_book 2 (some .long) 2 := ⟨z_ix 1381 (by decide +kernel), z_ix 52 (by decide +kernel), by decide +kernel, by decide, ⟨z_ix 1379 (by decide +kernel), z_ix 1380 (by decide +kernel)⟩⟩
theorem lk_L_143 : z_ck RL 143 0 yX12_book cX12_book 2 (some .long) 2 := ⟨cq_X12_book, z_ix 1378 (by decide +kernel)⟩
theorem cq_X11_vault : z_cq 0 yX11_vault cX11_vault 4 (some .long) 3 := ⟨z_ix 903 (by decide +kernel), z_ix 39 (by decide +kernel), by decide +kernel, by decide, ⟨z_ix 901 (by decide +kernel), z_ix 902 (by decide +kernel)⟩⟩
theorem lk_L_144 : z_ck RL 144 0 yX11_vault cX11_vault 4 (some .long) 3 := ⟨cq_X11_vault, z_ix 900 (by decide +kernel)⟩
theorem cq_X12_vault : z_cq 0 yX12_vault cX12_vault 3 (some .long) 3 := ⟨z_ix 1385 (by decide +kernel), z_ix 52 (by decide +kernel), by decide +kernel, by decide, ⟨z_ix 1383 (by decide +kernel), z_ix 1384 (by decide +kernel)⟩⟩
theorem lk_L_147 : z_ck RL 147 0 yX12_vault cX12_vault 3 (some .long) 3 := ⟨cq_X12_vault, z_ix 1382 (by decide +kernel)⟩
theorem cq_X11_count : z_cq 0 yX11_count cX11_count 2 (some .int) 2 := ⟨z_ix 907 (by decide +kernel), z_ix 39 (by decide +kernel), by decide +kernel, by decide, ⟨z_ix 905 (by decide +kernel), z_ix 906 (by decide +kernel)⟩⟩
theorem lk_L_148 : z_ck RL 148 0 yX11_count cX11_count 2 (some .int) 2 := ⟨cq_X11_count, z_ix 904 (by decide +kernel)⟩
theorem cq_X12_count : z_cq 0 yX12_count cX12_count 4 (some .int) 2 := ⟨z_ix 1389 (by decide +kernel), z_ix 52 (by decide +kernel), by decide +kernel, by decide, ⟨z_ix 1387 (by decide +kernel), z_ix 1388 (by decide +kernel)⟩⟩
theorem lk_L_151 : z_ck RL 151 0 yX12_count cX12_count 4 (some .int) 2 := ⟨cq_X12_count, z_ix 1386 (by decide +kernel)⟩
theorem cq_X11_sum : z_cq 0 yX11_sum cX11_sum 2 (some .long) 2 := ⟨z_ix 915 (by decide +kernel), z_ix 39 (by decide +kernel), by decide +kernel, by decide, ⟨z_ix 913 (by decide +kernel), z_ix 914 (by decide +kernel)⟩⟩
theorem lk_L_152 : z_ck RL 152 0 yX11_sum cX11_sum 2 (some .long) 2 := ⟨cq_X11_sum, z_ix 912 (by decide +kernel)⟩
theorem cq_X12_sum : z_cq 0 yX12_sum cX12_sum 2 (some .long) 2 := ⟨z_ix 1393 (by decide +kernel), z_ix 52 (by decide +kernel), by decide +kernel, by decide, ⟨z_ix 1391 (by decide +kernel), z_ix 1392 (by decide +kernel)⟩⟩
theorem lk_L_155 : z_ck RL 155 0 yX12_sum cX12_sum 2 (some .long) 2 := ⟨cq_X12_sum, z_ix 1390 (by decide +kernel)⟩
theorem cq_X11_row : z_cq 0 yX11_row cX11_row 5 (some .int) 4 := ⟨z_ix 919 (by decide +kernel), z_ix 39 (by decide +kernel), by decide +kernel, by decide, ⟨z_ix 917 (by decide +kernel), z_ix 918 (by decide +kernel)⟩⟩
theorem lk_L_156 : z_ck RL 156 0 yX11_row cX11_row 5 (some .int) 4 := ⟨cq_X11_row, z_ix 916 (by decide +kernel)⟩
theorem cq_X12_row : z_cq 0 yX12_row cX12_row 5 (some .int) 4 := ⟨z_ix 1158 (by decide +kernel), z_ix 52 (by decide +kernel), by decide +kernel, by decide, ⟨z_ix 1156 (by decide +kernel), z_ix 1157 (by decide +kernel)⟩⟩
theorem lk_L_159 : z_ck RL 159 0 yX12_row cX12_row 5 (some .int) 4 := ⟨cq_X12_row, z_ix 1155 (by decide +kernel)⟩
theorem cq_X11_tear : z_cq 0 yX11_tear cX11_tear 3 (some .boolean) 2 := ⟨z_ix 928 (by decide +kernel), z_ix 39 (by decide +kernel), by decide +kernel, by decide, ⟨z_ix 926 (by decide +kernel), z_ix 927 (by decide +kernel)⟩⟩
theorem lk_L_160 : z_ck RL 160 0 yX11_tear cX11_tear 3 (some .boolean) 2 := ⟨cq_X11_tear, z_ix 925 (by decide +kernel)⟩
theorem cq_X12_tear : z_cq 0 yX12_tear cX12_tear 2 (some .boolean) 2 := ⟨z_ix 1169 (by decide +kernel), z_ix 52 (by decide +kernel), by decide +kernel, by decide, ⟨z_ix 1167 (by decide +kernel), z_ix 1168 (by decide +kernel)⟩⟩
theorem lk_L_163 : z_ck RL 163 0 yX12_tear cX12_tear 2 (some .boolean) 2 := ⟨cq_X12_tear, z_ix 1166 (by decide +kernel)⟩
theorem cq_X11_write : z_cq 0 yX11_write cX11_write 6 (some .int) 4 := ⟨z_ix 932 (by decide +kernel), z_ix 39 (by decide +kernel), by decide +kernel, by decide, ⟨z_ix 930 (by decide +kernel), z_ix 931 (by decide +kernel)⟩⟩
theorem lk_L_164 : z_ck RL 164 0 yX11_write cX11_write 6 (some .int) 4 := ⟨cq_X11_write, z_ix 929 (by decide +kernel)⟩
theorem cq_X12_write : z_cq 0 yX12_write cX12_write 5 (some .int) 4 := ⟨z_ix 1173 (by decide +kernel), z_ix 52 (by decide +kernel), by decide +kernel, by decide, ⟨z_ix 1171 (by decide +kernel), z_ix 1172 (by decide +kernel)⟩⟩
theorem lk_L_168 : z_ck RL 168 0 yX12_write cX12_write 5 (some .int) 4 := ⟨cq_X12_write, z_ix 1170 (by decide +kernel)⟩
theorem cq_X11_paste : z_cq 0 yX11_paste cX11_paste 8 (some .int) 6 := ⟨z_ix 940 (by decide +kernel), z_ix 39 (by decide +kernel), by decide +kernel, by decide, ⟨z_ix 938 (by decide +kernel), z_ix 939 (by decide +kernel)⟩⟩
theorem lk_L_169 : z_ck RL 169 0 yX11_paste cX11_paste 8 (some .int) 6 := ⟨cq_X11_paste, z_ix 937 (by decide +kernel)⟩
theorem cq_X12_paste : z_cq 0 yX12_paste cX12_paste 7 (some .int) 6 := ⟨z_ix 1180 (by decide +kernel), z_ix 52 (by decide +kernel), by decide +kernel, by decide, ⟨z_ix 1178 (by decide +kernel), z_ix 1179 (by decide +kernel)⟩⟩
theorem lk_L_173 : z_ck RL 173 0 yX12_paste cX12_paste 7 (some .int) 6 := ⟨cq_X12_paste, z_ix 1177 (by decide +kernel)⟩
theorem cq_X1_pulled : z_cq 0 yX1_pulled cX1_pulled 5 (some .long) 2 := ⟨z_ix 752 (by decide +kernel), z_ix 50 (by decide +kernel), by decide +kernel, by decide, ⟨z_ix 750 (by decide +kernel), z_ix 751 (by decide +kernel)⟩⟩
theorem lk_X1_18 : z_ck RX1 18 0 yX1_pulled cX1_pulled 5 (some .long) 2 := ⟨cq_X1_pulled, z_ix 749 (by decide +kernel)⟩
theorem cq_X1_clamp : z_cq 1 yX1_clamp cX1_clamp 6 (some .long) 3 := ⟨z_ix 756 (by decide +kernel), z_ix 50 (by decide +kernel), by decide +kernel, by decide, z_ix 755 (by decide +kernel)⟩
theorem lk_X1_25 : z_ck RX1 25 1 yX1_clamp cX1_clamp 6 (some .long) 3 := ⟨cq_X1_clamp, z_ix 754 (by decide +kernel)⟩
theorem cq_J9_min_f86c9 : z_cq 1 yJ9_min_f86c9 cJ9_min_f86c9 4 (some .long) 2 := ⟨z_ix 487 (by decide +kernel), z_ix 46 (by decide +kernel), by decide +kernel, by decide, z_ix 486 (by decide +kernel)⟩
theorem lk_X1_54 : z_ck RX1 54 1 yJ9_min_f86c9 cJ9_min_f86c9 4 (some .long) 2 := ⟨cq_J9_min_f86c9, z_ix 757 (by decide +kernel)⟩
theorem cq_J9_max_f86c9 : z_cq 1 yJ9_max_f86c9 cJ9_max_f86c9 4 (some .long) 2 := ⟨z_ix 490 (by decide +kernel), z_ix 46 (by decide +kernel), by decide +kernel, by decide, z_ix 489 (by decide +kernel)⟩
theorem lk_X1_60 : z_ck RX1 60 1 yJ9_max_f86c9 cJ9_max_f86c9 4 (some .long) 2 := ⟨cq_J9_max_f86c9, z_ix 758 (by decide +kernel)⟩
theorem cq_X2_takes : z_cq 0 yX2_takes cX2_takes 3 (some .boolean) 2 := ⟨z_ix 484 (by decide +kernel), z_ix 53 (by decide +kernel), by decide +kernel, by decide, ⟨z_ix 482 (by decide +kernel), z_ix 483 (by decide +kernel)⟩⟩
theorem lk_X10_27 : z_ck RX10 27 0 yX2_takes cX2_takes 3 (some .boolean) 2 := ⟨cq_X2_takes, z_ix 481 (by decide +kernel)⟩
theorem lk_X10_37 : z_ck RX10 37 1 yJ9_min_f86c9 cJ9_min_f86c9 4 (some .long) 2 := ⟨cq_J9_min_f86c9, z_ix 485 (by decide +kernel)⟩
theorem lk_X10_46 : z_ck RX10 46 1 yJ9_max_f86c9 cJ9_max_f86c9 4 (some .long) 2 := ⟨cq_J9_max_f86c9, z_ix 488 (by decide +kernel)⟩
theorem cq_X9_init : z_cq 2 yX9_init cX9_init 1 none 1 := ⟨z_ix 76 (by decide +kernel), z_ix 40 (by decide +kernel), by decide +kernel, by decide, ⟨z_ix 75 (by decide +kernel), rfl, rfl⟩⟩
theorem lk_X11_9 : z_ck RX11 9 2 yX9_init cX9_init 1 none 1 := ⟨cq_X9_init, z_ix 74 (by decide +kernel)⟩
theorem cq_X8_init : z_cq 2 yX8_init cX8_init 1 none 1 := ⟨z_ix 145 (by decide +kernel), z_ix 44 (by decide +kernel), by decide +kernel, by decide, ⟨z_ix 144 (by decide +kernel), rfl, rfl⟩⟩
theorem lk_X11_40 : z_ck RX11 40 2 yX8_init cX8_init 1 none 1 := ⟨cq_X8_init, z_ix 143 (by decide +kernel)⟩
theorem cq_X3_init : z_cq 2 yX3_init cX3_init 1 none 1 := ⟨z_ix 233 (by decide +kernel), z_ix 49 (by decide +kernel), by decide +kernel, by decide, ⟨z_ix 232 (by decide +kernel), rfl, rfl⟩⟩
theorem lk_X11_47 : z_ck RX11 47 2 yX3_init cX3_init 1 none 1 := ⟨cq_X3_init, z_ix 231 (by decide +kernel)⟩
theorem cq_X1_init : z_cq 2 yX1_init cX1_init 1 none 1 := ⟨z_ix 263 (by decide +kernel), z_ix 50 (by decide +kernel), by decide +kernel, by decide, ⟨z_ix 262 (by decide +kernel), rfl, rfl⟩⟩
theorem lk_X11_54 : z_ck RX11 54 2 yX1_init cX1_init 1 none 1 := ⟨cq_X1_init, z_ix 261 (by decide +kernel)⟩
theorem cq_X10_init : z_cq 2 yX10_init cX10_init 1 none 1 := ⟨z_ix 290 (by decide +kernel), z_ix 51 (by decide +kernel), by decide +kernel, by decide, ⟨z_ix 289 (by decide +kernel), rfl, rfl⟩⟩
theorem lk_X11_61 : z_ck RX11 61 2 yX10_init cX10_init 1 none 1 := ⟨cq_X10_init, z_ix 288 (by decide +kernel)⟩
theorem cq_X11_within : z_cq 1 yX11_within cX11_within 6 (some .boolean) 3 := ⟨z_ix 356 (by decide +kernel), z_ix 39 (by decide +kernel), by decide +kernel, by decide, z_ix 355 (by decide +kernel)⟩
theorem lk_X11_68 : z_ck RX11 68 1 yX11_within cX11_within 6 (some .boolean) 3 := ⟨cq_X11_within, z_ix 354 (by decide +kernel)⟩
theorem cq_X2_init : z_cq 2 yX2_init cX2_init 5 none 5 := ⟨z_ix 373 (by decide +kernel), z_ix 53 (by decide +kernel), by decide +kernel, by decide, ⟨z_ix 372 (by decide +kernel), rfl, rfl⟩⟩
theorem lk_X11_111 : z_ck RX11 111 2 yX2_init cX2_init 5 none 5 := ⟨cq_X2_init, z_ix 371 (by decide +kernel)⟩
theorem cq_X0_init : z_cq 2 yX0_init cX0_init 2 none 2 := ⟨z_ix 403 (by decide +kernel), z_ix 54 (by decide +kernel), by decide +kernel, by decide, ⟨z_ix 402 (by decide +kernel), rfl, rfl⟩⟩
theorem lk_X11_116 : z_ck RX11 116 2 yX0_init cX0_init 2 none 2 := ⟨cq_X0_init, z_ix 401 (by decide +kernel)⟩
theorem cq_X11_accountAt : z_cq 0 yX11_accountAt cX11_accountAt 2 (some (.object "CityBank$Account")) 2 := ⟨z_ix 444 (by decide +kernel), z_ix 39 (by decide +kernel), by decide +kernel, by decide, ⟨z_ix 443 (by decide +kernel), z_ix 3 (by decide +kernel)⟩⟩
theorem lk_X11_119 : z_ck RX11 119 0 yX11_accountAt cX11_accountAt 2 (some (.object "CityBank$Account")) 2 := ⟨cq_X11_accountAt, z_ix 441 (by decide +kernel)⟩
theorem cq_X11_kindAt : z_cq 0 yX11_kindAt cX11_kindAt 2 (some (.object "CityBank$Kind")) 2 := ⟨z_ix 468 (by decide +kernel), z_ix 39 (by decide +kernel), by decide +kernel, by decide, ⟨z_ix 467 (by decide +kernel), z_ix 4 (by decide +kernel)⟩⟩
theorem lk_X11_133 : z_ck RX11 133 0 yX11_kindAt cX11_kindAt 2 (some (.object "CityBank$Kind")) 2 := ⟨cq_X11_kindAt, z_ix 465 (by decide +kernel)⟩
theorem cq_X11_slotAt : z_cq 0 yX11_slotAt cX11_slotAt 2 (some (.object "CityBank$Slot")) 2 := ⟨z_ix 472 (by decide +kernel), z_ix 39 (by decide +kernel), by decide +kernel, by decide, ⟨z_ix 471 (by decide +kernel), z_ix 5 (by decide +kernel)⟩⟩
theorem lk_X11_137 : z_ck RX11 137 0 yX11_slotAt cX11_slotAt 2 (some (.object "CityBank$Slot")) 2 := ⟨cq_X11_slotAt, z_ix 469 (by decide +kernel)⟩
theorem cq_X11_room : z_cq 0 yX11_room cX11_room 1 (some .int) 1 := ⟨z_ix 476 (by decide +kernel), z_ix 39 (by decide +kernel), by decide +kernel, by decide, ⟨z_ix 475 (by decide +kernel), z_ix 6 (by decide +kernel)⟩⟩
theorem lk_X11_145 : z_ck RX11 145 0 yX11_room cX11_room 1 (some .int) 1 := ⟨cq_X11_room, z_ix 473 (by decide +kernel)⟩
theorem cq_X10_weigh : z_cq 0 yX10_weigh cX10_weigh 6 none 3 := ⟨z_ix 480 (by decide +kernel), z_ix 51 (by decide +kernel), by decide +kernel, by decide, ⟨z_ix 478 (by decide +kernel), z_ix 479 (by decide +kernel)⟩⟩
theorem lk_X11_148 : z_ck RX11 148 0 yX10_weigh cX10_weigh 6 none 3 := ⟨cq_X10_weigh, z_ix 477 (by decide +kernel)⟩
theorem cq_X11_bringIn : z_cq 0 yX11_bringIn cX11_bringIn 7 none 5 := ⟨z_ix 494 (by decide +kernel), z_ix 39 (by decide +kernel), by decide +kernel, by decide, ⟨z_ix 493 (by decide +kernel), z_ix 7 (by decide +kernel)⟩⟩
theorem lk_X11_158 : z_ck RX11 158 0 yX11_bringIn cX11_bringIn 7 none 5 := ⟨cq_X11_bringIn, z_ix 491 (by decide +kernel)⟩
theorem cq_X11_openReceiptAt : z_cq 0 yX11_openReceiptAt cX11_openReceiptAt 3 (some (.object "CityBank$Receipt")) 2 := ⟨z_ix 606 (by decide +kernel), z_ix 39 (by decide +kernel), by decide +kernel, by decide, ⟨z_ix 605 (by decide +kernel), z_ix 8 (by decide +kernel)⟩⟩
theorem lk_X11_162 : z_ck RX11 162 0 yX11_openReceiptAt cX11_openReceiptAt 3 (some (.object "CityBank$Receipt")) 2 := ⟨cq_X11_openReceiptAt, z_ix 603 (by decide +kernel)⟩
theorem cq_X11_feeOn : z_cq 0 yX11_feeOn cX11_feeOn 2 (some .long) 2 := ⟨z_ix 615 (by decide +kernel), z_ix 39 (by decide +kernel), by decide +kernel, by decide, ⟨z_ix 614 (by decide +kernel), z_ix 10 (by decide +kernel)⟩⟩
theorem lk_X11_174 : z_ck RX11 174 0 yX11_feeOn cX11_feeOn 2 (some .long) 2 := ⟨cq_X11_feeOn, z_ix 612 (by decide +kernel)⟩
theorem cq_X11_payOut : z_cq 0 yX11_payOut cX11_payOut 4 none 3 := ⟨z_ix 622 (by decide +kernel), z_ix 39 (by decide +kernel), by decide +kernel, by decide, ⟨z_ix 621 (by decide +kernel), z_ix 11 (by decide +kernel)⟩⟩
theorem lk_X11_203 : z_ck RX11 203 0 yX11_payOut cX11_payOut 4 none 3 := ⟨cq_X11_payOut, z_ix 619 (by decide +kernel)⟩
theorem cq_X11_letWait : z_cq 0 yX11_letWait cX11_letWait 10 (some .int) 7 := ⟨z_ix 639 (by decide +kernel), z_ix 39 (by decide +kernel), by decide +kernel, by decide, ⟨z_ix 638 (by decide +kernel), z_ix 12 (by decide +kernel)⟩⟩
theorem lk_X11_218 : z_ck RX11 218 0 yX11_letWait cX11_letWait 10 (some .int) 7 := ⟨cq_X11_letWait, z_ix 636 (by decide +kernel)⟩
theorem cq_X11_orderAt : z_cq 0 yX11_orderAt cX11_orderAt 2 (some (.object "CityBank$Order")) 2 := ⟨z_ix 705 (by decide +kernel), z_ix 39 (by decide +kernel), by decide +kernel, by decide, ⟨z_ix 704 (by decide +kernel), z_ix 13 (by decide +kernel)⟩⟩
theorem lk_X11_222 : z_ck RX11 222 0 yX11_orderAt cX11_orderAt 2 (some (.object "CityBank$Order")) 2 := ⟨cq_X11_orderAt, z_ix 702 (by decide +kernel)⟩
theorem cq_X11_slipIsAsTold : z_cq 0 yX11_slipIsAsTold cX11_slipIsAsTold 4 (some .boolean) 4 := ⟨z_ix 709 (by decide +kernel), z_ix 39 (by decide +kernel), by decide +kernel, by decide, ⟨z_ix 708 (by decide +kernel), z_ix 14 (by decide +kernel)⟩⟩
theorem lk_X11_229 : z_ck RX11 229 0 yX11_slipIsAsTold cX11_slipIsAsTold 4 (some .boolean) 4 := ⟨cq_X11_slipIsAsTold, z_ix 706 (by decide +kernel)⟩
theorem cq_X11_carryOutOrders : z_cq 0 yX11_carryOutOrders cX11_carryOutOrders 5 (some .int) 1 := ⟨z_ix 718 (by decide +kernel), z_ix 39 (by decide +kernel), by decide +kernel, by decide, ⟨z_ix 717 (by decide +kernel), z_ix 15 (by decide +kernel)⟩⟩
theorem lk_X11_239 : z_ck RX11 239 0 yX11_carryOutOrders cX11_carryOutOrders 5 (some .int) 1 := ⟨cq_X11_carryOutOrders, z_ix 715 (by decide +kernel)⟩
theorem cq_X11_lapseReceipts : z_cq 0 yX11_lapseReceipts cX11_lapseReceipts 3 none 1 := ⟨z_ix 744 (by decide +kernel), z_ix 39 (by decide +kernel), by decide +kernel, by decide, ⟨z_ix 743 (by decide +kernel), z_ix 19 (by decide +kernel)⟩⟩
theorem lk_X11_242 : z_ck RX11 242 0 yX11_lapseReceipts cX11_lapseReceipts 3 none 1 := ⟨cq_X11_lapseReceipts, z_ix 741 (by decide +kernel)⟩
theorem cq_X1_settleAgio : z_cq 0 yX1_settleAgio cX1_settleAgio 4 none 2 := ⟨z_ix 748 (by decide +kernel), z_ix 50 (by decide +kernel), by decide +kernel, by decide, ⟨z_ix 746 (by decide +kernel), z_ix 747 (by decide +kernel)⟩⟩
theorem lk_X11_245 : z_ck RX11 245 0 yX1_settleAgio cX1_settleAgio 4 none 2 := ⟨cq_X1_settleAgio, z_ix 745 (by decide +kernel)⟩
theorem cq_X3_findSuspects : z_cq 0 yX3_findSuspects cX3_findSuspects 7 (some .int) 2 := ⟨z_ix 768 (by decide +kernel), z_ix 49 (by decide +kernel), by decide +kernel, by decide, ⟨z_ix 766 (by decide +kernel), z_ix 767 (by decide +kernel)⟩⟩
theorem lk_X11_249 : z_ck RX11 249 0 yX3_findSuspects cX3_findSuspects 7 (some .int) 2 := ⟨cq_X3_findSuspects, z_ix 765 (by decide +kernel)⟩
theorem cq_X3_lineAt : z_cq 0 yX3_lineAt cX3_lineAt 2 (some (.object "CityBank$Line")) 2 := ⟨z_ix 797 (by decide +kernel), z_ix 49 (by decide +kernel), by decide +kernel, by decide, ⟨z_ix 795 (by decide +kernel), z_ix 796 (by decide +kernel)⟩⟩
theorem lk_X11_269 : z_ck RX11 269 0 yX3_lineAt cX3_lineAt 2 (some (.object "CityBank$Line")) 2 := ⟨cq_X3_lineAt, z_ix 794 (by decide +kernel)⟩
theorem cq_X3_enter : z_cq 0 yX3_enter cX3_enter 7 (some .int) 6 := ⟨z_ix 538 (by decide +kernel), z_ix 49 (by decide +kernel), by decide +kernel, by decide, ⟨z_ix 536 (by decide +kernel), z_ix 537 (by decide +kernel)⟩⟩
theorem lk_X11_282 : z_ck RX11 282 0 yX3_enter cX3_enter 7 (some .int) 6 := ⟨cq_X3_enter, z_ix 535 (by decide +kernel)⟩
theorem cq_X2_bookOf : z_cq 0 yX2_bookOf cX2_bookOf 6 (some .long) 3 := ⟨z_ix 498 (by decide +kernel), z_ix 53 (by decide +kernel), by decide +kernel, by decide, ⟨z_ix 496 (by decide +kernel), z_ix 497 (by decide +kernel)⟩⟩
theorem lk_X11_305 : z_ck RX11 305 0 yX2_bookOf cX2_bookOf 6 (some .long) 3 := ⟨cq_X2_bookOf, z_ix 495 (by decide +kernel)⟩
theorem cq_X5_init : z_cq 2 yX5_init cX5_init 6 none 4 := ⟨z_ix 812 (by decide +kernel), z_ix 63 (by decide +kernel), by decide +kernel, by decide, ⟨z_ix 811 (by decide +kernel), rfl, rfl⟩⟩
theorem lk_X11_311 : z_ck RX11 311 2 yX5_init cX5_init 6 none 4 := ⟨cq_X5_init, z_ix 810 (by decide +kernel)⟩
theorem cq_X11_loanAt : z_cq 0 yX11_loanAt cX11_loanAt 2 (some (.object "CityBank$Loan")) 2 := ⟨z_ix 830 (by decide +kernel), z_ix 39 (by decide +kernel), by decide +kernel, by decide, ⟨z_ix 829 (by decide +kernel), z_ix 20 (by decide +kernel)⟩⟩
theorem lk_X11_314 : z_ck RX11 314 0 yX11_loanAt cX11_loanAt 2 (some (.object "CityBank$Loan")) 2 := ⟨cq_X11_loanAt, z_ix 827 (by decide +kernel)⟩
theorem cq_X11_bookOfVault : z_cq 0 yX11_bookOfVault cX11_bookOfVault 5 (some .long) 1 := ⟨z_ix 844 (by decide +kernel), z_ix 39 (by decide +kernel), by decide +kernel, by decide, ⟨z_ix 843 (by decide +kernel), z_ix 21 (by decide +kernel)⟩⟩
theorem lk_X11_332 : z_ck RX11 332 0 yX11_bookOfVault cX11_bookOfVault 5 (some .long) 1 := ⟨cq_X11_bookOfVault, z_ix 841 (by decide +kernel)⟩
theorem cq_X11_allBalances : z_cq 0 yX11_allBalances cX11_allBalances 4 (some .long) 1 := ⟨z_ix 848 (by decide +kernel), z_ix 39 (by decide +kernel), by decide +kernel, by decide, ⟨z_ix 847 (by decide +kernel), z_ix 22 (by decide +kernel)⟩⟩
theorem lk_X11_336 : z_ck RX11 336 0 yX11_allBalances cX11_allBalances 4 (some .long) 1 := ⟨cq_X11_allBalances, z_ix 845 (by decide +kernel)⟩
theorem cq_X0_folioAt : z_cq 0 yX0_folioAt cX0_folioAt 2 (some .int) 2 := ⟨z_ix 860 (by decide +kernel), z_ix 54 (by decide +kernel), by decide +kernel, by decide, ⟨z_ix 858 (by decide +kernel), z_ix 859 (by decide +kernel)⟩⟩
theorem lk_X11_345 : z_ck RX11 345 0 yX0_folioAt cX0_folioAt 2 (some .int) 2 := ⟨cq_X0_folioAt, z_ix 857 (by decide +kernel)⟩
theorem cq_X3_creditsLessDebits : z_cq 0 yX3_creditsLessDebits cX3_creditsLessDebits 6 (some .long) 2 := ⟨z_ix 879 (by decide +kernel), z_ix 49 (by decide +kernel), by decide +kernel, by decide, ⟨z_ix 877 (by decide +kernel), z_ix 878 (by decide +kernel)⟩⟩
theorem lk_X11_348 : z_ck RX11 348 0 yX3_creditsLessDebits cX3_creditsLessDebits 6 (some .long) 2 := ⟨cq_X3_creditsLessDebits, z_ix 876 (by decide +kernel)⟩
theorem cq_X11_receiptAt : z_cq 0 yX11_receiptAt cX11_receiptAt 2 (some (.object "CityBank$Receipt")) 2 := ⟨z_ix 610 (by decide +kernel), z_ix 39 (by decide +kernel), by decide +kernel, by decide, ⟨z_ix 609 (by decide +kernel), z_ix 9 (by decide +kernel)⟩⟩
theorem lk_X11_367 : z_ck RX11 367 0 yX11_receiptAt cX11_receiptAt 2 (some (.object "CityBank$Receipt")) 2 := ⟨cq_X11_receiptAt, z_ix 607 (by decide +kernel)⟩
theorem cq_X11_slotsWithRow : z_cq 0 yX11_slotsWithRow cX11_slotsWithRow 3 (some .int) 1 := ⟨z_ix 911 (by decide +kernel), z_ix 39 (by decide +kernel), by decide +kernel, by decide, ⟨z_ix 910 (by decide +kernel), z_ix 23 (by decide +kernel)⟩⟩
theorem lk_X11_382 : z_ck RX11 382 0 yX11_slotsWithRow cX11_slotsWithRow 3 (some .int) 1 := ⟨cq_X11_slotsWithRow, z_ix 908 (by decide +kernel)⟩
theorem cq_X8_begin : z_cq 0 yX8_begin cX8_begin 4 none 3 := ⟨z_ix 924 (by decide +kernel), z_ix 44 (by decide +kernel), by decide +kernel, by decide, ⟨z_ix 922 (by decide +kernel), z_ix 923 (by decide +kernel)⟩⟩
theorem lk_X11_393 : z_ck RX11 393 0 yX8_begin cX8_begin 4 none 3 := ⟨cq_X8_begin, z_ix 921 (by decide +kernel)⟩
theorem cq_X8_cutToWidth : z_cq 0 yX8_cutToWidth cX8_cutToWidth 3 (some .long) 2 := ⟨z_ix 936 (by decide +kernel), z_ix 44 (by decide +kernel), by decide +kernel, by decide, ⟨z_ix 934 (by decide +kernel), z_ix 935 (by decide +kernel)⟩⟩
theorem lk_X11_403 : z_ck RX11 403 0 yX8_cutToWidth cX8_cutToWidth 3 (some .long) 2 := ⟨cq_X8_cutToWidth, z_ix 933 (by decide +kernel)⟩
theorem cq_X8_hasStretch : z_cq 0 yX8_hasStretch cX8_hasStretch 3 (some .boolean) 3 := ⟨z_ix 944 (by decide +kernel), z_ix 44 (by decide +kernel), by decide +kernel, by decide, ⟨z_ix 942 (by decide +kernel), z_ix 943 (by decide +kernel)⟩⟩
theorem lk_X11_410 : z_ck RX11 410 0 yX8_hasStretch cX8_hasStretch 3 (some .boolean) 3 := ⟨cq_X8_hasStretch, z_ix 941 (by decide +kernel)⟩
theorem cq_X7_init : z_cq 2 yX7_init cX7_init 8 none 7 := ⟨z_ix 504 (by decide +kernel), z_ix 57 (by decide +kernel), by decide +kernel, by decide, ⟨z_ix 503 (by decide +kernel), rfl, rfl⟩⟩
theorem lk_X11_420 : z_ck RX11 420 2 yX7_init cX7_init 8 none 7 := ⟨cq_X7_init, z_ix 502 (by decide +kernel)⟩
theorem cq_X6_init : z_cq 2 yX6_init cX6_init 8 none 7 := ⟨z_ix 645 (by decide +kernel), z_ix 62 (by decide +kernel), by decide +kernel, by decide, ⟨z_ix 644 (by decide +kernel), rfl, rfl⟩⟩
theorem lk_X11_426 : z_ck RX11 426 2 yX6_init cX6_init 8 none 7 := ⟨cq_X6_init, z_ix 643 (by decide +kernel)⟩
theorem cq_X11_nextOrderDue : z_cq 0 yX11_nextOrderDue cX11_nextOrderDue 5 (some .int) 1 := ⟨z_ix 722 (by decide +kernel), z_ix 39 (by decide +kernel), by decide +kernel, by decide, ⟨z_ix 721 (by decide +kernel), z_ix 16 (by decide +kernel)⟩⟩
theorem lk_X11_431 : z_ck RX11 431 0 yX11_nextOrderDue cX11_nextOrderDue 5 (some .int) 1 := ⟨cq_X11_nextOrderDue, z_ix 719 (by decide +kernel)⟩
theorem cq_X11_carryOut : z_cq 0 yX11_carryOut cX11_carryOut 6 none 3 := ⟨z_ix 726 (by decide +kernel), z_ix 39 (by decide +kernel), by decide +kernel, by decide, ⟨z_ix 725 (by decide +kernel), z_ix 17 (by decide +kernel)⟩⟩
theorem lk_X11_434 : z_ck RX11 434 0 yX11_carryOut cX11_carryOut 6 none 3 := ⟨cq_X11_carryOut, z_ix 723 (by decide +kernel)⟩
theorem cq_X0_maySign : z_cq 0 yX0_maySign cX0_maySign 3 (some .boolean) 3 := ⟨z_ix 730 (by decide +kernel), z_ix 54 (by decide +kernel), by decide +kernel, by decide, ⟨z_ix 728 (by decide +kernel), z_ix 729 (by decide +kernel)⟩⟩
theorem lk_X11_441 : z_ck RX11 441 0 yX0_maySign cX0_maySign 3 (some .boolean) 3 := ⟨cq_X0_maySign, z_ix 727 (by decide +kernel)⟩
theorem lk_X11_444 : z_ck RX11 444 1 yJ9_min_f86c9 cJ9_min_f86c9 4 (some .long) 2 := ⟨cq_J9_min_f86c9, z_ix 731 (by decide +kernel)⟩
theorem cq_X11_enterCredit : z_cq 0 yX11_enterCredit cX11_enterCredit 8 (some .int) 3 := ⟨z_ix 735 (by decide +kernel), z_ix 39 (by decide +kernel), by decide +kernel, by decide, ⟨z_ix 734 (by decide +kernel), z_ix 18 (by decide +kernel)⟩⟩
theorem lk_X11_450 : z_ck RX11 450 0 yX11_enterCredit cX11_enterCredit 8 (some .int) 3 := ⟨cq_X11_enterCredit, z_ix 732 (by decide +kernel)⟩
theorem cq_X3_withDigitsExchanged : z_cq 1 yX3_withDigitsExchanged cX3_withDigitsExchanged 11 (some .long) 2 := ⟨z_ix 738 (by decide +kernel), z_ix 49 (by decide +kernel), by decide +kernel, by decide, z_ix 737 (by decide +kernel)⟩
theorem lk_X11_457 : z_ck RX11 457 1 yX3_withDigitsExchanged cX3_withDigitsExchanged 11 (some .long) 2 := ⟨cq_X3_withDigitsExchanged, z_ix 736 (by decide +kernel)⟩
theorem cq_X12_in : z_cq 1 yX12_in cX12_in 6 (some .boolean) 3 := ⟨z_ix 1165 (by decide +kernel), z_ix 52 (by decide +kernel), by decide +kernel, by decide, z_ix 1164 (by decide +kernel)⟩
theorem lk_X12_177 : z_ck RX12 177 1 yX12_in cX12_in 6 (some .boolean) 3 := ⟨cq_X12_in, z_ix 1163 (by decide +kernel)⟩
theorem cq_X12_isSlot : z_cq 1 yX12_isSlot cX12_isSlot 1 (some .boolean) 1 := ⟨z_ix 1161 (by decide +kernel), z_ix 52 (by decide +kernel), by decide +kernel, by decide, z_ix 1160 (by decide +kernel)⟩
theorem lk_X12_181 : z_ck RX12 181 1 yX12_isSlot cX12_isSlot 1 (some .boolean) 1 := ⟨cq_X12_isSlot, z_ix 1159 (by decide +kernel)⟩
theorem cq_X12_cut : z_cq 1 yX12_cut cX12_cut 3 (some .long) 2 := ⟨z_ix 1176 (by decide +kernel), z_ix 52 (by decide +kernel), by decide +kernel, by decide, z_ix 1175 (by decide +kernel)⟩
theorem lk_X12_185 : z_ck RX12 185 1 yX12_cut cX12_cut 3 (some .long) 2 := ⟨cq_X12_cut, z_ix 1174 (by decide +kernel)⟩
theorem cq_X12_isAccount : z_cq 0 yX12_isAccount cX12_isAccount 2 (some .boolean) 2 := ⟨z_ix 1205 (by decide +kernel), z_ix 52 (by decide +kernel), by decide +kernel, by decide, ⟨z_ix 1204 (by decide +kernel), z_ix 24 (by decide +kernel)⟩⟩
theorem lk_X12_205 : z_ck RX12 205 0 yX12_isAccount cX12_isAccount 2 (some .boolean) 2 := ⟨cq_X12_isAccount, z_ix 1202 (by decide +kernel)⟩
theorem cq_X12_folioOf : z_cq 0 yX12_folioOf cX12_folioOf 3 (some .int) 2 := ⟨z_ix 1235 (by decide +kernel), z_ix 52 (by decide +kernel), by decide +kernel, by decide, ⟨z_ix 1234 (by decide +kernel), z_ix 30 (by decide +kernel)⟩⟩
theorem lk_X12_221 : z_ck RX12 221 0 yX12_folioOf cX12_folioOf 3 (some .int) 2 := ⟨cq_X12_folioOf, z_ix 1232 (by decide +kernel)⟩
theorem cq_X12_isKind : z_cq 0 yX12_isKind cX12_isKind 2 (some .boolean) 2 := ⟨z_ix 1215 (by decide +kernel), z_ix 52 (by decide +kernel), by decide +kernel, by decide, ⟨z_ix 1214 (by decide +kernel), z_ix 25 (by decide +kernel)⟩⟩
theorem lk_X12_225 : z_ck RX12 225 0 yX12_isKind cX12_isKind 2 (some .boolean) 2 := ⟨cq_X12_isKind, z_ix 1212 (by decide +kernel)⟩
theorem cq_X12_room : z_cq 0 yX12_room cX12_room 3 (some .int) 1 := ⟨z_ix 1219 (by decide +kernel), z_ix 52 (by decide +kernel), by decide +kernel, by decide, ⟨z_ix 1218 (by decide +kernel), z_ix 26 (by decide +kernel)⟩⟩
theorem lk_X12_231 : z_ck RX12 231 0 yX12_room cX12_room 3 (some .int) 1 := ⟨cq_X12_room, z_ix 1216 (by decide +kernel)⟩
theorem cq_X12_isTaken : z_cq 0 yX12_isTaken cX12_isTaken 4 (some .boolean) 3 := ⟨z_ix 1223 (by decide +kernel), z_ix 52 (by decide +kernel), by decide +kernel, by decide, ⟨z_ix 1222 (by decide +kernel), z_ix 27 (by decide +kernel)⟩⟩
theorem lk_X12_235 : z_ck RX12 235 0 yX12_isTaken cX12_isTaken 4 (some .boolean) 3 := ⟨cq_X12_isTaken, z_ix 1220 (by decide +kernel)⟩
theorem cq_X12_bookOf : z_cq 0 yX12_bookOf cX12_bookOf 4 (some .long) 3 := ⟨z_ix 1227 (by decide +kernel), z_ix 52 (by decide +kernel), by decide +kernel, by decide, ⟨z_ix 1226 (by decide +kernel), z_ix 28 (by decide +kernel)⟩⟩
theorem lk_X12_239 : z_ck RX12 239 0 yX12_bookOf cX12_bookOf 4 (some .long) 3 := ⟨cq_X12_bookOf, z_ix 1224 (by decide +kernel)⟩
theorem cq_X12_writes : z_cq 0 yX12_writes cX12_writes 8 (some .int) 6 := ⟨z_ix 1231 (by decide +kernel), z_ix 52 (by decide +kernel), by decide +kernel, by decide, ⟨z_ix 1230 (by decide +kernel), z_ix 29 (by decide +kernel)⟩⟩
theorem lk_X12_249 : z_ck RX12 249 0 yX12_writes cX12_writes 8 (some .int) 6 := ⟨cq_X12_writes, z_ix 1228 (by decide +kernel)⟩
theorem cq_X12_isOpen : z_cq 0 yX12_isOpen cX12_isOpen 2 (some .boolean) 2 := ⟨z_ix 1243 (by decide +kernel), z_ix 52 (by decide +kernel), by decide +kernel, by decide, ⟨z_ix 1242 (by decide +kernel), z_ix 31 (by decide +kernel)⟩⟩
theorem lk_X12_253 : z_ck RX12 253 0 yX12_isOpen cX12_isOpen 2 (some .boolean) 2 := ⟨cq_X12_isOpen, z_ix 1240 (by decide +kernel)⟩
theorem cq_X12_pays : z_cq 0 yX12_pays cX12_pays 5 none 3 := ⟨z_ix 1251 (by decide +kernel), z_ix 52 (by decide +kernel), by decide +kernel, by decide, ⟨z_ix 1250 (by decide +kernel), z_ix 32 (by decide +kernel)⟩⟩
theorem lk_X12_267 : z_ck RX12 267 0 yX12_pays cX12_pays 5 none 3 := ⟨cq_X12_pays, z_ix 1248 (by decide +kernel)⟩
theorem cq_X12_waits : z_cq 0 yX12_waits cX12_waits 8 (some .int) 7 := ⟨z_ix 1268 (by decide +kernel), z_ix 52 (by decide +kernel), by decide +kernel, by decide, ⟨z_ix 1267 (by decide +kernel), z_ix 33 (by decide +kernel)⟩⟩
theorem lk_X12_275 : z_ck RX12 275 0 yX12_waits cX12_waits 8 (some .int) 7 := ⟨cq_X12_waits, z_ix 1265 (by decide +kernel)⟩
theorem lk_X12_283 : z_ck RX12 283 1 yJ9_min_f86c9 cJ9_min_f86c9 4 (some .long) 2 := ⟨cq_J9_min_f86c9, z_ix 1287 (by decide +kernel)⟩
theorem cq_X12_swapped : z_cq 1 yX12_swapped cX12_swapped 9 (some .long) 2 := ⟨z_ix 1290 (by decide +kernel), z_ix 52 (by decide +kernel), by decide +kernel, by decide, z_ix 1289 (by decide +kernel)⟩
theorem lk_X12_289 : z_ck RX12 289 1 yX12_swapped cX12_swapped 9 (some .long) 2 := ⟨cq_X12_swapped, z_ix 1288 (by decide +kernel)⟩
theorem cq_X12_does : z_cq 0 yX12_does cX12_does 8 (some .boolean) 2 := ⟨z_ix 1286 (by decide +kernel), z_ix 52 (by decide +kernel), by decide +kernel, by decide, ⟨z_ix 1285 (by decide +kernel), z_ix 34 (by decide +kernel)⟩⟩
theorem lk_X12_293 : z_ck RX12 293 0 yX12_does cX12_does 8 (some .boolean) 2 := ⟨cq_X12_does, z_ix 1283 (by decide +kernel)⟩
theorem lk_X12_296 : z_ck RX12 296 1 yJ9_max_f86c9 cJ9_max_f86c9 4 (some .long) 2 := ⟨cq_J9_max_f86c9, z_ix 1292 (by decide +kernel)⟩
theorem cq_J9_min_7cf53 : z_cq 1 yJ9_min_7cf53 cJ9_min_7cf53 2 (some .int) 2 := ⟨z_ix 223 (by decide +kernel), z_ix 46 (by decide +kernel), by decide +kernel, by decide, z_ix 222 (by decide +kernel)⟩
theorem lk_X12_299 : z_ck RX12 299 1 yJ9_min_7cf53 cJ9_min_7cf53 2 (some .int) 2 := ⟨cq_J9_min_7cf53, z_ix 1293 (by decide +kernel)⟩
theorem cq_J9_max_7cf53 : z_cq 1 yJ9_max_7cf53 cJ9_max_7cf53 2 (some .int) 2 := ⟨z_ix 188 (by decide +kernel), z_ix 46 (by decide +kernel), by decide +kernel, by decide, z_ix 187 (by decide +kernel)⟩
theorem lk_X12_302 : z_ck RX12 302 1 yJ9_max_7cf53 cJ9_max_7cf53 2 (some .int) 2 := ⟨cq_J9_max_7cf53, z_ix 1294 (by decide +kernel)⟩
theorem cq_X12_howOf : z_cq 0 yX12_howOf cX12_howOf 5 (some .int) 3 := ⟨z_ix 1302 (by decide +kernel), z_ix 52 (by decide +kernel), by decide +kernel, by decide, ⟨z_ix 1301 (by decide +kernel), z_ix 35 (by decide +kernel)⟩⟩
theorem lk_X12_313 : z_ck RX12 313 0 yX12_howOf cX12_howOf 5 (some .int) 3 := ⟨cq_X12_howOf, z_ix 1299 (by decide +kernel)⟩
theorem cq_X12_vaultBook : z_cq 0 yX12_vaultBook cX12_vaultBook 4 (some .long) 1 := ⟨z_ix 1341 (by decide +kernel), z_ix 52 (by decide +kernel), by decide +kernel, by decide, ⟨z_ix 1340 (by decide +kernel), z_ix 36 (by decide +kernel)⟩⟩
theorem lk_X12_336 : z_ck RX12 336 0 yX12_vaultBook cX12_vaultBook 4 (some .long) 1 := ⟨cq_X12_vaultBook, z_ix 1338 (by decide +kernel)⟩
theorem cq_X12_balances : z_cq 0 yX12_balances cX12_balances 4 (some .long) 1 := ⟨z_ix 1345 (by decide +kernel), z_ix 52 (by decide +kernel), by decide +kernel, by decide, ⟨z_ix 1344 (by decide +kernel), z_ix 37 (by decide +kernel)⟩⟩
theorem lk_X12_340 : z_ck RX12 340 0 yX12_balances cX12_balances 4 (some .long) 1 := ⟨cq_X12_balances, z_ix 1342 (by decide +kernel)⟩
theorem cq_X3_folioForLineOf : z_cq 0 yX3_folioForLineOf cX3_folioForLineOf 2 (some .int) 2 := ⟨z_ix 544 (by decide +kernel), z_ix 49 (by decide +kernel), by decide +kernel, by decide, ⟨z_ix 542 (by decide +kernel), z_ix 543 (by decide +kernel)⟩⟩
theorem lk_X3_35 : z_ck RX3 35 0 yX3_folioForLineOf cX3_folioForLineOf 2 (some .int) 2 := ⟨cq_X3_folioForLineOf, z_ix 541 (by decide +kernel)⟩
theorem cq_X4_init : z_cq 2 yX4_init cX4_init 8 none 7 := ⟨z_ix 568 (by decide +kernel), z_ix 58 (by decide +kernel), by decide +kernel, by decide, ⟨z_ix 567 (by decide +kernel), rfl, rfl⟩⟩
theorem lk_X3_39 : z_ck RX3 39 2 yX4_init cX4_init 8 none 7 := ⟨cq_X4_init, z_ix 566 (by decide +kernel)⟩
theorem cq_X4_isOfBooks : z_cq 0 yX4_isOfBooks cX4_isOfBooks 2 (some .boolean) 2 := ⟨z_ix 777 (by decide +kernel), z_ix 58 (by decide +kernel), by decide +kernel, by decide, ⟨z_ix 775 (by decide +kernel), z_ix 776 (by decide +kernel)⟩⟩
theorem lk_X3_80 : z_ck RX3 80 0 yX4_isOfBooks cX4_isOfBooks 2 (some .boolean) 2 := ⟨cq_X4_isOfBooks, z_ix 774 (by decide +kernel)⟩
theorem cq_X3_debitsLessCredits : z_cq 0 yX3_debitsLessCredits cX3_debitsLessCredits 6 (some .long) 2 := ⟨z_ix 772 (by decide +kernel), z_ix 49 (by decide +kernel), by decide +kernel, by decide, ⟨z_ix 770 (by decide +kernel), z_ix 771 (by decide +kernel)⟩⟩
theorem lk_X3_87 : z_ck RX3 87 0 yX3_debitsLessCredits cX3_debitsLessCredits 6 (some .long) 2 := ⟨cq_X3_debitsLessCredits, z_ix 769 (by decide +kernel)⟩
theorem cq_X3_suspicionOf : z_cq 1 yX3_suspicionOf cX3_suspicionOf 4 (some .int) 2 := ⟨z_ix 780 (by decide +kernel), z_ix 49 (by decide +kernel), by decide +kernel, by decide, z_ix 779 (by decide +kernel)⟩
theorem lk_X3_91 : z_ck RX3 91 1 yX3_suspicionOf cX3_suspicionOf 4 (some .int) 2 := ⟨cq_X3_suspicionOf, z_ix 778 (by decide +kernel)⟩
theorem cq_X3_someExchangeAdds : z_cq 1 yX3_someExchangeAdds cX3_someExchangeAdds 5 (some .boolean) 2 := ⟨z_ix 783 (by decide +kernel), z_ix 49 (by decide +kernel), by decide +kernel, by decide, z_ix 782 (by decide +kernel)⟩
theorem lk_X3_97 : z_ck RX3 97 1 yX3_someExchangeAdds cX3_someExchangeAdds 5 (some .boolean) 2 := ⟨cq_X3_someExchangeAdds, z_ix 781 (by decide +kernel)⟩
theorem lk_X3_103 : z_ck RX3 103 1 yX3_withDigitsExchanged cX3_withDigitsExchanged 11 (some .long) 2 := ⟨cq_X3_withDigitsExchanged, z_ix 784 (by decide +kernel)⟩
end
section
/-! the world of the small machine in the machine's heap; contracts; what an instruction asks -/
def z_A (G : z_G) : Nat → Prop := fun q => gB G ≤ q
def z_tys (G : z_G) : List (ClassId × FieldType) := [(gA G 0, .int), (gA G 1, .long), (gA G 2, .boolean), (gA G 3, .object "java/lang/Object")]
/-- what the tables say -/
def z_cst : List String := [RX0, RX2, RX4, RX5, RX6, RX7, RX8, RJ6]
def z_KN (G : z_G) (U : State) : Prop := va_K (gC G, gI G) vwCl (z_tys G) U ∧ (∃ mi : Nat, va_Mi "[Ljava/lang/Object;" mi U) ∧ va_Dc U ∧ va_AO "java/lang/Object" U ∧ ∀ C ∈ z_cst, va_Nw (.castable C "java/lang/Object") U
/-- what is older than the world, and stays -/
def z_OJ (G : z_G) (U : State) (H : Heap) : Prop :=
  va_Z "java/util/ArrayList" "DEFAULTCAPACITY_EMPTY_ELEMENTDATA" "[Ljava/lang/Object;" (.ref (gE G)) (z_A G) U H ∧ va_T (.object "java/lang/Object") (gE G) 0 (fun _ => .null) (z_A G) U H ∧
  va_Z "java/lang/Integer$IntegerCache" "high" "I" (.int 127) (z_A G) U H ∧ vb_C (gX G) (z_A G) U H ∧
  ∃ tc : Nat, va_Z "java/lang/Integer$IntegerCache" "cache" "[Ljava/lang/Integer;" (.ref tc) (z_A G) U H ∧ va_T (.object "java/lang/Integer") tc 256 (fun k => .ref (gX G k)) (z_A G) U H
def z_OLD (G : z_G) (U : State) (H : Heap) : Prop := gB G ≤ H.size ∧ gS G < gB G ∧ va_X (gS G) (gL G) (gV G) U H ∧ z_OJ G U H
/-- which cells are there -/
def z_live (h : z_H) (K i : Nat) : Prop := (K < 1000 ∧ K ≠ 400 ∧ i < hN h K) ∨ (1200 ≤ K ∧ K ≤ 1207 ∧ i < hN h (K - 1000) ∧ hZ h (K - 1000) i ≠ 0) ∨ (K = 1300 ∧ i < hN h K)
def z_box (G : z_G) (ad : Nat → Nat → Nat) (h : z_H) (H : Heap) (a : Nat) (v : Int32) : Prop :=
  (∃ k : Nat, k < 256 ∧ a = gX G k ∧ v = vb_c k) ∨ ∃ b : Nat, b < hN h 1300 ∧ a = ad 1300 b ∧ t_OB a (gC G 0) 1 (gI G 0) H (fun _ => .int v)
/-- a list: its object, its array, its elements -/
def z_LE (G : z_G) (ad : Nat → Nat → Nat) (h : z_H) (H : Heap) (K i j a : Nat) : Prop :=
  (K = 207 → z_box G ad h H a (hI h K i j)) ∧ (K ≠ 207 → a = ad (lT K) j ∧ j < hN h (lT K))
def z_LV (G : z_G) (ad : Nat → Nat → Nat) (h : z_H) (K i : Nat) (m : Int32) (k : Nat) : Value := match k with | 0 => .int m | 1 => .ref (if hZ h K i = 0 then gE G else ad (K + 1000) i) | _ => .int (nI (hZ h K i))
def z_LR (G : z_G) (ad : Nat → Nat → Nat) (h : z_H) (H : Heap) (K i : Nat) : Prop := ∃ (m : Int32) (el : Nat → Nat),
  t_OB (ad K i) (gC G 1) 3 (gI G 1) H (z_LV G ad h K i m) ∧
  (hZ h K i ≠ 0 → H[ad (K + 1000) i]? = some (arrV (gA G 3) (z_cap (hZ h K i)) (fun j => if j < hZ h K i then .ref (el j) else .null))) ∧
  ∀ j : Nat, j < hZ h K i → z_LE G ad h H K i j (el j)
/-- what cell (K, i) is -/
def z_cell (G : z_G) (ad : Nat → Nat → Nat) (h : z_H) (H : Heap) (K i : Nat) : Prop :=
  (z_obj K = true → t_OB (ad K i) (gC G K) (kF K) (gI G K) H (fun k => z_val ad (z_fv h K i k))) ∧
  (aLen K ≠ 0 → H[ad K i]? = some (arrV (gA G (aCod K)) (aLen K) (aVal h K i))) ∧
  (z_lst K = true → z_LR G ad h H K i)
def z_HR (G : z_G) (ad : Nat → Nat → Nat) (h : z_H) (U : State) (H : Heap) : Prop :=
  z_OLD G U H ∧ ad 400 0 = gS G ∧ (∀ K i, z_live h K i → gB G ≤ ad K i ∧ ad K i < H.size) ∧ (∀ K i K' i', z_live h K i → z_live h K' i' → ad K i = ad K' i' → K = K' ∧ i = i') ∧
  (∀ K i, K < 1000 → i < hN h K → z_cell G ad h H K i) ∧ (∀ K i k q, K < 1000 → i < hN h K → hR h K i k = some q → q.2 < hN h q.1 ∧ q.1 < 1000)
def z_ok (h : z_H) (v : z_V) : Prop := match v with | .inr (.inr (some q)) => q.2 < hN h q.1 ∧ q.1 < 1000 | _ => True
def z_EX (h0 : z_H) (ad0 : Nat → Nat → Nat) (h : z_H) (ad : Nat → Nat → Nat) : Prop := (∀ K, hN h0 K ≤ hN h K) ∧ ∀ K i, K < 1000 → i < hN h0 K → ad K i = ad0 K i
def z_RP (G : z_G) (ad : Nat → Nat → Nat) (h : z_H) (U : State) : Prop := z_KN G U ∧ z_HR G ad h U U.heap
def z_rm (d mc ms : Nat) : Room := { frames := d, cells := mc, slots := ms, locals := 40 * d }
/-- A CONTRACT: from heap h with these arguments method y returns, and then Q of its answer and the heap; mc cells of ms slots at most are new -/
def z_MT (l : Launch) (G : z_G) (d : Nat) (y : MethodName) (cc : ByteArray) (mL : Nat) (rt : Option FieldType) (as : List z_V) (h : z_H) (mc ms : Nat) (Q : Option z_V → z_H → Prop) : Prop :=
  ∀ ad : Nat → Nat → Nat, Met l y (Cond.code y cc mL rt :: z_tbl) (z_rm d mc ms)
    (fun v U => v = (as.map (z_val ad)).toArray ∧ z_RP G ad h U ∧ ∀ x ∈ as, z_ok h x)
    (fun _ _ o t => ∃ (ad' : Nat → Nat → Nat) (r : Option z_V) (h' : z_H), o = .returned (r.map (z_val ad')) ∧ z_RP G ad' h' t ∧ z_EX h ad h' ad' ∧ (∀ x, r = some x → z_ok h' x) ∧ Q r h') mc ms (z_A G)
def z_rcv (kd : Nat) (y : MethodName) (as : List z_V) : Prop := match kd with
  | 0 => match as with | .inr (.inr (some q)) :: _ => z_obj q.1 = true ∧ kR q.1 = y.cls | _ => False
  | 1 => True
  | _ => match as with | .inr (.inr (some _)) :: _ => True | _ => False
/-- Math's max and min (0, 1 of ints; 2, 3 of longs): a call's words, and what it answers -/
def z_mn (c : Nat) : MethodName := match c with | 0 => Lib.Math.max.name | 1 => Lib.Math.min.name | 2 => Lib.MathLoose.max_long.x | _ => Lib.MathLoose.min_long.x
def z_MP (own : String) (idx : Nat) (as : List z_V) (k : z_V → Prop) : Prop := ∃ c : Nat, Cond.methodLink own idx (z_mn c) ∈ z_tbl ∧ (match c, as with
  | 0, [.inl x, .inl v] => k (z_i (if x < v then v else x))
  | 1, [.inl x, .inl v] => k (z_i (if v < x then v else x))
  | 2, [.inr (.inl x), .inr (.inl v)] => k (z_l (if v < x then x else v))
  | 3, [.inr (.inl x), .inr (.inl v)] => k (z_l (if v < x then v else x))
  | _, _ => False)
def z_CP (l : Launch) (G : z_G) (d MC MS : Nat) (own : String) (idx kd : Nat) (as : List z_V) (h : z_H) (ce sl : Nat) (k : Option z_V → z_H → Nat → Nat → Prop) : Prop :=
  1 ≤ d ∧ ((∃ (y : MethodName) (cc : ByteArray) (mL : Nat) (rt : Option FieldType) (mc ms : Nat) (Q : Option z_V → z_H → Prop),
    z_ck own idx kd y cc mL rt as.length ∧ z_rcv kd y as ∧ z_MT l G (d - 1) y cc mL rt as h mc ms Q ∧ ce + mc ≤ MC ∧ sl + ms ≤ MS ∧ ∀ r h', Q r h' → k r h' (ce + mc) (sl + ms)) ∨
    (kd = 1 ∧ ce ≤ MC ∧ sl ≤ MS ∧ z_MP own idx as (fun v => k (some v) h ce sl)))
abbrev z_K : Type := z_L → z_S → z_H → Nat → Nat → Prop
def z_cpy (h : z_H) (i1 sp i2 dp n : Nat) : z_H := (h.1, h.2.1, fun K' i' k' => if K' = 100 ∧ i' = i2 ∧ dp ≤ k' ∧ k' < dp + n then h.2.2.1 100 i1 (sp + (k' - dp)) else h.2.2.1 K' i' k', h.2.2.2)
/-- WHAT AN INSTRUCTION ASKS: that the next one may go on (k), or the one at a label (A), or the end (T) -/
def z_stp (l : Launch) (G : z_G) (d MC MS : Nat) (own : String) (A : Nat → z_K) (T : Option z_V → z_H → Nat → Nat → Prop) (e : z_E) (ls : z_L) (st : z_S) (h : z_H) (ce sl : Nat) (k : z_K) : Prop := match e with
  | (.aconst_null, _, _, _, _) => k ls (z_n :: st) h ce sl
  | (.iconst n, _, _, _, _) => k ls (z_i (Int32.ofInt n) :: st) h ce sl
  | (.bipush n, _, _, _, _) => k ls (z_i (Int32.ofInt n) :: st) h ce sl
  | (.sipush n, _, _, _, _) => k ls (z_i (Int32.ofInt n) :: st) h ce sl
  | (.lconst n, _, _, _, _) => k ls (z_l (Int64.ofNat n) :: st) h ce sl
  | (.ldc _, _, _, _, z) => k ls (z_i (Int32.ofInt z) :: st) h ce sl
  | (.ldc2_w _, _, _, _, z) => k ls (z_l (Int64.ofInt z) :: st) h ce sl
  | (.iload i, _, _, _, _) => eI (z_get ls i) fun x => k ls (z_i x :: st) h ce sl
  | (.iload_n i, _, _, _, _) => eI (z_get ls i) fun x => k ls (z_i x :: st) h ce sl
  | (.lload i, _, _, _, _) => eL (z_get ls i) fun x => k ls (z_l x :: st) h ce sl
  | (.lload_n i, _, _, _, _) => eL (z_get ls i) fun x => k ls (z_l x :: st) h ce sl
  | (.aload i, _, _, _, _) => eR (z_get ls i) fun x => k ls (z_q x :: st) h ce sl
  | (.aload_n i, _, _, _, _) => eR (z_get ls i) fun x => k ls (z_q x :: st) h ce sl
  | (.istore i, _, _, _, _) => pI st fun x st => k (z_put ls i (z_i x)) st h ce sl
  | (.istore_n i, _, _, _, _) => pI st fun x st => k (z_put ls i (z_i x)) st h ce sl
  | (.lstore i, _, _, _, _) => pL st fun x st => k (z_put ls i (z_l x)) st h ce sl
  | (.lstore_n i, _, _, _, _) => pL st fun x st => k (z_put ls i (z_l x)) st h ce sl
  | (.astore i, _, _, _, _) => pR st fun x st => k (z_put ls i (z_q x)) st h ce sl
  | (.astore_n i, _, _, _, _) => pR st fun x st => k (z_put ls i (z_q x)) st h ce sl
  | (.iinc i n, _, _, _, _) => eI (z_get ls i) fun x => k (z_put ls i (z_i (x + Int32.ofInt n))) st h ce sl
  | (.dup, _, _, _, _) => pV st fun v st => z_cat v = 1 ∧ k ls (v :: v :: st) h ce sl
  | (.pop, _, _, _, _) => pV st fun v st => z_cat v = 1 ∧ k ls st h ce sl
  | (.dup2, _, _, _, _) => pV st fun v st => pV st fun w st => z_cat v = 1 ∧ z_cat w = 1 ∧ k ls (v :: w :: v :: w :: st) h ce sl
  | (.iadd, _, _, _, _) => pI st fun y st => pI st fun x st => k ls (z_i (x + y) :: st) h ce sl
  | (.isub, _, _, _, _) => pI st fun y st => pI st fun x st => k ls (z_i (x - y) :: st) h ce sl
  | (.imul, _, _, _, _) => pI st fun y st => pI st fun x st => k ls (z_i (x * y) :: st) h ce sl
  | (.iand, _, _, _, _) => pI st fun y st => pI st fun x st => k ls (z_i (x &&& y) :: st) h ce sl
  | (.iushr, _, _, _, _) => pI st fun y st => pI st fun x st => k ls (z_i (x.toUInt32 >>> (y.toUInt32 &&& Int32.toUInt32 31)).toInt32 :: st) h ce sl
  | (.ineg, _, _, _, _) => pI st fun x st => k ls (z_i (-x) :: st) h ce sl
  | (.ladd, _, _, _, _) => pL st fun y st => pL st fun x st => k ls (z_l (x + y) :: st) h ce sl
  | (.lsub, _, _, _, _) => pL st fun y st => pL st fun x st => k ls (z_l (x - y) :: st) h ce sl
  | (.lmul, _, _, _, _) => pL st fun y st => pL st fun x st => k ls (z_l (x * y) :: st) h ce sl
  | (.land, _, _, _, _) => pL st fun y st => pL st fun x st => k ls (z_l (x &&& y) :: st) h ce sl
  | (.lor, _, _, _, _) => pL st fun y st => pL st fun x st => k ls (z_l (x ||| y) :: st) h ce sl
  | (.ldiv, _, _, _, _) => pL st fun y st => pL st fun x st => ¬ y = 0 ∧ k ls (z_l (x / y) :: st) h ce sl
  | (.lrem, _, _, _, _) => pL st fun y st => pL st fun x st => ¬ y = 0 ∧ k ls (z_l (x - x / y * y) :: st) h ce sl
  | (.lneg, _, _, _, _) => pL st fun x st => k ls (z_l (-x) :: st) h ce sl
  | (.lshl, _, _, _, _) => pI st fun y st => pL st fun x st => k ls (z_l (x <<< (y.toInt64 &&& 63)) :: st) h ce sl
  | (.i2l, _, _, _, _) => pI st fun x st => k ls (z_l x.toInt64 :: st) h ce sl
  | (.l2i, _, _, _, _) => pL st fun x st => k ls (z_i x.toInt32 :: st) h ce sl
  | (.i2b, _, _, _, _) => pI st fun x st => k ls (z_i x.toInt8.toInt32 :: st) h ce sl
  | (.i2s, _, _, _, _) => pI st fun x st => k ls (z_i x.toInt16.toInt32 :: st) h ce sl
  | (.lcmp, _, _, _, _) => pL st fun y st => pL st fun x st => k ls (z_i (lg_cmp x y) :: st) h ce sl
  | (.if_icmp c _, _, t, _, _) => pI st fun y st => pI st fun x st => (z_cP c x y → A t ls st h ce sl) ∧ (¬ z_cP c x y → k ls st h ce sl)
  | (.ifCond c _, _, t, _, _) => pI st fun x st => (z_cP c x 0 → A t ls st h ce sl) ∧ (¬ z_cP c x 0 → k ls st h ce sl)
  | (.ifnull _, _, t, _, _) => pR st fun r st => (r = none → A t ls st h ce sl) ∧ (∀ q, r = some q → k ls st h ce sl)
  | (.ifnonnull _, _, t, _, _) => pR st fun r st => (r = none → k ls st h ce sl) ∧ (∀ q, r = some q → A t ls st h ce sl)
  | (.goto _, _, t, _, _) => A t ls st h ce sl
  | (.tableswitch dflt lo hi offs, _, pc, _, _) => pI st fun x st => A (z_sw pc dflt lo hi offs.toList x.toInt) ls st h ce sl
  | (.lookupswitch dflt ps, _, pc, _, _) => pI st fun x st => A (z_lk pc dflt ps.toList x.toInt) ls st h ce sl
  | (.getfield _, _, K, f, 0) => pO st fun K' i st => K' = K ∧ k ls (z_i (hI h K i f) :: st) h ce sl
  | (.getfield _, _, K, f, 3) => pO st fun K' i st => K' = K ∧ k ls (z_i (hI h K i f) :: st) h ce sl
  | (.getfield _, _, K, f, 1) => pO st fun K' i st => K' = K ∧ k ls (z_l (hL h K i f) :: st) h ce sl
  | (.getfield _, _, K, f, 2) => pO st fun K' i st => K' = K ∧ k ls (z_q (hR h K i f) :: st) h ce sl
  | (.putfield _, _, K, f, 0) => pI st fun x st => pO st fun K' i st => K' = K ∧ k ls st (sI h K i f x) ce sl
  | (.putfield _, _, K, f, 3) => pI st fun x st => pO st fun K' i st => K' = K ∧ (x = 0 ∨ x = 1) ∧ k ls st (sI h K i f x) ce sl
  | (.putfield _, _, K, f, 1) => pL st fun x st => pO st fun K' i st => K' = K ∧ k ls st (sL h K i f x) ce sl
  | (.putfield _, _, K, f, 2) => pR st fun x st => pO st fun K' i st => K' = K ∧ k ls st (sR h K i f x) ce sl
  | (.new _, _, K, 0, _) => ce + 1 ≤ MC ∧ sl + kF K ≤ MS ∧ k ls (z_r K (hN h K) :: st) (z_nw h K) (ce + 1) (sl + kF K)
  | (.new _, _, K, 1, _) => 5 ≤ d ∧ z_w st ≤ 6 ∧ ce + 1 ≤ MC ∧ sl + 3 ≤ MS ∧ k ls (z_r K (hN h K) :: st) (z_nw h K) (ce + 1) (sl + 3)
  | (.newarray _, _, K, _, _) => pI st fun n st => n = nI (aLen K) ∧ ce + 1 ≤ MC ∧ sl + aLen K ≤ MS ∧ k ls (z_r K (hN h K) :: st) (z_nw h K) (ce + 1) (sl + aLen K)
  | (.arraylength, _, _, _, _) => pO st fun K i st => K = 400 ∧ i = 0 ∧ k ls (z_i (nI (gL G)) :: st) h ce sl
  | (.iaload, _, _, 1, _) => pI st fun j st => pO st fun K i st => K = 400 ∧ i = 0 ∧ vp_in j (gL G) ∧ k ls (z_i (gV G j.toNatClampNeg) :: st) h ce sl
  | (.iaload, _, _, _, _) => pI st fun j st => pO st fun K i st => aCod K = 0 ∧ vp_in j (aLen K) ∧ k ls (z_i (hI h K i j.toNatClampNeg) :: st) h ce sl
  | (.baload, _, _, _, _) => pI st fun j st => pO st fun K i st => aCod K = 2 ∧ vp_in j (aLen K) ∧ k ls (z_i (hI h K i j.toNatClampNeg) :: st) h ce sl
  | (.laload, _, _, _, _) => pI st fun j st => pO st fun K i st => aCod K = 1 ∧ vp_in j (aLen K) ∧ k ls (z_l (hL h K i j.toNatClampNeg) :: st) h ce sl
  | (.iastore, _, _, _, _) => pI st fun x st => pI st fun j st => pO st fun K i st => aCod K = 0 ∧ vp_in j (aLen K) ∧ k ls st (sI h K i j.toNatClampNeg x) ce sl
  | (.bastore, _, _, _, _) => pI st fun x st => pI st fun j st => pO st fun K i st => aCod K = 2 ∧ vp_in j (aLen K) ∧ (x = 0 ∨ x = 1) ∧ k ls st (sI h K i j.toNatClampNeg x) ce sl
  | (.lastore, _, _, _, _) => pL st fun x st => pI st fun j st => pO st fun K i st => aCod K = 1 ∧ vp_in j (aLen K) ∧ k ls st (sL h K i j.toNatClampNeg x) ce sl
  | (.checkcast _, _, K, _, _) => pO st fun K' i st => K' = K ∧ k ls (z_r K' i :: st) h ce sl
  | (.ireturn, _, _, _, _) => pI st fun x st => st = [] ∧ T (some (z_i x)) h ce sl
  | (.lreturn, _, _, _, _) => pL st fun x st => st = [] ∧ T (some (z_l x)) h ce sl
  | (.areturn, _, _, _, _) => pR st fun x st => st = [] ∧ T (some (z_q x)) h ce sl
  | (.return_, _, _, _, _) => st = [] ∧ T none h ce sl
  | (.invokevirtual idx, _, n, 0, _) => pA n st [] fun as st => z_w st ≤ 8 ∧ z_CP l G d MC MS own idx 0 as h ce sl fun r h ce sl => k ls (r.toList ++ st) h ce sl
  | (.invokestatic idx, _, n, 0, _) => pA n st [] fun as st => z_w st ≤ 8 ∧ z_CP l G d MC MS own idx 1 as h ce sl fun r h ce sl => k ls (r.toList ++ st) h ce sl
  | (.invokespecial idx, _, n, 0, _) => pA n st [] fun as st => z_w st ≤ 8 ∧ z_CP l G d MC MS own idx 2 as h ce sl fun r h ce sl => k ls (r.toList ++ st) h ce sl
  | (.invokespecial _, _, _, 7, _) => pO st fun _ _ st => 1 ≤ d ∧ z_w st ≤ 8 ∧ k ls st h ce sl
  | (.invokevirtual _, _, _, 1, _) => pO st fun K i st => 1 ≤ d ∧ z_w st ≤ 8 ∧ ce ≤ MC ∧ sl ≤ MS ∧ z_lst K = true ∧ k ls (z_i (nI (hZ h K i)) :: st) h ce sl
  | (.invokevirtual _, _, _, 2, _) => pI st fun j st => pO st fun K i st => 4 ≤ d ∧ z_w st ≤ 8 ∧ ce ≤ MC ∧ sl ≤ MS ∧ z_lst K = true ∧ K ≠ 207 ∧ hZ h K i < 100000 ∧ vp_in j (hZ h K i) ∧ k ls (z_r (lT K) j.toNatClampNeg :: st) h ce sl
  | (.invokevirtual _, _, _, 3, _) => pO st fun K' i' st => pO st fun K i st => 8 ≤ d ∧ z_w st ≤ 8 ∧ z_lst K = true ∧ K ≠ 207 ∧ K' = lT K ∧ i' = hZ h K i ∧ hZ h K i < 100000 ∧ ce + z_gc (hZ h K i) ≤ MC ∧ sl + z_gs (hZ h K i) ≤ MS ∧ k ls (z_i 1 :: st) (sZ h K i (hZ h K i + 1)) (ce + z_gc (hZ h K i)) (sl + z_gs (hZ h K i))
  | (.invokestatic _, _, _, 10, _) => pI st fun x st => pO st fun K i st => 8 ≤ d ∧ z_w st ≤ 7 ∧ K = 207 ∧ hZ h 207 i < 100000 ∧ ce + 1 + z_gc (hZ h 207 i) ≤ MC ∧ sl + 1 + z_gs (hZ h 207 i) ≤ MS ∧ ∀ nb, k ls (z_i 1 :: st) (sN (sI (sZ h 207 i (hZ h 207 i + 1)) 207 i (hZ h 207 i) x) 1300 nb) (ce + 1 + z_gc (hZ h 207 i)) (sl + 1 + z_gs (hZ h 207 i))
  | (.invokevirtual _, _, _, 11, _) => pI st fun j st => pO st fun K i st => 4 ≤ d ∧ z_w st ≤ 8 ∧ ce ≤ MC ∧ sl ≤ MS ∧ K = 207 ∧ hZ h 207 i < 100000 ∧ vp_in j (hZ h 207 i) ∧ k ls (z_i (hI h 207 i j.toNatClampNeg) :: st) h ce sl
  | (.invokestatic _, _, _, 6, _) => pI st fun n st => pI st fun dp st => pO st fun K2 i2 st => pI st fun sp st => pO st fun K1 i1 st => 1 ≤ d ∧ z_w st ≤ 8 ∧ K1 = 100 ∧ K2 = 100 ∧ ¬ sp < 0 ∧ ¬ dp < 0 ∧ ¬ n < 0 ∧ sp.toNatClampNeg + n.toNatClampNeg ≤ 60 ∧ dp.toNatClampNeg + n.toNatClampNeg ≤ 60 ∧ k ls st (z_cpy h i1 sp.toNatClampNeg i2 dp.toNatClampNeg n.toNatClampNeg) ce sl
  | _ => False
/-- a stretch of instructions up to ep -/
def z_wp (l : Launch) (G : z_G) (d MC MS : Nat) (own : String) (A : Nat → z_K) (T : Option z_V → z_H → Nat → Nat → Prop) (ep : Nat) : List z_E → z_K
  | [] => A ep
  | e :: r => fun ls st h ce sl => z_stp l G d MC MS own A T e ls st h ce sl (z_wp l G d MC MS own A T ep r)
end
section
/-! how the world is kept: a cell is changed, a cell is made -/
theorem z_OLD.kept {G : z_G} {U : State} {H H1 : Heap} (h : z_OLD G U H) (hs : H.size ≤ H1.size) (hq : ∀ q : Nat, q < gB G → H1[q]? = H[q]?) : z_OLD G U H1 := by
  obtain ⟨h0, h1, h2, a, b, c, d, tc, e, f⟩ := h
  have hk : ∀ a : Nat, a < H.size → ¬ z_A G a → H1[a]? = H[a]? := fun a _ h => hq a (Nat.lt_of_not_le h)
  exact ⟨Nat.le_trans h0 hs, h1, h2.kept (hq _ h1), a.kept hk, b.kept hk, c.kept hk, d.kept hk, tc, e.kept hk, f.kept hk⟩
theorem z_OLD.moved {G : z_G} {u U : State} {H : Heap} (hvm : u.vm.Alike U.vm) (h : z_OLD G u H) : z_OLD G U H := by
  obtain ⟨h0, h1, h2, a, b, c, d, tc, e, f⟩ := h
  exact ⟨h0, h1, h2.moved hvm, a.moved hvm, b.moved hvm, c.moved hvm, d.moved hvm, tc, e.moved hvm, f.moved hvm⟩
theorem z_Mi_moved {C : String} {mi : Nat} {u U : State} (hvm : u.vm.Alike U.vm) (h : va_Mi C mi u) : va_Mi C mi U := by
  first
    | exact h.moved hvm
    | exact va_Mi.moved hvm h
theorem z_Nc_moved {C T : String} {u U : State} (hvm : u.vm.Alike U.vm) (h : va_Nw (.castable C T) u) : va_Nw (.castable C T) U := va_tabs rfl (rfl : (u.setVm U.vm).vm = U.vm) (by rw [Cond.castable_setVm hvm]; exact h)
theorem z_KN.moved {G : z_G} {u U : State} (hvm : u.vm.Alike U.vm) (h : z_KN G u) : z_KN G U := by
  obtain ⟨h1, ⟨mi, h2⟩, h3, h4, h5⟩ := h
  exact ⟨h1.moved hvm, ⟨mi, z_Mi_moved hvm h2⟩, h3.moved hvm, h4.moved hvm, fun C hC => z_Nc_moved hvm (h5 C hC)⟩
theorem z_HR.moved {G : z_G} {ad : Nat → Nat → Nat} {h : z_H} {u U : State} {H : Heap} (hvm : u.vm.Alike U.vm) (hH : z_HR G ad h u H) : z_HR G ad h U H := ⟨hH.1.moved hvm, hH.2⟩
theorem z_EX.rf {h : z_H} {ad : Nat → Nat → Nat} : z_EX h ad h ad := ⟨fun _ => Nat.le_refl _, fun _ _ _ _ => rfl⟩
theorem z_EX.tr {h0 h1 h2 : z_H} {a0 a1 a2 : Nat → Nat → Nat} (h : z_EX h0 a0 h1 a1) (g : z_EX h1 a1 h2 a2) : z_EX h0 a0 h2 a2 :=
  ⟨fun K => Nat.le_trans (h.1 K) (g.1 K), fun K i hK hi => (g.2 K i hK (Nat.lt_of_lt_of_le hi (h.1 K))).trans (h.2 K i hK hi)⟩
theorem z_ok.mono {h h' : z_H} {v : z_V} (hn : ∀ K, hN h K ≤ hN h' K) (hv : z_ok h v) : z_ok h' v := by
  rcases v with x | x | _ | q
  · trivial
  · trivial
  · trivial
  · exact ⟨Nat.lt_of_lt_of_le hv.1 (hn _), hv.2⟩
theorem z_val_ex {h0 h : z_H} {a0 a : Nat → Nat → Nat} {v : z_V} (hE : z_EX h0 a0 h a) (hv : z_ok h0 v) : z_val a v = z_val a0 v := by
  rcases v with x | x | _ | q
  · rfl
  · rfl
  · rfl
  · show Value.ref (a q.1 q.2) = Value.ref (a0 q.1 q.2)
    rw [hE.2 q.1 q.2 hv.2 hv.1]
def z_OK (h : z_H) (ls : z_L) (st : z_S) : Prop := (∀ q ∈ ls, z_ok h q.2) ∧ ∀ v ∈ st, z_ok h v
theorem z_OK.pop {h : z_H} {ls : z_L} {v : z_V} {st : z_S} (hO : z_OK h ls (v :: st)) : z_OK h ls st := ⟨hO.1, fun w hw => hO.2 w (List.mem_cons_of_mem _ hw)⟩
theorem z_OK.top {h : z_H} {ls : z_L} {v : z_V} {st : z_S} (hO : z_OK h ls (v :: st)) : z_ok h v := hO.2 v List.mem_cons_self
theorem z_OK.push {h : z_H} {ls : z_L} {v : z_V} {st : z_S} (hO : z_OK h ls st) (hv : z_ok h v) : z_OK h ls (v :: st) := ⟨hO.1, fun w hw => by
  rcases List.mem_cons.mp hw with rfl | hw
  · exact hv
  · exact hO.2 w hw⟩
theorem z_OK.put {h : z_H} {ls : z_L} {st : z_S} (hO : z_OK h ls st) (i : Nat) {v : z_V} (hv : z_ok h v) : z_OK h (z_put ls i v) st := ⟨fun q hq => by
  rcases z_put_mem hq with rfl | ⟨hq, -⟩
  · exact hv
  · exact hO.1 q hq, hO.2⟩
theorem z_OK.get {h : z_H} {ls : z_L} {st : z_S} (hO : z_OK h ls st) {i : Nat} {v : z_V} (hg : z_get ls i = some v) : z_ok h v := hO.1 (i, v) (z_get_mem hg)
theorem z_OK.mono {h h' : z_H} {ls : z_L} {st : z_S} (hn : ∀ K, hN h K ≤ hN h' K) (hO : z_OK h ls st) : z_OK h' ls st := ⟨fun q hq => (hO.1 q hq).mono hn, fun v hv => (hO.2 v hv).mono hn⟩
def z_lm (ad : Nat → Nat → Nat) (ls : z_L) : List (Nat × Value) := ls.map (fun q => (q.1, z_val ad q.2))
theorem z_lm_ex {h0 h : z_H} {a0 a : Nat → Nat → Nat} {ls : z_L} {st : z_S} (hE : z_EX h0 a0 h a) (hO : z_OK h0 ls st) : z_lm a ls = z_lm a0 ls := by
  unfold z_lm
  exact List.map_congr_left (fun q hq => by rw [z_val_ex hE (hO.1 q hq)])
theorem z_sm_ex {h0 h : z_H} {a0 a : Nat → Nat → Nat} {ls : z_L} {st : z_S} (hE : z_EX h0 a0 h a) (hO : z_OK h0 ls st) : st.map (z_val a) = st.map (z_val a0) := List.map_congr_left (fun v hv => z_val_ex hE (hO.2 v hv))
theorem z_lm_at {ad : Nat → Nat → Nat} {la : Array Slot} {nL : Nat} {ls : z_L} (h : lv_has la nL (z_lm ad ls)) {i : Nat} {v : z_V} (hg : z_get ls i = some v) : la[i]? = some (.val (z_val ad v)) :=
  h.2.2 (i, z_val ad v) (List.mem_map.mpr ⟨(i, v), z_get_mem hg, rfl⟩)
/-- a list of locals that is held, and fewer -/
theorem z_lm_sub {ad : Nat → Nat → Nat} {la : Array Slot} {nL : Nat} {l : List (Nat × Value)} {ls : z_L} (h : lv_has la nL l) (hs : ∀ q ∈ ls, (q.1, z_val ad q.2) ∈ l) : lv_has la nL (z_lm ad ls) := ⟨h.1, h.2.1, fun q hq => by
  obtain ⟨x, hx, rfl⟩ := List.mem_map.mp hq
  exact h.2.2 _ (hs x hx)⟩
theorem z_fv_same {h h' : z_H} {K i : Nat} (e1 : ∀ k, hI h' K i k = hI h K i k) (e2 : ∀ k, hL h' K i k = hL h K i k) (e3 : ∀ k, hR h' K i k = hR h K i k) (k : Nat) : z_fv h' K i k = z_fv h K i k := by
  unfold z_fv
  rw [e1, e2, e3]
theorem z_aVal_same {h h' : z_H} {K i : Nat} (e1 : ∀ k, hI h' K i k = hI h K i k) (e2 : ∀ k, hL h' K i k = hL h K i k) : aVal h' K i = aVal h K i := by
  funext j
  unfold aVal
  rw [e1, e2]
/-- a cell that wasn't touched -/
theorem z_cell_kept {G : z_G} {ad ad' : Nat → Nat → Nat} {h h' : z_H} {H H' : Heap} {K i : Nat} (hc : z_cell G ad h H K i) (e0 : ad' K i = ad K i) (e1 : H'[ad K i]? = H[ad K i]?) (e2 : z_lst K = true → hZ h K i ≠ 0 → ad' (K + 1000) i = ad (K + 1000) i ∧ H'[ad (K + 1000) i]? = H[ad (K + 1000) i]?)
    (e3 : ∀ b, b < hN h 1300 → ad' 1300 b = ad 1300 b ∧ H'[ad 1300 b]? = H[ad 1300 b]?) (e4 : ∀ K i, K < 1000 → i < hN h K → ad' K i = ad K i) (hn : ∀ K, hN h K ≤ hN h' K) (hz : hZ h' K i = hZ h K i)
    (f1 : ∀ k, hI h' K i k = hI h K i k) (f2 : ∀ k, hL h' K i k = hL h K i k) (f3 : ∀ k, hR h' K i k = hR h K i k) (hr : ∀ k q, hR h K i k = some q → q.2 < hN h q.1 ∧ q.1 < 1000) : z_cell G ad' h' H' K i := by
  obtain ⟨c1, c2, c3⟩ := hc
  refine ⟨fun hK => ?_, fun hK => ?_, fun hK => ?_⟩
  · rw [e0]
    refine ((c1 hK).kept e1).to (fun k _ => ?_)
    rw [z_fv_same f1 f2 f3]
    unfold z_fv
    split
    · rfl
    · cases hq : hR h K i k with
      | none => rfl
      | some q =>
        show Value.ref (ad q.1 q.2) = Value.ref (ad' q.1 q.2)
        rw [e4 q.1 q.2 (hr k q hq).2 (hr k q hq).1]
    · rfl
  · rw [e0, e1, z_aVal_same f1 f2]
    exact c2 hK
  · obtain ⟨m, el, g1, g2, g3⟩ := c3 hK
    refine ⟨m, el, ?_, ?_, ?_⟩
    · rw [e0]
      refine (g1.kept e1).to (fun k _ => ?_)
      unfold z_LV
      split
      · rfl
      · rw [hz]
        by_cases hzz : hZ h K i = 0
        · rw [if_pos hzz, if_pos hzz]
        · rw [if_neg hzz, if_neg hzz, (e2 hK hzz).1]
      · rw [hz]
    · intro hne
      rw [hz] at hne ⊢
      rw [(e2 hK hne).1, (e2 hK hne).2]
      exact g2 hne
    · intro j hj
      rw [hz] at hj
      obtain ⟨k1, k2⟩ := g3 j hj
      refine ⟨fun hK2 => ?_, fun hK2 => ?_⟩
      · rw [f1]
        rcases k1 hK2 with q | ⟨b, q1, q2, q3⟩
        · exact Or.inl q
        · refine Or.inr ⟨b, Nat.lt_of_lt_of_le q1 (hn _), by rw [(e3 b q1).1]; exact q2, q3.kept ?_⟩
          rw [q2]
          exact (e3 b q1).2
      · obtain ⟨q1, q2⟩ := k2 hK2
        refine ⟨?_, Nat.lt_of_lt_of_le q2 (hn _)⟩
        rw [e4 (lT K) j ?_ q2]
        · exact q1
        · unfold lT
          split <;> decide
theorem z_live_of {h : z_H} {K i : Nat} (hK : K < 1000) (h4 : K ≠ 400) (hi : i < hN h K) : z_live h K i := Or.inl ⟨hK, h4, hi⟩
/-- one cell of the world has changed -/
theorem z_HR.set {G : z_G} {ad : Nat → Nat → Nat} {h h' : z_H} {U : State} {H H' : Heap} (hH : z_HR G ad h U H) {K i : Nat} (hK : K < 1000) (h4 : K ≠ 400) (hi : i < hN h K) (hsz : H'.size = H.size) (ho : ∀ q : Nat, q ≠ ad K i → H'[q]? = H[q]?)
    (hn : hN h' = hN h) (hz : hZ h' = hZ h) (f1 : ∀ K' i' k, ¬ (K' = K ∧ i' = i) → hI h' K' i' k = hI h K' i' k) (f2 : ∀ K' i' k, ¬ (K' = K ∧ i' = i) → hL h' K' i' k = hL h K' i' k) (f3 : ∀ K' i' k, ¬ (K' = K ∧ i' = i) → hR h' K' i' k = hR h K' i' k)
    (hown : z_cell G ad h' H' K i) (href : ∀ k q, hR h' K i k = some q → q.2 < hN h q.1 ∧ q.1 < 1000) : z_HR G ad h' U H' := by
  obtain ⟨o1, o2, o3, o4, o5, o6⟩ := hH
  have hl : z_live h K i := z_live_of hK h4 hi
  have lv : ∀ K i, z_live h' K i → z_live h K i := fun K i q => by unfold z_live at q ⊢; rw [hn, hz] at q; exact q
  have ne : ∀ K' i', z_live h K' i' → ¬ (K' = K ∧ i' = i) → ad K' i' ≠ ad K i := fun K' i' q hne e => hne (o4 K' i' K i q hl e)
  refine ⟨o1.kept (Nat.le_of_eq hsz.symm) (fun q hq => ho q (fun e => ?_)), o2, fun K i q => by rw [hsz]; exact o3 K i (lv K i q), fun K i K' i' q q' e => o4 K i K' i' (lv K i q) (lv K' i' q') e, fun K' i' hK' hi' => ?_, fun K' i' k q hK' hi' hq => ?_⟩
  · have := (o3 K i hl).1
    omega
  · rw [hn] at hi'
    by_cases hs : K' = K ∧ i' = i
    · rw [hs.1, hs.2]
      exact hown
    · by_cases h4' : K' = 400
      · subst h4'
        refine ⟨fun q => ?_, fun q => ?_, fun q => ?_⟩
        · exact absurd q (by decide)
        · exact absurd rfl q
        · exact absurd q (by decide)
      · have hl' : z_live h K' i' := z_live_of hK' h4' hi'
        refine z_cell_kept (o5 K' i' hK' hi') rfl (ho _ (ne K' i' hl' hs)) (fun hls hzz => ⟨rfl, ho _ (ne _ _ (Or.inr (Or.inl ?_)) (fun q => ?_))⟩) (fun b hb => ⟨rfl, ho _ (ne _ _ (Or.inr (Or.inr ⟨rfl, hb⟩)) (fun q => by omega))⟩) (fun _ _ _ _ => rfl) (fun _ => by rw [hn]; exact Nat.le_refl _) (by rw [hz]) (fun k => f1 _ _ _ hs) (fun k => f2 _ _ _ hs) (fun k => f3 _ _ _ hs) (fun k q hq => o6 _ _ _ _ hK' hi' hq)
        · simp only [z_lst, Bool.and_eq_true, decide_eq_true_eq] at hls
          exact ⟨by omega, by omega, by simpa using hi', by simpa using hzz⟩
        · omega
  · rw [hn] at hi' ⊢
    by_cases hs : K' = K ∧ i' = i
    · rw [hs.1, hs.2] at hq
      exact href k q hq
    · rw [f3 _ _ _ hs] at hq
      exact o6 _ _ _ _ hK' hi' hq
/-- a cell of kind K is made at the heap's end -/
theorem z_HR.new {G : z_G} {ad : Nat → Nat → Nat} {h : z_H} {U : State} {H H' : Heap} (hH : z_HR G ad h U H) {K : Nat} (hK : K < 1000) (h4 : K ≠ 400) (hsz : H'.size = H.size + 1) (ho : ∀ q : Nat, q < H.size → H'[q]? = H[q]?)
    (hown : z_cell G (z_u2 ad K (hN h K) H.size) (z_nw h K) H' K (hN h K)) : z_HR G (z_u2 ad K (hN h K) H.size) (z_nw h K) U H' ∧ z_EX h ad (z_nw h K) (z_u2 ad K (hN h K) H.size) := by
  obtain ⟨o1, o2, o3, o4, o5, o6⟩ := hH
  have hnn : ∀ K', hN (z_nw h K) K' = if K' = K then hN h K + 1 else hN h K' := fun K' => rfl
  have hzn : ∀ A i', hZ (z_nw h K) A i' = if A = K ∧ i' = hN h K then 0 else hZ h A i' := fun A i' => rfl
  have hn : ∀ K', hN h K' ≤ hN (z_nw h K) K' := fun K' => by
    rw [hnn]
    split
    · subst_vars; omega
    · exact Nat.le_refl _
  have lv : ∀ K' i', z_live (z_nw h K) K' i' → (K' = K ∧ i' = hN h K) ∨ (z_live h K' i' ∧ ¬ (K' = K ∧ i' = hN h K)) := by
    intro K' i' q
    rcases q with ⟨q1, q2, q3⟩ | ⟨q1, q2, q3, q4⟩ | ⟨q1, q2⟩
    · rw [hnn] at q3
      by_cases e : K' = K
      · rw [if_pos e] at q3
        subst e
        by_cases e2 : i' = hN h K'
        · exact Or.inl ⟨rfl, e2⟩
        · exact Or.inr ⟨Or.inl ⟨q1, q2, by omega⟩, fun z => e2 z.2⟩
      · rw [if_neg e] at q3
        exact Or.inr ⟨Or.inl ⟨q1, q2, q3⟩, fun z => e z.1⟩
    · refine Or.inr ⟨Or.inr (Or.inl ⟨q1, q2, ?_⟩), fun z => by omega⟩
      rw [hzn] at q4
      by_cases e : K' - 1000 = K ∧ i' = hN h K
      · rw [if_pos e] at q4
        exact absurd rfl q4
      · rw [if_neg e] at q4
        refine ⟨?_, q4⟩
        rw [hnn] at q3
        by_cases e1 : K' - 1000 = K
        · rw [if_pos e1] at q3
          have : ¬ i' = hN h K := fun z => e ⟨e1, z⟩
          rw [e1]
          omega
        · rw [if_neg e1] at q3
          exact q3
    · refine Or.inr ⟨Or.inr (Or.inr ⟨q1, ?_⟩), fun z => by omega⟩
      rw [hnn, if_neg (by omega)] at q2
      exact q2
  have adn : ∀ K' i', ¬ (K' = K ∧ i' = hN h K) → z_u2 ad K (hN h K) H.size K' i' = ad K' i' := fun K' i' q => if_neg q
  have ads : z_u2 ad K (hN h K) H.size K (hN h K) = H.size := if_pos ⟨rfl, rfl⟩
  have ad4 : ∀ K' i', i' < hN h K' → z_u2 ad K (hN h K) H.size K' i' = ad K' i' := fun K' i' q => adn K' i' (fun z => by rw [z.1, z.2] at q; omega)
  have hfr : ∀ {α : Type} (f : Nat → Nat → Nat → α) (K' i' k : Nat) (d : α), ¬ (K' = K ∧ i' = hN h K) → (if K' = K ∧ i' = h.1 K then d else f K' i' k) = f K' i' k := fun f K' i' k d q => if_neg q
  refine ⟨⟨o1.kept (by omega) (fun q hq => ho q (Nat.lt_of_lt_of_le hq o1.1)), by rw [adn _ _ (fun z => h4 z.1.symm)]; exact o2, fun K' i' q => ?_, fun K1 i1 K2 i2 q1 q2 e => ?_, fun K' i' hK' hi' => ?_, fun K' i' k q hK' hi' hq => ?_⟩, hn, fun K' i' _ hi' => ad4 K' i' hi'⟩
  · rcases lv K' i' q with ⟨rfl, rfl⟩ | ⟨q, q'⟩
    · rw [ads]
      exact ⟨o1.1, by omega⟩
    · rw [adn _ _ q']
      have := o3 K' i' q
      exact ⟨this.1, by omega⟩
  · rcases lv K1 i1 q1 with ⟨e1, e2⟩ | ⟨r1, r1'⟩ <;> rcases lv K2 i2 q2 with ⟨e3, e4⟩ | ⟨r2, r2'⟩
    · exact ⟨e1.trans e3.symm, e2.trans e4.symm⟩
    · rw [e1, e2, ads, adn _ _ r2'] at e
      have := (o3 K2 i2 r2).2
      omega
    · rw [e3, e4, ads, adn _ _ r1'] at e
      have := (o3 K1 i1 r1).2
      omega
    · rw [adn _ _ r1', adn _ _ r2'] at e
      exact o4 K1 i1 K2 i2 r1 r2 e
  · by_cases hs : K' = K ∧ i' = hN h K
    · rw [hs.1, hs.2]
      exact hown
    · have hi : i' < hN h K' := by
        rw [hnn] at hi'
        by_cases e1 : K' = K
        · rw [if_pos e1] at hi'
          have : ¬ i' = hN h K := fun z => hs ⟨e1, z⟩
          rw [e1]; omega
        · rw [if_neg e1] at hi'
          exact hi'
      by_cases h4' : K' = 400
      · subst h4'
        exact ⟨fun q => absurd q (by decide), fun q => absurd rfl q, fun q => absurd q (by decide)⟩
      · have hl' := z_live_of hK' h4' hi
        have hlt := (o3 K' i' hl').2
        refine z_cell_kept (o5 K' i' hK' hi) (adn _ _ hs) (ho _ hlt) (fun hls hzz => ?_) (fun b hb => ?_) (fun K2 i2 _ q => ad4 K2 i2 q) hn (if_neg hs) (fun k => hfr _ _ _ _ _ hs) (fun k => hfr _ _ _ _ _ hs) (fun k => hfr _ _ _ _ _ hs) (fun k q hq => o6 _ _ _ _ hK' hi hq)
        · simp only [z_lst, Bool.and_eq_true, decide_eq_true_eq] at hls
          refine ⟨adn _ _ (fun z => by omega), ho _ (o3 (K' + 1000) i' (Or.inr (Or.inl ⟨by omega, by omega, by simpa using hi, by simpa using hzz⟩))).2⟩
        · exact ⟨adn _ _ (fun z => by omega), ho _ (o3 1300 b (Or.inr (Or.inr ⟨rfl, hb⟩))).2⟩
  · have hR' : hR (z_nw h K) K' i' k = if K' = K ∧ i' = hN h K then none else hR h K' i' k := rfl
    rw [hR'] at hq
    by_cases hs : K' = K ∧ i' = hN h K
    · rw [if_pos hs] at hq
      cases hq
    · rw [if_neg hs] at hq
      have hi : i' < hN h K' := by
        rw [hnn] at hi'
        by_cases e1 : K' = K
        · rw [if_pos e1] at hi'
          have : ¬ i' = hN h K := fun z => hs ⟨e1, z⟩
          rw [e1]; omega
        · rw [if_neg e1] at hi'
          exact hi'
      have := o6 _ _ _ _ hK' hi hq
      exact ⟨Nat.lt_of_lt_of_le this.1 (hn _), this.2⟩
end
section
/-! the small machine against the machine: pure instructions -/
section ZS
variable {p : Program} {l : Launch} {e : Env} {R : Room} {s : State} {m : MethodId} {args : Array Value} {below : List Frame} {meth : Method} {c : Code} {G : z_G} {ad0 : Nat → Nat → Nat} {h0 : z_H} {nL : Nat} {Qs : State → Prop} {y : MethodName} {cc : ByteArray} {d MC MS : Nat}
/-- THE JUDGEMENT AT A PC: every heap that is this world's, every frame that holds these locals and this stack, comes to Qs -/
def z_At (p : Program) (l : Launch) (e : Env) (R : Room) (s : State) (m : MethodId) (args : Array Value) (below : List Frame) (meth : Method) (c : Code) (G : z_G) (ad0 : Nat → Nat → Nat) (h0 : z_H) (nL : Nat) (Qs : State → Prop) (pc : Nat) : z_K := fun ls st h ce sl =>
  ∀ (ad : Nat → Nat → Nat) (H : Heap) (locs : List Loc) (la : Array Slot), z_HR G ad h s H → z_EX h0 ad0 h ad → z_OK h ls st → (∀ x ∈ locs, gB G ≤ x.base) → lv_has la nL (z_lm ad ls) → W p l e R s m args below meth c H locs ce sl Qs (F0 m pc la (st.map (z_val ad)))
/-- what holds all through a method -/
def z_Cx (p : Program) (R : Room) (s : State) (m : MethodId) (args : Array Value) (meth : Method) (c : Code) (G : z_G) (y : MethodName) (cc : ByteArray) (nL d MC MS : Nat) : Prop :=
  p.tables.exec = Jvm.exec ∧ c.code = cc ∧ c.maxLocals = nL ∧ s.vm.findClass y.cls = some m.cls ∧ meth.name = y.name ∧ (∀ w ∈ z_tbl, w.before args s = true) ∧ z_KN G s ∧ R.frames = d ∧ 40 * d ≤ R.locals ∧ R.cells = MC ∧ R.slots = MS
variable {pc : Nat} {ls : z_L} {st : z_S} {h : z_H} {ce sl : Nat}
theorem pI_e {st : z_S} {f : Int32 → z_S → Prop} (h : pI st f) : ∃ x r, st = z_i x :: r ∧ f x r := by
  rcases st with _ | ⟨v, r⟩
  · exact h.elim
  · rcases v with x | x | x
    · exact ⟨x, r, rfl, h⟩
    · exact h.elim
    · exact h.elim
theorem pL_e {st : z_S} {f : Int64 → z_S → Prop} (h : pL st f) : ∃ x r, st = z_l x :: r ∧ f x r := by
  rcases st with _ | ⟨v, r⟩
  · exact h.elim
  · rcases v with x | x | x
    · exact h.elim
    · exact ⟨x, r, rfl, h⟩
    · exact h.elim
theorem pR_e {st : z_S} {f : Option (Nat × Nat) → z_S → Prop} (h : pR st f) : ∃ x r, st = z_q x :: r ∧ f x r := by
  rcases st with _ | ⟨v, r⟩
  · exact h.elim
  · rcases v with x | x | x
    · exact h.elim
    · exact h.elim
    · exact ⟨x, r, rfl, h⟩
theorem pO_e {st : z_S} {f : Nat → Nat → z_S → Prop} (h : pO st f) : ∃ K i r, st = z_r K i :: r ∧ f K i r := by
  rcases st with _ | ⟨v, r⟩
  · exact h.elim
  · rcases v with x | x | _ | q
    · exact h.elim
    · exact h.elim
    · exact h.elim
    · exact ⟨q.1, q.2, r, rfl, h⟩
theorem pV_e {st : z_S} {f : z_V → z_S → Prop} (h : pV st f) : ∃ x r, st = x :: r ∧ f x r := by
  rcases st with _ | ⟨v, r⟩
  · exact h.elim
  · exact ⟨v, r, rfl, h⟩
theorem eI_e {o : Option z_V} {f : Int32 → Prop} (h : eI o f) : ∃ x, o = some (z_i x) ∧ f x := by
  rcases o with _ | v
  · exact h.elim
  · rcases v with x | x | x
    · exact ⟨x, rfl, h⟩
    · exact h.elim
    · exact h.elim
theorem eL_e {o : Option z_V} {f : Int64 → Prop} (h : eL o f) : ∃ x, o = some (z_l x) ∧ f x := by
  rcases o with _ | v
  · exact h.elim
  · rcases v with x | x | x
    · exact h.elim
    · exact ⟨x, rfl, h⟩
    · exact h.elim
theorem eR_e {o : Option z_V} {f : Option (Nat × Nat) → Prop} (h : eR o f) : ∃ x, o = some (z_q x) ∧ f x := by
  rcases o with _ | v
  · exact h.elim
  · rcases v with x | x | x
    · exact h.elim
    · exact h.elim
    · exact ⟨x, rfl, h⟩
theorem z_put1 {ad : Nat → Nat → Nat} {la : Array Slot} {nL : Nat} {ls : z_L} {i : Nat} {v : z_V} (hv : z_cat v = 1) (h : lv_has la nL ((i, z_val ad v) :: (z_lm ad ls).filter (fun q => !(q.1 == i) && !(q.1 + 1 == i && q.2.category == 2)))) : lv_has la nL (z_lm ad (z_put ls i v)) := by
  refine z_lm_sub h (fun q hq => ?_)
  rcases z_put_mem hq with rfl | ⟨hq, hne⟩
  · exact List.mem_cons_self
  · refine List.mem_cons_of_mem _ (List.mem_filter.mpr ⟨List.mem_map.mpr ⟨q, hq, rfl⟩, ?_⟩)
    simp only [Bool.and_eq_true, Bool.not_eq_true', beq_eq_false_iff_ne, ne_eq, Bool.and_eq_false_iff]
    refine ⟨fun z => hne (Or.inl z), ?_⟩
    by_cases z : q.1 + 1 = i
    · refine Or.inr (fun z2 => hne (Or.inr (Or.inr ⟨z, ?_⟩)))
      rw [z_val_cat] at z2
      exact z2
    · exact Or.inl z
theorem z_put2 {ad : Nat → Nat → Nat} {la : Array Slot} {nL : Nat} {ls : z_L} {i : Nat} {v : z_V} (hv : z_cat v = 2) (h : lv_has la nL ((i, z_val ad v) :: (z_lm ad ls).filter (fun q => !(q.1 == i) && (!(q.1 == i + 1) && !(q.1 + 1 == i && q.2.category == 2))))) : lv_has la nL (z_lm ad (z_put ls i v)) := by
  refine z_lm_sub h (fun q hq => ?_)
  rcases z_put_mem hq with rfl | ⟨hq, hne⟩
  · exact List.mem_cons_self
  · refine List.mem_cons_of_mem _ (List.mem_filter.mpr ⟨List.mem_map.mpr ⟨q, hq, rfl⟩, ?_⟩)
    simp only [Bool.and_eq_true, Bool.not_eq_true', beq_eq_false_iff_ne, ne_eq, Bool.and_eq_false_iff]
    refine ⟨fun z => hne (Or.inl z), fun z => hne (Or.inr (Or.inl ⟨hv, z⟩)), ?_⟩
    by_cases z : q.1 + 1 = i
    · refine Or.inr (fun z2 => hne (Or.inr (Or.inr ⟨z, ?_⟩)))
      rw [z_val_cat] at z2
      exact z2
    · exact Or.inl z
theorem zs_aconst_null (C : z_Cx p R s m args meth c G y cc nL d MC MS) (hd : decode cc pc = .ok (.aconst_null, 1)) (k : z_At p l e R s m args below meth c G ad0 h0 nL Qs (pc + 1) ls (z_n :: st) h ce sl) : z_At p l e R s m args below meth c G ad0 h0 nL Qs pc ls st h ce sl := by
  intro ad H locs la hH hE hO hl0 hl
  exact lv_null C.1 C.2.1 hd (k ad H locs la hH hE (hO.push trivial) hl0 hl)
theorem zs_iconst (C : z_Cx p R s m args meth c G y cc nL d MC MS) {n : Int} (hd : decode cc pc = .ok (.iconst n, 1)) (k : z_At p l e R s m args below meth c G ad0 h0 nL Qs (pc + 1) ls (z_i (Int32.ofInt n) :: st) h ce sl) : z_At p l e R s m args below meth c G ad0 h0 nL Qs pc ls st h ce sl := by
  intro ad H locs la hH hE hO hl0 hl
  exact lv_iconst C.1 C.2.1 hd rfl (k ad H locs la hH hE (hO.push trivial) hl0 hl)
theorem zs_bipush (C : z_Cx p R s m args meth c G y cc nL d MC MS) {n : Int} (hd : decode cc pc = .ok (.bipush n, 2)) (k : z_At p l e R s m args below meth c G ad0 h0 nL Qs (pc + 2) ls (z_i (Int8.ofInt n).toInt32 :: st) h ce sl) : z_At p l e R s m args below meth c G ad0 h0 nL Qs pc ls st h ce sl := by
  intro ad H locs la hH hE hO hl0 hl
  exact lv_bipush C.1 C.2.1 hd rfl (k ad H locs la hH hE (hO.push trivial) hl0 hl)
theorem zs_sipush (C : z_Cx p R s m args meth c G y cc nL d MC MS) {n : Int} (hd : decode cc pc = .ok (.sipush n, 3)) (k : z_At p l e R s m args below meth c G ad0 h0 nL Qs (pc + 3) ls (z_i (Int16.ofInt n).toInt32 :: st) h ce sl) : z_At p l e R s m args below meth c G ad0 h0 nL Qs pc ls st h ce sl := by
  intro ad H locs la hH hE hO hl0 hl
  exact lv_sipush C.1 C.2.1 hd rfl (k ad H locs la hH hE (hO.push trivial) hl0 hl)
theorem zs_lconst (C : z_Cx p R s m args meth c G y cc nL d MC MS) {n : Fin 2} (hd : decode cc pc = .ok (.lconst n, 1)) (k : z_At p l e R s m args below meth c G ad0 h0 nL Qs (pc + 1) ls (z_l (Int64.ofNat n) :: st) h ce sl) : z_At p l e R s m args below meth c G ad0 h0 nL Qs pc ls st h ce sl := by
  intro ad H locs la hH hE hO hl0 hl
  exact lv_lconst C.1 C.2.1 hd rfl (k ad H locs la hH hE (hO.push trivial) hl0 hl)
theorem zs_ldc (C : z_Cx p R s m args meth c G y cc nL d MC MS) {idx : Nat} {z : Int} (hd : decode cc pc = .ok (.ldc idx, 2)) (hc : Cond.constant y.cls idx (Int32.ofInt z) ∈ z_tbl) (k : z_At p l e R s m args below meth c G ad0 h0 nL Qs (pc + 2) ls (z_i (Int32.ofInt z) :: st) h ce sl) : z_At p l e R s m args below meth c G ad0 h0 nL Qs pc ls st h ce sl := by
  intro ad H locs la hH hE hO hl0 hl
  exact lv_ldc C.1 C.2.1 C.2.2.2.1 (C.2.2.2.2.2.1 _ hc) hd (k ad H locs la hH hE (hO.push trivial) hl0 hl)
theorem zs_ldc2_w (C : z_Cx p R s m args meth c G y cc nL d MC MS) {idx : Nat} {z : Int} (hd : decode cc pc = .ok (.ldc2_w idx, 3)) (hc : Cond.constantLong y.cls idx (Int64.ofInt z) ∈ z_tbl) (k : z_At p l e R s m args below meth c G ad0 h0 nL Qs (pc + 3) ls (z_l (Int64.ofInt z) :: st) h ce sl) : z_At p l e R s m args below meth c G ad0 h0 nL Qs pc ls st h ce sl := by
  intro ad H locs la hH hE hO hl0 hl
  exact lv_ldc2 C.1 C.2.1 C.2.2.2.1 (C.2.2.2.2.2.1 _ hc) hd (k ad H locs la hH hE (hO.push trivial) hl0 hl)
theorem zs_iload (C : z_Cx p R s m args meth c G y cc nL d MC MS) {i : Nat} {x : Int32} (hd : decode cc pc = .ok (.iload i, 2)) (hg : z_get ls i = some (z_i x)) (k : z_At p l e R s m args below meth c G ad0 h0 nL Qs (pc + 2) ls (z_i x :: st) h ce sl) : z_At p l e R s m args below meth c G ad0 h0 nL Qs pc ls st h ce sl := by
  intro ad H locs la hH hE hO hl0 hl
  exact lv_iload C.1 C.2.1 hd (z_lm_at hl hg) (k ad H locs la hH hE (hO.push trivial) hl0 hl)
theorem zs_iload_n (C : z_Cx p R s m args meth c G y cc nL d MC MS) {i : Fin 4} {x : Int32} (hd : decode cc pc = .ok (.iload_n i, 1)) (hg : z_get ls i = some (z_i x)) (k : z_At p l e R s m args below meth c G ad0 h0 nL Qs (pc + 1) ls (z_i x :: st) h ce sl) : z_At p l e R s m args below meth c G ad0 h0 nL Qs pc ls st h ce sl := by
  intro ad H locs la hH hE hO hl0 hl
  exact lv_iload_n C.1 C.2.1 hd rfl (z_lm_at hl hg) (k ad H locs la hH hE (hO.push trivial) hl0 hl)
theorem zs_lload (C : z_Cx p R s m args meth c G y cc nL d MC MS) {i : Nat} {x : Int64} (hd : decode cc pc = .ok (.lload i, 2)) (hg : z_get ls i = some (z_l x)) (k : z_At p l e R s m args below meth c G ad0 h0 nL Qs (pc + 2) ls (z_l x :: st) h ce sl) : z_At p l e R s m args below meth c G ad0 h0 nL Qs pc ls st h ce sl := by
  intro ad H locs la hH hE hO hl0 hl
  exact lv_lload C.1 C.2.1 hd (z_lm_at hl hg) (k ad H locs la hH hE (hO.push trivial) hl0 hl)
theorem zs_lload_n (C : z_Cx p R s m args meth c G y cc nL d MC MS) {i : Fin 4} {x : Int64} (hd : decode cc pc = .ok (.lload_n i, 1)) (hg : z_get ls i = some (z_l x)) (k : z_At p l e R s m args below meth c G ad0 h0 nL Qs (pc + 1) ls (z_l x :: st) h ce sl) : z_At p l e R s m args below meth c G ad0 h0 nL Qs pc ls st h ce sl := by
  intro ad H locs la hH hE hO hl0 hl
  exact lv_lload_n C.1 C.2.1 hd rfl (z_lm_at hl hg) (k ad H locs la hH hE (hO.push trivial) hl0 hl)
theorem zs_aload (C : z_Cx p R s m args meth c G y cc nL d MC MS) {i : Nat} {x : Option (Nat × Nat)} (hd : decode cc pc = .ok (.aload i, 2)) (hg : z_get ls i = some (z_q x)) (k : z_At p l e R s m args below meth c G ad0 h0 nL Qs (pc + 2) ls (z_q x :: st) h ce sl) : z_At p l e R s m args below meth c G ad0 h0 nL Qs pc ls st h ce sl := by
  intro ad H locs la hH hE hO hl0 hl
  have hk := k ad H locs la hH hE (hO.push (hO.get hg)) hl0 hl
  have ha := z_lm_at hl hg
  cases x with
  | none => exact lv_aloadN C.1 C.2.1 hd ha hk
  | some q => exact lv_aload C.1 C.2.1 hd ha hk
theorem zs_aload_n (C : z_Cx p R s m args meth c G y cc nL d MC MS) {i : Fin 4} {x : Option (Nat × Nat)} (hd : decode cc pc = .ok (.aload_n i, 1)) (hg : z_get ls i = some (z_q x)) (k : z_At p l e R s m args below meth c G ad0 h0 nL Qs (pc + 1) ls (z_q x :: st) h ce sl) : z_At p l e R s m args below meth c G ad0 h0 nL Qs pc ls st h ce sl := by
  intro ad H locs la hH hE hO hl0 hl
  have hk := k ad H locs la hH hE (hO.push (hO.get hg)) hl0 hl
  have ha := z_lm_at hl hg
  cases x with
  | none => exact lv_aload_nN C.1 C.2.1 hd rfl ha hk
  | some q => exact lv_aload_n C.1 C.2.1 hd rfl ha hk
theorem zs_istore (C : z_Cx p R s m args meth c G y cc nL d MC MS) {i : Nat} {x : Int32} (hd : decode cc pc = .ok (.istore i, 2)) (hi : i < nL) (k : z_At p l e R s m args below meth c G ad0 h0 nL Qs (pc + 2) (z_put ls i (z_i x)) st h ce sl) : z_At p l e R s m args below meth c G ad0 h0 nL Qs pc ls (z_i x :: st) h ce sl := by
  intro ad H locs la hH hE hO hl0 hl
  exact lv_istore C.1 C.2.1 hd hl hi rfl (fun la hl => k ad H locs la hH hE (hO.pop.put i trivial) hl0 (z_put1 rfl hl))
theorem zs_istore_n (C : z_Cx p R s m args meth c G y cc nL d MC MS) {i : Fin 4} {x : Int32} (hd : decode cc pc = .ok (.istore_n i, 1)) (hi : (i : Nat) < nL) (k : z_At p l e R s m args below meth c G ad0 h0 nL Qs (pc + 1) (z_put ls i (z_i x)) st h ce sl) : z_At p l e R s m args below meth c G ad0 h0 nL Qs pc ls (z_i x :: st) h ce sl := by
  intro ad H locs la hH hE hO hl0 hl
  exact lv_istore_n C.1 C.2.1 hd rfl hl hi rfl (fun la hl => k ad H locs la hH hE (hO.pop.put i trivial) hl0 (z_put1 rfl hl))
theorem zs_lstore (C : z_Cx p R s m args meth c G y cc nL d MC MS) {i : Nat} {x : Int64} (hd : decode cc pc = .ok (.lstore i, 2)) (hi : i + 1 < nL) (k : z_At p l e R s m args below meth c G ad0 h0 nL Qs (pc + 2) (z_put ls i (z_l x)) st h ce sl) : z_At p l e R s m args below meth c G ad0 h0 nL Qs pc ls (z_l x :: st) h ce sl := by
  intro ad H locs la hH hE hO hl0 hl
  exact lv_lstore C.1 C.2.1 hd hl hi rfl (fun la hl => k ad H locs la hH hE (hO.pop.put i trivial) hl0 (z_put2 rfl hl))
theorem zs_lstore_n (C : z_Cx p R s m args meth c G y cc nL d MC MS) {i : Fin 4} {x : Int64} (hd : decode cc pc = .ok (.lstore_n i, 1)) (hi : (i : Nat) + 1 < nL) (k : z_At p l e R s m args below meth c G ad0 h0 nL Qs (pc + 1) (z_put ls i (z_l x)) st h ce sl) : z_At p l e R s m args below meth c G ad0 h0 nL Qs pc ls (z_l x :: st) h ce sl := by
  intro ad H locs la hH hE hO hl0 hl
  exact lv_lstore_n C.1 C.2.1 hd rfl hl hi rfl (fun la hl => k ad H locs la hH hE (hO.pop.put i trivial) hl0 (z_put2 rfl hl))
theorem zs_astore (C : z_Cx p R s m args meth c G y cc nL d MC MS) {i : Nat} {x : Option (Nat × Nat)} (hd : decode cc pc = .ok (.astore i, 2)) (hi : i < nL) (k : z_At p l e R s m args below meth c G ad0 h0 nL Qs (pc + 2) (z_put ls i (z_q x)) st h ce sl) : z_At p l e R s m args below meth c G ad0 h0 nL Qs pc ls (z_q x :: st) h ce sl := by
  intro ad H locs la hH hE hO hl0 hl
  cases x with
  | none => exact lv_astoreN C.1 C.2.1 hd hl hi rfl (fun la hl => k ad H locs la hH hE (hO.pop.put i hO.top) hl0 (z_put1 rfl hl))
  | some q => exact lv_astore C.1 C.2.1 hd hl hi rfl (fun la hl => k ad H locs la hH hE (hO.pop.put i hO.top) hl0 (z_put1 rfl hl))
theorem zs_astore_n (C : z_Cx p R s m args meth c G y cc nL d MC MS) {i : Fin 4} {x : Option (Nat × Nat)} (hd : decode cc pc = .ok (.astore_n i, 1)) (hi : (i : Nat) < nL) (k : z_At p l e R s m args below meth c G ad0 h0 nL Qs (pc + 1) (z_put ls i (z_q x)) st h ce sl) : z_At p l e R s m args below meth c G ad0 h0 nL Qs pc ls (z_q x :: st) h ce sl := by
  intro ad H locs la hH hE hO hl0 hl
  cases x with
  | none => exact lv_astore_nN C.1 C.2.1 hd rfl hl hi rfl (fun la hl => k ad H locs la hH hE (hO.pop.put i hO.top) hl0 (z_put1 rfl hl))
  | some q => exact lv_astore_n C.1 C.2.1 hd rfl hl hi rfl (fun la hl => k ad H locs la hH hE (hO.pop.put i hO.top) hl0 (z_put1 rfl hl))
theorem zs_iinc (C : z_Cx p R s m args meth c G y cc nL d MC MS) {i : Nat} {n : Int} {x : Int32} (hd : decode cc pc = .ok (.iinc i n, 3)) (hi : i < nL) (hg : z_get ls i = some (z_i x)) (k : z_At p l e R s m args below meth c G ad0 h0 nL Qs (pc + 3) (z_put ls i (z_i (x + Int32.ofInt n))) st h ce sl) : z_At p l e R s m args below meth c G ad0 h0 nL Qs pc ls st h ce sl := by
  intro ad H locs la hH hE hO hl0 hl
  obtain ⟨j, hj⟩ := List.getElem?_of_mem (show (i, Value.int x) ∈ z_lm ad ls from List.mem_map.mpr ⟨(i, z_i x), z_get_mem hg, rfl⟩)
  exact lv_iinc C.1 C.2.1 hd hl hj rfl hi rfl (fun la hl => k ad H locs la hH hE (hO.put i trivial) hl0 (z_put1 rfl hl))
theorem zs_dup (C : z_Cx p R s m args meth c G y cc nL d MC MS) {v : z_V} (hd : decode cc pc = .ok (.dup, 1)) (hv : z_cat v = 1) (k : z_At p l e R s m args below meth c G ad0 h0 nL Qs (pc + 1) ls (v :: v :: st) h ce sl) : z_At p l e R s m args below meth c G ad0 h0 nL Qs pc ls (v :: st) h ce sl := by
  intro ad H locs la hH hE hO hl0 hl
  exact lv_dup C.1 C.2.1 hd ((z_val_cat ad v).trans hv) (k ad H locs la hH hE (hO.push hO.top) hl0 hl)
theorem zs_pop (C : z_Cx p R s m args meth c G y cc nL d MC MS) {v : z_V} (hd : decode cc pc = .ok (.pop, 1)) (hv : z_cat v = 1) (k : z_At p l e R s m args below meth c G ad0 h0 nL Qs (pc + 1) ls st h ce sl) : z_At p l e R s m args below meth c G ad0 h0 nL Qs pc ls (v :: st) h ce sl := by
  intro ad H locs la hH hE hO hl0 hl
  exact lv_pop C.1 C.2.1 hd ((z_val_cat ad v).trans hv) (k ad H locs la hH hE hO.pop hl0 hl)
theorem zs_dup2 (C : z_Cx p R s m args meth c G y cc nL d MC MS) {v w : z_V} (hd : decode cc pc = .ok (.dup2, 1)) (hv : z_cat v = 1) (hw : z_cat w = 1) (k : z_At p l e R s m args below meth c G ad0 h0 nL Qs (pc + 1) ls (v :: w :: v :: w :: st) h ce sl) : z_At p l e R s m args below meth c G ad0 h0 nL Qs pc ls (v :: w :: st) h ce sl := by
  intro ad H locs la hH hE hO hl0 hl
  exact lv_dup2_11 C.1 C.2.1 hd ((z_val_cat ad v).trans hv) ((z_val_cat ad w).trans hw) (k ad H locs la hH hE ((hO.push hO.pop.top).push hO.top) hl0 hl)
theorem zs_iadd (C : z_Cx p R s m args meth c G y cc nL d MC MS) {x : Int32} {v : Int32} (hd : decode cc pc = .ok (.iadd, 1)) (k : z_At p l e R s m args below meth c G ad0 h0 nL Qs (pc + 1) ls (z_i (x + v) :: st) h ce sl) : z_At p l e R s m args below meth c G ad0 h0 nL Qs pc ls (z_i v :: z_i x :: st) h ce sl := by
  intro ad H locs la hH hE hO hl0 hl
  exact lv_iadd C.1 C.2.1 hd (k ad H locs la hH hE (hO.pop.pop.push trivial) hl0 hl)
theorem zs_isub (C : z_Cx p R s m args meth c G y cc nL d MC MS) {x : Int32} {v : Int32} (hd : decode cc pc = .ok (.isub, 1)) (k : z_At p l e R s m args below meth c G ad0 h0 nL Qs (pc + 1) ls (z_i (x - v) :: st) h ce sl) : z_At p l e R s m args below meth c G ad0 h0 nL Qs pc ls (z_i v :: z_i x :: st) h ce sl := by
  intro ad H locs la hH hE hO hl0 hl
  exact lv_isub C.1 C.2.1 hd (k ad H locs la hH hE (hO.pop.pop.push trivial) hl0 hl)
theorem zs_imul (C : z_Cx p R s m args meth c G y cc nL d MC MS) {x : Int32} {v : Int32} (hd : decode cc pc = .ok (.imul, 1)) (k : z_At p l e R s m args below meth c G ad0 h0 nL Qs (pc + 1) ls (z_i (x * v) :: st) h ce sl) : z_At p l e R s m args below meth c G ad0 h0 nL Qs pc ls (z_i v :: z_i x :: st) h ce sl := by
  intro ad H locs la hH hE hO hl0 hl
  exact lv_imul C.1 C.2.1 hd (k ad H locs la hH hE (hO.pop.pop.push trivial) hl0 hl)
theorem zs_iand (C : z_Cx p R s m args meth c G y cc nL d MC MS) {x : Int32} {v : Int32} (hd : decode cc pc = .ok (.iand, 1)) (k : z_At p l e R s m args below meth c G ad0 h0 nL Qs (pc + 1) ls (z_i (x &&& v) :: st) h ce sl) : z_At p l e R s m args below meth c G ad0 h0 nL Qs pc ls (z_i v :: z_i x :: st) h ce sl := by
  intro ad H locs la hH hE hO hl0 hl
  exact lv_iand C.1 C.2.1 hd (k ad H locs la hH hE (hO.pop.pop.push trivial) hl0 hl)
theorem zs_iushr (C : z_Cx p R s m args meth c G y cc nL d MC MS) {x : Int32} {v : Int32} (hd : decode cc pc = .ok (.iushr, 1)) (k : z_At p l e R s m args below meth c G ad0 h0 nL Qs (pc + 1) ls (z_i ((x.toUInt32 >>> (v.toUInt32 &&& Int32.toUInt32 31)).toInt32) :: st) h ce sl) : z_At p l e R s m args below meth c G ad0 h0 nL Qs pc ls (z_i v :: z_i x :: st) h ce sl := by
  intro ad H locs la hH hE hO hl0 hl
  exact lv_iushr C.1 C.2.1 hd rfl (k ad H locs la hH hE (hO.pop.pop.push trivial) hl0 hl)
theorem zs_ladd (C : z_Cx p R s m args meth c G y cc nL d MC MS) {x : Int64} {v : Int64} (hd : decode cc pc = .ok (.ladd, 1)) (k : z_At p l e R s m args below meth c G ad0 h0 nL Qs (pc + 1) ls (z_l (x + v) :: st) h ce sl) : z_At p l e R s m args below meth c G ad0 h0 nL Qs pc ls (z_l v :: z_l x :: st) h ce sl := by
  intro ad H locs la hH hE hO hl0 hl
  exact lv_ladd C.1 C.2.1 hd (k ad H locs la hH hE (hO.pop.pop.push trivial) hl0 hl)
theorem zs_lsub (C : z_Cx p R s m args meth c G y cc nL d MC MS) {x : Int64} {v : Int64} (hd : decode cc pc = .ok (.lsub, 1)) (k : z_At p l e R s m args below meth c G ad0 h0 nL Qs (pc + 1) ls (z_l (x - v) :: st) h ce sl) : z_At p l e R s m args below meth c G ad0 h0 nL Qs pc ls (z_l v :: z_l x :: st) h ce sl := by
  intro ad H locs la hH hE hO hl0 hl
  exact lv_lsub C.1 C.2.1 hd (k ad H locs la hH hE (hO.pop.pop.push trivial) hl0 hl)
theorem zs_lmul (C : z_Cx p R s m args meth c G y cc nL d MC MS) {x : Int64} {v : Int64} (hd : decode cc pc = .ok (.lmul, 1)) (k : z_At p l e R s m args below meth c G ad0 h0 nL Qs (pc + 1) ls (z_l (x * v) :: st) h ce sl) : z_At p l e R s m args below meth c G ad0 h0 nL Qs pc ls (z_l v :: z_l x :: st) h ce sl := by
  intro ad H locs la hH hE hO hl0 hl
  exact lv_lmul C.1 C.2.1 hd (k ad H locs la hH hE (hO.pop.pop.push trivial) hl0 hl)
theorem zs_land (C : z_Cx p R s m args meth c G y cc nL d MC MS) {x : Int64} {v : Int64} (hd : decode cc pc = .ok (.land, 1)) (k : z_At p l e R s m args below meth c G ad0 h0 nL Qs (pc + 1) ls (z_l (x &&& v) :: st) h ce sl) : z_At p l e R s m args below meth c G ad0 h0 nL Qs pc ls (z_l v :: z_l x :: st) h ce sl := by
  intro ad H locs la hH hE hO hl0 hl
  exact lv_land C.1 C.2.1 hd (k ad H locs la hH hE (hO.pop.pop.push trivial) hl0 hl)
theorem zs_lor (C : z_Cx p R s m args meth c G y cc nL d MC MS) {x : Int64} {v : Int64} (hd : decode cc pc = .ok (.lor, 1)) (k : z_At p l e R s m args below meth c G ad0 h0 nL Qs (pc + 1) ls (z_l (x ||| v) :: st) h ce sl) : z_At p l e R s m args below meth c G ad0 h0 nL Qs pc ls (z_l v :: z_l x :: st) h ce sl := by
  intro ad H locs la hH hE hO hl0 hl
  exact lv_lor C.1 C.2.1 hd (k ad H locs la hH hE (hO.pop.pop.push trivial) hl0 hl)
theorem zs_ldiv (C : z_Cx p R s m args meth c G y cc nL d MC MS) {x : Int64} {v : Int64} (hd : decode cc pc = .ok (.ldiv, 1)) (hne : ¬ v = 0) (k : z_At p l e R s m args below meth c G ad0 h0 nL Qs (pc + 1) ls (z_l (x / v) :: st) h ce sl) : z_At p l e R s m args below meth c G ad0 h0 nL Qs pc ls (z_l v :: z_l x :: st) h ce sl := by
  intro ad H locs la hH hE hO hl0 hl
  exact lv_ldiv C.1 C.2.1 hd hne (k ad H locs la hH hE (hO.pop.pop.push trivial) hl0 hl)
theorem zs_lrem (C : z_Cx p R s m args meth c G y cc nL d MC MS) {x : Int64} {v : Int64} (hd : decode cc pc = .ok (.lrem, 1)) (hne : ¬ v = 0) (k : z_At p l e R s m args below meth c G ad0 h0 nL Qs (pc + 1) ls (z_l (x - x / v * v) :: st) h ce sl) : z_At p l e R s m args below meth c G ad0 h0 nL Qs pc ls (z_l v :: z_l x :: st) h ce sl := by
  intro ad H locs la hH hE hO hl0 hl
  exact lv_lrem C.1 C.2.1 hd hne (k ad H locs la hH hE (hO.pop.pop.push trivial) hl0 hl)
theorem zs_lshl (C : z_Cx p R s m args meth c G y cc nL d MC MS) {x : Int64} {v : Int32} (hd : decode cc pc = .ok (.lshl, 1)) (k : z_At p l e R s m args below meth c G ad0 h0 nL Qs (pc + 1) ls (z_l (x <<< (v.toInt64 &&& 63)) :: st) h ce sl) : z_At p l e R s m args below meth c G ad0 h0 nL Qs pc ls (z_i v :: z_l x :: st) h ce sl := by
  intro ad H locs la hH hE hO hl0 hl
  exact lv_lshl C.1 C.2.1 hd rfl (k ad H locs la hH hE (hO.pop.pop.push trivial) hl0 hl)
theorem zs_lcmp (C : z_Cx p R s m args meth c G y cc nL d MC MS) {x : Int64} {v : Int64} (hd : decode cc pc = .ok (.lcmp, 1)) (k : z_At p l e R s m args below meth c G ad0 h0 nL Qs (pc + 1) ls (z_i (lg_cmp x v) :: st) h ce sl) : z_At p l e R s m args below meth c G ad0 h0 nL Qs pc ls (z_l v :: z_l x :: st) h ce sl := by
  intro ad H locs la hH hE hO hl0 hl
  exact W.lcmp C.1 C.2.1 hd (k ad H locs la hH hE (hO.pop.pop.push trivial) hl0 hl)
theorem zs_ineg (C : z_Cx p R s m args meth c G y cc nL d MC MS) {x : Int32} (hd : decode cc pc = .ok (.ineg, 1)) (k : z_At p l e R s m args below meth c G ad0 h0 nL Qs (pc + 1) ls (z_i (-x) :: st) h ce sl) : z_At p l e R s m args below meth c G ad0 h0 nL Qs pc ls (z_i x :: st) h ce sl := by
  intro ad H locs la hH hE hO hl0 hl
  exact lv_ineg C.1 C.2.1 hd (k ad H locs la hH hE (hO.pop.push trivial) hl0 hl)
theorem zs_lneg (C : z_Cx p R s m args meth c G y cc nL d MC MS) {x : Int64} (hd : decode cc pc = .ok (.lneg, 1)) (k : z_At p l e R s m args below meth c G ad0 h0 nL Qs (pc + 1) ls (z_l (-x) :: st) h ce sl) : z_At p l e R s m args below meth c G ad0 h0 nL Qs pc ls (z_l x :: st) h ce sl := by
  intro ad H locs la hH hE hO hl0 hl
  exact lv_lneg C.1 C.2.1 hd (k ad H locs la hH hE (hO.pop.push trivial) hl0 hl)
theorem zs_i2l (C : z_Cx p R s m args meth c G y cc nL d MC MS) {x : Int32} (hd : decode cc pc = .ok (.i2l, 1)) (k : z_At p l e R s m args below meth c G ad0 h0 nL Qs (pc + 1) ls (z_l (x.toInt64) :: st) h ce sl) : z_At p l e R s m args below meth c G ad0 h0 nL Qs pc ls (z_i x :: st) h ce sl := by
  intro ad H locs la hH hE hO hl0 hl
  exact lv_i2l C.1 C.2.1 hd rfl (k ad H locs la hH hE (hO.pop.push trivial) hl0 hl)
theorem zs_l2i (C : z_Cx p R s m args meth c G y cc nL d MC MS) {x : Int64} (hd : decode cc pc = .ok (.l2i, 1)) (k : z_At p l e R s m args below meth c G ad0 h0 nL Qs (pc + 1) ls (z_i (x.toInt32) :: st) h ce sl) : z_At p l e R s m args below meth c G ad0 h0 nL Qs pc ls (z_l x :: st) h ce sl := by
  intro ad H locs la hH hE hO hl0 hl
  exact lv_l2i C.1 C.2.1 hd rfl (k ad H locs la hH hE (hO.pop.push trivial) hl0 hl)
theorem zs_i2b (C : z_Cx p R s m args meth c G y cc nL d MC MS) {x : Int32} (hd : decode cc pc = .ok (.i2b, 1)) (k : z_At p l e R s m args below meth c G ad0 h0 nL Qs (pc + 1) ls (z_i (x.toInt8.toInt32) :: st) h ce sl) : z_At p l e R s m args below meth c G ad0 h0 nL Qs pc ls (z_i x :: st) h ce sl := by
  intro ad H locs la hH hE hO hl0 hl
  exact lv_i2b C.1 C.2.1 hd rfl (k ad H locs la hH hE (hO.pop.push trivial) hl0 hl)
theorem zs_i2s (C : z_Cx p R s m args meth c G y cc nL d MC MS) {x : Int32} (hd : decode cc pc = .ok (.i2s, 1)) (k : z_At p l e R s m args below meth c G ad0 h0 nL Qs (pc + 1) ls (z_i (x.toInt16.toInt32) :: st) h ce sl) : z_At p l e R s m args below meth c G ad0 h0 nL Qs pc ls (z_i x :: st) h ce sl := by
  intro ad H locs la hH hE hO hl0 hl
  exact lv_i2s C.1 C.2.1 hd rfl (k ad H locs la hH hE (hO.pop.push trivial) hl0 hl)
theorem zs_if_icmp (C : z_Cx p R s m args meth c G y cc nL d MC MS) {cd : ClassFile.Cond} {off : Int} {t : Nat} {x v : Int32} (hd : decode cc pc = .ok (.if_icmp cd off, 3)) (ht : (pc : Int) + off = (t : Int)) (k1 : z_cP cd x v → z_At p l e R s m args below meth c G ad0 h0 nL Qs t ls st h ce sl) (k2 : ¬ z_cP cd x v → z_At p l e R s m args below meth c G ad0 h0 nL Qs (pc + 3) ls st h ce sl) : z_At p l e R s m args below meth c G ad0 h0 nL Qs pc ls (z_i v :: z_i x :: st) h ce sl := by
  intro ad H locs la hH hE hO hl0 hl
  have K1 := fun q => k1 q ad H locs la hH hE hO.pop.pop hl0 hl
  have K2 := fun q => k2 q ad H locs la hH hE hO.pop.pop hl0 hl
  cases cd with
  | eq => exact lv_icmp_eq C.1 C.2.1 hd ht (fun q => K1 q) (fun q => K2 q)
  | ne => exact lv_icmp_ne C.1 C.2.1 hd ht (fun q => K1 q) (fun q => K2 (fun z => z q))
  | lt => exact lv_icmp_lt C.1 C.2.1 hd ht (fun q => K1 q) (fun q => K2 q)
  | ge => exact lv_icmp_ge C.1 C.2.1 hd ht (fun q => K1 q) (fun q => K2 q)
  | gt => exact lv_icmp_gt C.1 C.2.1 hd ht (fun q => K1 q) (fun q => K2 q)
  | le => exact lv_icmp_le C.1 C.2.1 hd ht (fun q => K1 q) (fun q => K2 q)
theorem zs_ifCond (C : z_Cx p R s m args meth c G y cc nL d MC MS) {cd : ClassFile.Cond} {off : Int} {t : Nat} {x : Int32} (hd : decode cc pc = .ok (.ifCond cd off, 3)) (ht : (pc : Int) + off = (t : Int)) (k1 : z_cP cd x 0 → z_At p l e R s m args below meth c G ad0 h0 nL Qs t ls st h ce sl) (k2 : ¬ z_cP cd x 0 → z_At p l e R s m args below meth c G ad0 h0 nL Qs (pc + 3) ls st h ce sl) : z_At p l e R s m args below meth c G ad0 h0 nL Qs pc ls (z_i x :: st) h ce sl := by
  intro ad H locs la hH hE hO hl0 hl
  have K1 := fun q => k1 q ad H locs la hH hE hO.pop hl0 hl
  have K2 := fun q => k2 q ad H locs la hH hE hO.pop hl0 hl
  cases cd with
  | eq => exact lv_if_eq C.1 C.2.1 hd ht (fun q => K1 q) (fun q => K2 q)
  | ne => exact lv_if_ne C.1 C.2.1 hd ht (fun q => K1 q) (fun q => K2 (fun z => z q))
  | lt => exact lv_if_lt C.1 C.2.1 hd ht (fun q => K1 q) (fun q => K2 q)
  | ge => exact lv_if_ge C.1 C.2.1 hd ht (fun q => K1 q) (fun q => K2 q)
  | gt => exact lv_if_gt C.1 C.2.1 hd ht (fun q => K1 q) (fun q => K2 q)
  | le => exact lv_if_le C.1 C.2.1 hd ht (fun q => K1 q) (fun q => K2 q)
theorem zs_ifnull (C : z_Cx p R s m args meth c G y cc nL d MC MS) {off : Int} {t : Nat} {r : Option (Nat × Nat)} (hd : decode cc pc = .ok (.ifnull off, 3)) (ht : (pc : Int) + off = (t : Int)) (k1 : r = none → z_At p l e R s m args below meth c G ad0 h0 nL Qs t ls st h ce sl) (k2 : ∀ q, r = some q → z_At p l e R s m args below meth c G ad0 h0 nL Qs (pc + 3) ls st h ce sl) : z_At p l e R s m args below meth c G ad0 h0 nL Qs pc ls (z_q r :: st) h ce sl := by
  intro ad H locs la hH hE hO hl0 hl
  cases r with
  | none => exact lv_ifnullN C.1 C.2.1 hd ht (k1 rfl ad H locs la hH hE hO.pop hl0 hl)
  | some q => exact lv_ifnull C.1 C.2.1 hd (k2 q rfl ad H locs la hH hE hO.pop hl0 hl)
theorem zs_ifnonnull (C : z_Cx p R s m args meth c G y cc nL d MC MS) {off : Int} {t : Nat} {r : Option (Nat × Nat)} (hd : decode cc pc = .ok (.ifnonnull off, 3)) (ht : (pc : Int) + off = (t : Int)) (k1 : r = none → z_At p l e R s m args below meth c G ad0 h0 nL Qs (pc + 3) ls st h ce sl) (k2 : ∀ q, r = some q → z_At p l e R s m args below meth c G ad0 h0 nL Qs t ls st h ce sl) : z_At p l e R s m args below meth c G ad0 h0 nL Qs pc ls (z_q r :: st) h ce sl := by
  intro ad H locs la hH hE hO hl0 hl
  cases r with
  | none => exact lv_ifnonnullN C.1 C.2.1 hd (k1 rfl ad H locs la hH hE hO.pop hl0 hl)
  | some q => exact lv_ifnonnull C.1 C.2.1 hd ht (k2 q rfl ad H locs la hH hE hO.pop hl0 hl)
theorem zs_goto (C : z_Cx p R s m args meth c G y cc nL d MC MS) {off : Int} {t : Nat} (hd : decode cc pc = .ok (.goto off, 3)) (ht : (pc : Int) + off = (t : Int)) (k : z_At p l e R s m args below meth c G ad0 h0 nL Qs t ls st h ce sl) : z_At p l e R s m args below meth c G ad0 h0 nL Qs pc ls st h ce sl := by
  intro ad H locs la hH hE hO hl0 hl
  exact lv_goto C.1 C.2.1 hd ht (k ad H locs la hH hE hO hl0 hl)
theorem zs_tableswitch (C : z_Cx p R s m args meth c G y cc nL d MC MS) {dflt lo hi : Int} {offs : Array Int} {n : Nat} {x : Int32} (hd : decode cc pc = .ok (.tableswitch dflt lo hi offs, n)) (h1 : 0 ≤ (pc : Int) + dflt) (h2 : ∀ o ∈ offs.toList, 0 ≤ (pc : Int) + o) (h3 : hi - lo + 1 = offs.size) (k : z_At p l e R s m args below meth c G ad0 h0 nL Qs (z_sw pc dflt lo hi offs.toList x.toInt) ls st h ce sl) : z_At p l e R s m args below meth c G ad0 h0 nL Qs pc ls (z_i x :: st) h ce sl := by
  intro ad H locs la hH hE hO hl0 hl
  have K := k ad H locs la hH hE hO.pop hl0 hl
  unfold z_sw at K
  by_cases hq : x.toInt < lo ∨ hi < x.toInt
  · rw [if_pos hq] at K
    exact lv_tableOut C.1 C.2.1 hd hq (Int.toNat_of_nonneg h1).symm K
  · rw [if_neg hq] at K
    have hj : (x.toInt - lo).toNat < offs.size := by omega
    have ho : offs.toList[(x.toInt - lo).toNat]? = some (offs[(x.toInt - lo).toNat]) := by
      rw [Array.getElem?_toList]
      exact Array.getElem?_eq_getElem hj
    have hg : offs.toList.getD (x.toInt - lo).toNat 0 = offs[(x.toInt - lo).toNat] := by
      rw [List.getD_eq_getElem?_getD, ho]
      rfl
    rw [hg] at K
    exact lv_tableIn C.1 C.2.1 hd (fun z => hq (Or.inl z)) (fun z => hq (Or.inr z)) (Array.getElem?_eq_getElem hj) (Int.toNat_of_nonneg (h2 _ (List.mem_of_getElem? ho))).symm K
theorem zs_lookupswitch (C : z_Cx p R s m args meth c G y cc nL d MC MS) {dflt : Int} {ps : Array (Int × Int)} {n : Nat} {x : Int32} (hd : decode cc pc = .ok (.lookupswitch dflt ps, n)) (hp : (ps.toList.zip (ps.toList.drop 1)).all (fun (a, next) => a.1 < next.1) = true) (h1 : ∀ v : Int, 0 ≤ (pc : Int) + Op.lookupswitch.offset ps.toList dflt v) (k : z_At p l e R s m args below meth c G ad0 h0 nL Qs (z_lk pc dflt ps.toList x.toInt) ls st h ce sl) : z_At p l e R s m args below meth c G ad0 h0 nL Qs pc ls (z_i x :: st) h ce sl := by
  intro ad H locs la hH hE hO hl0 hl
  exact lv_lookup C.1 C.2.1 hd hp rfl (Int.toNat_of_nonneg (h1 _)).symm (k ad H locs la hH hE hO.pop hl0 hl)
end ZS
end
section
/-! the small machine against the machine: fields, arrays, new cells, casts, returns -/
theorem inzX0 : ∀ w ∈ wsX00, w ∈ z_tbl := fun w h => List.mem_filter.mpr ⟨inX0 w h, List.all_eq_true.mp (show wsX00.all goodWord = true by decide +kernel) w h⟩
theorem inzX1 : ∀ w ∈ wsX10, w ∈ z_tbl := fun w h => List.mem_filter.mpr ⟨inX1 w h, List.all_eq_true.mp (show wsX10.all goodWord = true by decide +kernel) w h⟩
theorem inzX2 : ∀ w ∈ wsX20, w ∈ z_tbl := fun w h => List.mem_filter.mpr ⟨inX2 w h, List.all_eq_true.mp (show wsX20.all goodWord = true by decide +kernel) w h⟩
theorem inzX3 : ∀ w ∈ wsX30, w ∈ z_tbl := fun w h => List.mem_filter.mpr ⟨inX3 w h, List.all_eq_true.mp (show wsX30.all goodWord = true by decide +kernel) w h⟩
theorem inzX4 : ∀ w ∈ wsX40, w ∈ z_tbl := fun w h => List.mem_filter.mpr ⟨inX4 w h, List.all_eq_true.mp (show wsX40.all goodWord = true by decide +kernel) w h⟩
theorem inzX5 : ∀ w ∈ wsX50, w ∈ z_tbl := fun w h => List.mem_filter.mpr ⟨inX5 w h, List.all_eq_true.mp (show wsX50.all goodWord = true by decide +kernel) w h⟩
theorem inzX6 : ∀ w ∈ wsX60, w ∈ z_tbl := fun w h => List.mem_filter.mpr ⟨inX6 w h, List.all_eq_true.mp (show wsX60.all goodWord = true by decide +kernel) w h⟩
theorem inzX7 : ∀ w ∈ wsX70, w ∈ z_tbl := fun w h => List.mem_filter.mpr ⟨inX7 w h, List.all_eq_true.mp (show wsX70.all goodWord = true by decide +kernel) w h⟩
theorem inzX8 : ∀ w ∈ wsX80, w ∈ z_tbl := fun w h => List.mem_filter.mpr ⟨inX8 w h, List.all_eq_true.mp (show wsX80.all goodWord = true by decide +kernel) w h⟩
theorem inzX9 : ∀ w ∈ wsX90, w ∈ z_tbl := fun w h => List.mem_filter.mpr ⟨inX9 w h, List.all_eq_true.mp (show wsX90.all goodWord = true by decide +kernel) w h⟩
theorem inzX10 : ∀ w ∈ wsX100, w ∈ z_tbl := fun w h => List.mem_filter.mpr ⟨inX10 w h, List.all_eq_true.mp (show wsX100.all goodWord = true by decide +kernel) w h⟩
theorem inzX11 : ∀ w ∈ wsX110, w ∈ z_tbl := fun w h => List.mem_filter.mpr ⟨inX11 w h, List.all_eq_true.mp (show wsX110.all goodWord = true by decide +kernel) w h⟩
theorem inzX12 : ∀ w ∈ wsX120, w ∈ z_tbl := fun w h => List.mem_filter.mpr ⟨inX12 w h, List.all_eq_true.mp (show wsX120.all goodWord = true by decide +kernel) w h⟩
theorem z_objc {K : Nat} (h : z_obj K = true) : K = 2 ∨ K = 3 ∨ K = 4 ∨ K = 5 ∨ K = 6 ∨ K = 7 ∨ K = 8 ∨ K = 9 ∨ K = 10 ∨ K = 11 ∨ K = 12 ∨ K = 13 ∨ K = 14 := by
  simp only [z_obj, Bool.and_eq_true, decide_eq_true_eq] at h
  omega
theorem z_cl {K : Nat} (h : z_obj K = true) : vwCl[K]? = some (kR K, kT K, kF K) := by
  rcases z_objc h with rfl | rfl | rfl | rfl | rfl | rfl | rfl | rfl | rfl | rfl | rfl | rfl | rfl <;> rfl
theorem z_in {K : Nat} (h : z_obj K = true) : ∀ w ∈ u_ws (kR K) (kT K) (kF K), w ∈ z_tbl := by
  rcases z_objc h with rfl | rfl | rfl | rfl | rfl | rfl | rfl | rfl | rfl | rfl | rfl | rfl | rfl
  · exact inzX0
  · exact inzX1
  · exact inzX2
  · exact inzX3
  · exact inzX4
  · exact inzX5
  · exact inzX6
  · exact inzX7
  · exact inzX8
  · exact inzX9
  · exact inzX10
  · exact inzX11
  · exact inzX12
theorem z_ty {K : Nat} (h : z_obj K = true) : ∀ k, k < kF K → parseFieldDescriptor (kT K k).2.2.1 = some (kY K k) := by
  rcases z_objc h with rfl | rfl | rfl | rfl | rfl | rfl | rfl | rfl | rfl | rfl | rfl | rfl | rfl
  · exact tyX0_ok
  · exact tyX1_ok
  · exact tyX2_ok
  · exact tyX3_ok
  · exact tyX4_ok
  · exact tyX5_ok
  · exact tyX6_ok
  · exact tyX7_ok
  · exact tyX8_ok
  · exact tyX9_ok
  · exact tyX10_ok
  · exact tyX11_ok
  · exact tyX12_ok
theorem z_nm {K : Nat} (h : z_obj K = true) : ∀ a, a < kF K → ∀ b, b < kF K → a ≠ b → (kT K a).2.1 ≠ (kT K b).2.1 := by
  rcases z_objc h with rfl | rfl | rfl | rfl | rfl | rfl | rfl | rfl | rfl | rfl | rfl | rfl | rfl
  · exact nmX0
  · exact nmX1
  · exact nmX2
  · exact nmX3
  · exact nmX4
  · exact nmX5
  · exact nmX6
  · exact nmX7
  · exact nmX8
  · exact nmX9
  · exact nmX10
  · exact nmX11
  · exact nmX12
theorem z_fc4 : ∀ K, K < 15 → ∀ k, k < kF K → z_fc (kY K k) < 4 := by decide +kernel
theorem z_obj_no {K : Nat} (h : z_obj K = true) : aLen K = 0 ∧ z_lst K = false ∧ K < 15 ∧ K ≠ 400 ∧ K < 1000 := by
  rcases z_objc h with rfl | rfl | rfl | rfl | rfl | rfl | rfl | rfl | rfl | rfl | rfl | rfl | rfl <;> decide
theorem z_arr_no {K : Nat} (h : aLen K ≠ 0) : z_obj K = false ∧ z_lst K = false ∧ K ≠ 400 ∧ K < 1000 := by
  unfold aLen at h
  split at h
  all_goals first
    | decide
    | exact absurd rfl h
theorem z_dflt {t : FieldType} (h : z_fc t < 4) : defaultValue t = (match z_fc t with | 1 => .long 0 | 2 => .null | _ => .int 0) := by
  cases t <;> first | rfl | (exact absurd h (by decide))
theorem z_aCod3 (K : Nat) : aCod K = 0 ∨ aCod K = 1 ∨ aCod K = 2 := by
  unfold aCod
  split <;> decide
theorem z_arrT {G : z_G} {U : State} (h : z_KN G U) {c : Nat} (hc : c = 0 ∨ c = 1 ∨ c = 2) : ArrOfT U (gA G c) (aTy c) ∧ U.vm.findClass ("[" ++ (aTy c).toString) = some (gA G c) := by
  rcases hc with rfl | rfl | rfl
  · exact h.1.2 0 _ rfl
  · exact h.1.2 1 _ rfl
  · exact h.1.2 2 _ rfl
theorem aVal_i {h : z_H} {K i q : Nat} (hc : aCod K ≠ 1) : aVal h K i q = .int (hI h K i q) := if_neg hc
theorem aVal_l {h : z_H} {K i q : Nat} (hc : aCod K = 1) : aVal h K i q = .long (hL h K i q) := if_pos hc
theorem z_w_eq (ad : Nat → Nat → Nat) (st : z_S) : ((st.map (z_val ad)).map fun v => v.category).sum = z_w st := by
  induction st with
  | nil => rfl
  | cons v r ih =>
    simp only [List.map_cons, List.sum_cons, z_w, z_val_cat]
    rw [ih]
/-- how a method ends -/
def z_Qc (G : z_G) (ad0 : Nat → Nat → Nat) (h0 : z_H) (Q : Option z_V → z_H → Prop) : Array Value → State → Outcome → State → Prop := fun _ _ o t => ∃ (ad' : Nat → Nat → Nat) (r : Option z_V) (h' : z_H), o = .returned (r.map (z_val ad')) ∧ z_RP G ad' h' t ∧ z_EX h0 ad0 h' ad' ∧ (∀ x, r = some x → z_ok h' x) ∧ Q r h'
section ZC
variable {p : Program} {l : Launch} {e : Env} {R : Room} {s : State} {m : MethodId} {args : Array Value} {below : List Frame} {meth : Method} {c : Code} {G : z_G} {ad0 : Nat → Nat → Nat} {h0 : z_H} {nL : Nat} {Qs : State → Prop} {y : MethodName} {cc : ByteArray} {d MC MS : Nat}
variable {pc : Nat} {ls : z_L} {st : z_S} {h : z_H} {ce sl : Nat}
theorem z_okfv {G : z_G} {ad : Nat → Nat → Nat} {h : z_H} {U : State} {H : Heap} (hH : z_HR G ad h U H) {K i : Nat} (hK : K < 1000) (hi : i < hN h K) (f : Nat) : z_ok h (z_fv h K i f) := by
  unfold z_fv
  split
  · trivial
  · cases hq : hR h K i f with
    | none => trivial
    | some q => exact hH.2.2.2.2.2 K i f q hK hi hq
  · trivial
theorem zs_getfield (C : z_Cx p R s m args meth c G y cc nL d MC MS) {idx K f i : Nat} (hd : decode cc pc = .ok (.getfield idx, 3)) (hK : z_obj K = true) (hf : f < kF K) (hlk : Cond.fieldLink y.cls idx (kT K f).1 (kT K f).2.1 (kT K f).2.2.1 ∈ z_tbl)
    (k : z_At p l e R s m args below meth c G ad0 h0 nL Qs (pc + 3) ls (z_fv h K i f :: st) h ce sl) : z_At p l e R s m args below meth c G ad0 h0 nL Qs pc ls (z_r K i :: st) h ce sl := by
  intro ad H locs la hH hE hO hl0 hl
  have hi := hO.top
  have hts := C.2.2.2.2.2.1
  obtain ⟨cell, q1, q2, q3, q4⟩ := (hH.2.2.2.2.1 K i hi.2 hi.1).1 hK
  obtain ⟨hS, hfc, kC, hkC, hkind⟩ := C.2.2.2.2.2.2.1.1.1 K _ (z_cl hK)
  obtain ⟨cf, kf, fi, f', hi', hsl⟩ := hS f hf
  refine W.getf C.1 C.2.1 C.2.2.2.1 (hts _ hlk) hi' (u_facts hfc hkC (u_lays hts (z_in hK) hf) hi').1 q1 (by rw [q3]; exact fun h => by cases h) (v := z_val ad (z_fv h K i f)) ?_ rfl rfl hd (k ad H locs la hH hE (hO.pop.push (z_okfv hH hi.2 hi.1 f)) hl0 hl)
  rw [hsl]
  exact q4 f hf
theorem zs_putg (C : z_Cx p R s m args meth c G y cc nL d MC MS) {idx K f i : Nat} {v : z_V} {h' : z_H} (hd : decode cc pc = .ok (.putfield idx, 3)) (hK : z_obj K = true) (hf : f < kF K) (hlk : Cond.fieldLink y.cls idx (kT K f).1 (kT K f).2.1 (kT K f).2.2.1 ∈ z_tbl)
    (hfin : (kT K f).2.2.2 = true → y.name = "<init>" ∧ (kT K f).1 = y.cls) (hty : ∀ ad : Nat → Nat → Nat, narrow (kY K f) (z_val ad v) = z_val ad v ∧ fits (kY K f) (z_val ad v) = true)
    (hn : hN h' = hN h) (hz : hZ h' = hZ h) (f1 : ∀ K' i' k, ¬ (K' = K ∧ i' = i) → hI h' K' i' k = hI h K' i' k) (f2 : ∀ K' i' k, ¬ (K' = K ∧ i' = i) → hL h' K' i' k = hL h K' i' k) (f3 : ∀ K' i' k, ¬ (K' = K ∧ i' = i) → hR h' K' i' k = hR h K' i' k)
    (hv : ∀ k, k < kF K → z_fv h' K i k = if k = f then v else z_fv h K i k) (href : ∀ k q, hR h' K i k = some q → hR h K i k = some q ∨ v = z_q (some q))
    (k : z_At p l e R s m args below meth c G ad0 h0 nL Qs (pc + 3) ls st h' ce sl) : z_At p l e R s m args below meth c G ad0 h0 nL Qs pc ls (v :: z_r K i :: st) h ce sl := by
  intro ad H locs la hH hE hO hl0 hl
  have hi := hO.pop.top
  have hts := C.2.2.2.2.2.1
  obtain ⟨cell, q1, q2, q3, q4⟩ := (hH.2.2.2.2.1 K i hi.2 hi.1).1 hK
  have hKn := C.2.2.2.2.2.2.1.1
  obtain ⟨hS, hfc, kC, hkC, hkind⟩ := hKn.1 K _ (z_cl hK)
  obtain ⟨cf, kf, fi, f', hi', hsl⟩ := hS f hf
  have hap := va_apart (own := y.cls) hts (z_in hK) (kY K) (z_ty hK) (z_nm hK) hKn (z_cl hK)
  have hst := (u_facts hfc hkC (u_lays hts (z_in hK) hf) hi').1
  have hlay := hts _ (z_in hK _ (u_in_lay hf))
  have hno := z_obj_no hK
  have hlv := hH.2.2.1 K i (z_live_of hi.2 hno.2.2.2.1 hi.1)
  have fin : ∀ H' : Heap, H'[ad K i]? = some (cell.setSlot f'.slot (z_val ad v)) → H'.size = H.size → (∀ q, q ≠ ad K i → H'[q]? = H[q]?) → W p l e R s m args below meth c H' (locs ++ [⟨ad K i, f'.slot⟩]) ce sl Qs (F0 m (pc + 3) la (st.map (z_val ad))) := by
    intro H' e1 e2 e3
    rw [hsl] at e1
    refine k ad H' _ la (hH.set hi.2 hno.2.2.2.1 hi.1 e2 e3 hn hz f1 f2 f3 ⟨fun _ => ?_, fun q => absurd hno.1 q, fun q => (by rw [hno.2.1] at q; cases q)⟩ (fun k q hq => ?_)) ⟨fun K => by rw [hn]; exact hE.1 K, hE.2⟩ (hO.pop.pop.mono (fun K => by rw [hn]; exact Nat.le_refl _)) ?_ hl
    · refine t_OB.to (V := updV (fun k => z_val ad (z_fv h K i k)) f (z_val ad v)) ⟨_, e1, q2, q3, t_set q4 hap hf _⟩ (fun j hj => ?_)
      rw [hv j hj]
      unfold updV
      split <;> rfl
    · rcases href k q hq with hq | hq
      · exact hH.2.2.2.2.2 K i k q hi.2 hi.1 hq
      · have := hO.top
        rw [hq] at this
        exact this
    · intro x hx
      rcases List.mem_append.mp hx with hx | hx
      · exact hl0 x hx
      · rw [List.mem_singleton.mp hx]
        exact hlv.1
  unfold u_lay at hlay
  by_cases hb : (kT K f).2.2.2 = true
  · rw [if_pos hb] at hlay
    have hcf : m.cls = cf := by
      obtain ⟨_, _, c', _, _, _, -, -, hf', -, -, -, hown2, -⟩ := Cond.laysFinal_spec hlay
      have e1 : c' = cf := by have := hi'.symm.trans hf'; simp at this; exact this.1.symm
      rw [(hfin hb).2] at hown2
      rw [← e1]; exact Option.some.inj (C.2.2.2.1.symm.trans hown2)
    have h6 := u_fits hfc hkC hkind (Or.inr hlay) hi' (z_ty hK f hf) (hty ad).1 (hty ad).2
    exact W.putFinK C.1 C.2.1 C.2.2.2.1 (hts _ hlk) hi' hst hcf (C.2.2.2.2.1.trans (hfin hb).1) (by rw [q2]; exact h6) q1 q3 (by rw [hsl]; exact k2_hasslot (q4 f hf)) rfl rfl hd fin
  · rw [if_neg hb] at hlay
    have h6 := u_store hfc hkC hkind hlay hi' (z_ty hK f hf) (hty ad).1 (hty ad).2
    exact W.putK C.1 C.2.1 (f := f') ⟨C.2.2.2.1, hts _ hlk, ⟨_, _, _, hi'⟩, hst⟩ (by rw [q2]; exact h6) q1 q3 (by rw [hsl]; exact k2_hasslot (q4 f hf)) rfl rfl hd fin
theorem z_u3_ne {α : Type} {f : Nat → Nat → Nat → α} {K i k : Nat} {v : α} {K' i' k' : Nat} (h : ¬ (K' = K ∧ i' = i)) : z_u3 f K i k v K' i' k' = f K' i' k' := if_neg (fun q => h ⟨q.1, q.2.1⟩)
theorem z_u3_k {α : Type} {f : Nat → Nat → Nat → α} {K i k : Nat} {v : α} {k' : Nat} : z_u3 f K i k v K i k' = if k' = k then v else f K i k' := by
  unfold z_u3
  by_cases h : k' = k
  · rw [if_pos h, if_pos ⟨rfl, rfl, h⟩]
  · rw [if_neg h, if_neg (fun q => h q.2.2)]
theorem zs_putI (C : z_Cx p R s m args meth c G y cc nL d MC MS) {idx K f i : Nat} {x : Int32} (hd : decode cc pc = .ok (.putfield idx, 3)) (hK : z_obj K = true) (hf : f < kF K) (hlk : Cond.fieldLink y.cls idx (kT K f).1 (kT K f).2.1 (kT K f).2.2.1 ∈ z_tbl)
    (hfin : (kT K f).2.2.2 = true → y.name = "<init>" ∧ (kT K f).1 = y.cls) (hty : kY K f = .int ∨ (kY K f = .boolean ∧ (x = 0 ∨ x = 1)))
    (k : z_At p l e R s m args below meth c G ad0 h0 nL Qs (pc + 3) ls st (sI h K i f x) ce sl) : z_At p l e R s m args below meth c G ad0 h0 nL Qs pc ls (z_i x :: z_r K i :: st) h ce sl := by
  have hcode : z_fc (kY K f) = 0 ∨ z_fc (kY K f) = 3 := by
    rcases hty with q | ⟨q, -⟩ <;> rw [q]
    · exact Or.inl rfl
    · exact Or.inr rfl
  refine zs_putg C (v := z_i x) (h' := sI h K i f x) hd hK hf hlk hfin (fun ad => ?_) rfl rfl (fun _ _ _ q => z_u3_ne q) (fun _ _ _ _ => rfl) (fun _ _ _ _ => rfl) (fun k hk => ?_) (fun k q hq => Or.inl hq) k
  · rcases hty with q | ⟨q, q2⟩
    · rw [q]; exact ⟨rfl, rfl⟩
    · rw [q]
      rcases q2 with rfl | rfl <;> exact ⟨rfl, rfl⟩
  · unfold z_fv
    rw [show hI (sI h K i f x) K i k = z_u3 (hI h) K i f x K i k from rfl, z_u3_k]
    by_cases e : k = f
    · subst e
      rw [if_pos rfl, if_pos rfl]
      rcases hcode with q | q <;> (rw [q]; rfl)
    · rw [if_neg e, if_neg e]
      rfl
theorem zs_putL (C : z_Cx p R s m args meth c G y cc nL d MC MS) {idx K f i : Nat} {x : Int64} (hd : decode cc pc = .ok (.putfield idx, 3)) (hK : z_obj K = true) (hf : f < kF K) (hlk : Cond.fieldLink y.cls idx (kT K f).1 (kT K f).2.1 (kT K f).2.2.1 ∈ z_tbl)
    (hfin : (kT K f).2.2.2 = true → y.name = "<init>" ∧ (kT K f).1 = y.cls) (hty : kY K f = .long)
    (k : z_At p l e R s m args below meth c G ad0 h0 nL Qs (pc + 3) ls st (sL h K i f x) ce sl) : z_At p l e R s m args below meth c G ad0 h0 nL Qs pc ls (z_l x :: z_r K i :: st) h ce sl := by
  refine zs_putg C (v := z_l x) (h' := sL h K i f x) hd hK hf hlk hfin (fun ad => ?_) rfl rfl (fun _ _ _ _ => rfl) (fun _ _ _ q => z_u3_ne q) (fun _ _ _ _ => rfl) (fun k hk => ?_) (fun k q hq => Or.inl hq) k
  · rw [hty]; exact ⟨rfl, rfl⟩
  · unfold z_fv
    rw [show hL (sL h K i f x) K i k = z_u3 (hL h) K i f x K i k from rfl, z_u3_k]
    by_cases e : k = f
    · subst e
      rw [if_pos rfl, if_pos rfl, hty]
      rfl
    · rw [if_neg e, if_neg e]
      rfl
theorem zs_putR (C : z_Cx p R s m args meth c G y cc nL d MC MS) {idx K f i : Nat} {x : Option (Nat × Nat)} (hd : decode cc pc = .ok (.putfield idx, 3)) (hK : z_obj K = true) (hf : f < kF K) (hlk : Cond.fieldLink y.cls idx (kT K f).1 (kT K f).2.1 (kT K f).2.2.1 ∈ z_tbl)
    (hfin : (kT K f).2.2.2 = true → y.name = "<init>" ∧ (kT K f).1 = y.cls) (hty : z_fc (kY K f) = 2)
    (k : z_At p l e R s m args below meth c G ad0 h0 nL Qs (pc + 3) ls st (sR h K i f x) ce sl) : z_At p l e R s m args below meth c G ad0 h0 nL Qs pc ls (z_q x :: z_r K i :: st) h ce sl := by
  refine zs_putg C (v := z_q x) (h' := sR h K i f x) hd hK hf hlk hfin (fun ad => ?_) rfl rfl (fun _ _ _ _ => rfl) (fun _ _ _ _ => rfl) (fun _ _ _ q => z_u3_ne q) (fun k hk => ?_) (fun k q hq => ?_) k
  · have : (∃ n, kY K f = .object n) ∨ ∃ t, kY K f = .array t := by
      revert hty
      cases kY K f <;> intro hty <;> first | (exact absurd hty (by decide)) | exact Or.inl ⟨_, rfl⟩ | exact Or.inr ⟨_, rfl⟩
    rcases this with ⟨n, q⟩ | ⟨t, q⟩ <;> rw [q] <;> cases x <;> exact ⟨rfl, rfl⟩
  · unfold z_fv
    rw [show hR (sR h K i f x) K i k = z_u3 (hR h) K i f x K i k from rfl, z_u3_k]
    by_cases e : k = f
    · subst e
      rw [if_pos rfl, if_pos rfl, hty]
      rfl
    · rw [if_neg e, if_neg e]
      rfl
  · rw [show hR (sR h K i f x) K i k = z_u3 (hR h) K i f x K i k from rfl, z_u3_k] at hq
    by_cases e : k = f
    · rw [if_pos e] at hq
      exact Or.inr (by rw [hq])
    · rw [if_neg e] at hq
      exact Or.inl hq
theorem zs_new (C : z_Cx p R s m args meth c G y cc nL d MC MS) {idx K : Nat} (hd : decode cc pc = .ok (.new idx, 3)) (hK : z_obj K = true) (h1 : Cond.classLink y.cls idx (kR K) ∈ z_tbl) (h2 : Cond.instantiable (kR K) (kF K) ∈ z_tbl) (h3 : Cond.initialized (kR K) ∈ z_tbl) (hc : ce + 1 ≤ MC) (hs : sl + kF K ≤ MS)
    (k : z_At p l e R s m args below meth c G ad0 h0 nL Qs (pc + 3) ls (z_r K (hN h K) :: st) (z_nw h K) (ce + 1) (sl + kF K)) : z_At p l e R s m args below meth c G ad0 h0 nL Qs pc ls st h ce sl := by
  intro ad H locs la hH hE hO hl0 hl
  have hts := C.2.2.2.2.2.1
  have hno := z_obj_no hK
  have hKn := C.2.2.2.2.2.2.1.1.1 K _ (z_cl hK)
  refine W.newcK C.1 C.2.1 C.2.2.2.1 (hts _ h1) (hts _ h2) (hts _ h3) rfl hd (by rw [C.2.2.2.2.2.2.2.2.2.1]; exact hc) (by rw [C.2.2.2.2.2.2.2.2.2.2]; exact hs) hKn.2.1 rfl fun H1 kC hkC e1 z1 o1 => ?_
  have ads : z_u2 ad K (hN h K) H.size K (hN h K) = H.size := if_pos ⟨rfl, rfl⟩
  obtain ⟨hH', hE'⟩ := hH.new hno.2.2.2.2 hno.2.2.2.1 z1 o1 ⟨fun _ => (by
    rw [ads]
    refine (u_born (kY K) hts (z_in hK) hKn hkC e1 (z_ty hK)).to (fun j hj => ?_)
    rw [z_dflt (z_fc4 K hno.2.2.1 j hj)]
    unfold z_fv
    have w1 : hI (z_nw h K) K (hN h K) j = 0 := if_pos ⟨rfl, rfl⟩
    have w2 : hL (z_nw h K) K (hN h K) j = 0 := if_pos ⟨rfl, rfl⟩
    have w3 : hR (z_nw h K) K (hN h K) j = none := if_pos ⟨rfl, rfl⟩
    rw [w1, w2, w3]
    generalize z_fc (kY K j) = q
    rcases q with _ | _ | _ | q <;> rfl), fun q => absurd hno.1 q, fun q => (by rw [hno.2.1] at q; cases q)⟩
  have hO' : z_OK (z_nw h K) ls (z_r K (hN h K) :: st) := (hO.mono hE'.1).push ⟨by show hN h K < z_u1 h.1 K (h.1 K + 1) K; unfold z_u1; rw [if_pos rfl]; exact Nat.lt_succ_self _, hno.2.2.2.2⟩
  have hk := k _ H1 locs la hH' (hE.tr hE') hO' hl0 (by rw [z_lm_ex hE' hO]; exact hl)
  rw [List.map_cons, z_sm_ex hE' hO] at hk
  show W p l e R s m args below meth c H1 locs (ce + 1) (sl + kF K) Qs (F0 m (pc + 3) la (Value.ref H.size :: st.map (z_val ad)))
  have e : z_val (z_u2 ad K (hN h K) H.size) (z_r K (hN h K)) = Value.ref H.size := congrArg Value.ref ads
  rw [e] at hk
  exact hk
theorem zs_newarray (C : z_Cx p R s m args meth c G y cc nL d MC MS) {t : ArrayType} {K : Nat} {n : Int32} (hd : decode cc pc = .ok (.newarray t, 2)) (hK : aLen K ≠ 0) (ht : newarray.typeOf t = aTy (aCod K)) (h1 : Cond.arrayClass (newarray.typeOf t) ∈ z_tbl) (hn : n = nI (aLen K)) (hc : ce + 1 ≤ MC) (hs : sl + aLen K ≤ MS)
    (k : z_At p l e R s m args below meth c G ad0 h0 nL Qs (pc + 2) ls (z_r K (hN h K) :: st) (z_nw h K) (ce + 1) (sl + aLen K)) : z_At p l e R s m args below meth c G ad0 h0 nL Qs pc ls (z_i n :: st) h ce sl := by
  intro ad H locs la hH hE hO hl0 hl
  have hts := C.2.2.2.2.2.1
  have hno := z_arr_no hK
  have hlen : aLen K ≤ 2000 := by unfold aLen; split <;> decide
  have hcl : n.toNatClampNeg = aLen K := by rw [hn]; exact nI_clamp (by omega)
  refine W.newa C.1 C.2.1 (hts _ h1) rfl hd rfl (by rw [hn]; exact nI_pos (by omega)) ?_ (by rw [C.2.2.2.2.2.2.2.2.2.1]; exact hc) (by rw [C.2.2.2.2.2.2.2.2.2.2, hcl]; exact hs) fun cA kA comp g1 g2 g3 => ?_
  · rw [hcl]
    have : componentBytes (newarray.typeOf t) ≤ 8 := by cases t <;> decide
    calc aLen K * componentBytes (newarray.typeOf t) ≤ 2000 * 8 := Nat.mul_le_mul hlen this
      _ ≤ 536870912 := by decide
  · rw [ht] at g1
    have hcA : cA = gA G (aCod K) := Option.some.inj (g1.symm.trans (z_arrT C.2.2.2.2.2.2.1 (z_aCod3 K)).2)
    have ads : z_u2 ad K (hN h K) H.size K (hN h K) = H.size := if_pos ⟨rfl, rfl⟩
    rw [hcl, hcA, arrV_new, ht]
    obtain ⟨hH', hE'⟩ := hH.new (H' := H.push (arrV (gA G (aCod K)) (aLen K) (fun _ => defaultValue (aTy (aCod K))))) hno.2.2.2 hno.2.2.1 (by simp) (fun q hq => by rw [Array.getElem?_push, if_neg (Nat.ne_of_lt hq)]) ⟨fun q => (by rw [hno.1] at q; cases q), fun _ => (by
      rw [ads]
      have e1 : (fun _ : Nat => defaultValue (aTy (aCod K))) = aVal (z_nw h K) K (hN h K) := by
        funext j
        unfold aVal
        have w1 : hI (z_nw h K) K (hN h K) j = 0 := if_pos ⟨rfl, rfl⟩
        have w2 : hL (z_nw h K) K (hN h K) j = 0 := if_pos ⟨rfl, rfl⟩
        rw [w1, w2]
        rcases z_aCod3 K with q | q | q <;> rw [q] <;> rfl
      rw [← e1]
      simp), fun q => (by rw [hno.2.1] at q; cases q)⟩
    have hO' : z_OK (z_nw h K) ls (z_r K (hN h K) :: st) := (hO.pop.mono hE'.1).push ⟨by show hN h K < z_u1 h.1 K (h.1 K + 1) K; unfold z_u1; rw [if_pos rfl]; exact Nat.lt_succ_self _, hno.2.2.2⟩
    have hk := k _ _ locs la hH' (hE.tr hE') hO' hl0 (by rw [z_lm_ex hE' hO]; exact hl)
    rw [List.map_cons, z_sm_ex hE' hO.pop] at hk
    have e : z_val (z_u2 ad K (hN h K) H.size) (z_r K (hN h K)) = Value.ref H.size := congrArg Value.ref ads
    rw [e] at hk
    exact hk
theorem zs_iaload (C : z_Cx p R s m args meth c G y cc nL d MC MS) {K i : Nat} {j : Int32} (hd : decode cc pc = .ok (.iaload, 1)) (hc : aCod K = 0) (hj : vp_in j (aLen K))
    (k : z_At p l e R s m args below meth c G ad0 h0 nL Qs (pc + 1) ls (z_i (hI h K i j.toNatClampNeg) :: st) h ce sl) : z_At p l e R s m args below meth c G ad0 h0 nL Qs pc ls (z_i j :: z_r K i :: st) h ce sl := by
  intro ad H locs la hH hE hO hl0 hl
  have hi := hO.pop.top
  have hjl : j.toNatClampNeg < aLen K := Nat.lt_of_not_le (fun q => hj (Or.inr q))
  have h1 := (hH.2.2.2.2.1 K i hi.2 hi.1).2.1 (by omega)
  have hT := (z_arrT C.2.2.2.2.2.2.1 (z_aCod3 K)).1
  have e : aVal h K i j.toNatClampNeg = .int (hI h K i j.toNatClampNeg) := by unfold aVal; rw [if_neg (by rw [hc]; decide)]
  exact W.iald C.1 C.2.1 h1 (by have := hT (aLen K) (aVal h K i); rw [show aTy (aCod K) = .int by rw [hc]; rfl] at this; exact this) (fun q => by cases q) (by rw [arrV_size]; exact hj) (by rw [arrV_read _ _ hjl, e]; rfl) rfl rfl hd (k ad H locs la hH hE (hO.pop.pop.push trivial) hl0 hl)
theorem zs_baload (C : z_Cx p R s m args meth c G y cc nL d MC MS) {K i : Nat} {j : Int32} (hd : decode cc pc = .ok (.baload, 1)) (hc : aCod K = 2) (hj : vp_in j (aLen K))
    (k : z_At p l e R s m args below meth c G ad0 h0 nL Qs (pc + 1) ls (z_i (hI h K i j.toNatClampNeg) :: st) h ce sl) : z_At p l e R s m args below meth c G ad0 h0 nL Qs pc ls (z_i j :: z_r K i :: st) h ce sl := by
  intro ad H locs la hH hE hO hl0 hl
  have hi := hO.pop.top
  have hjl : j.toNatClampNeg < aLen K := Nat.lt_of_not_le (fun q => hj (Or.inr q))
  have h1 := (hH.2.2.2.2.1 K i hi.2 hi.1).2.1 (by omega)
  have hT := (z_arrT C.2.2.2.2.2.2.1 (z_aCod3 K)).1
  have e : aVal h K i j.toNatClampNeg = .int (hI h K i j.toNatClampNeg) := by unfold aVal; rw [if_neg (by rw [hc]; decide)]
  exact W.zald C.1 C.2.1 h1 (by have := hT (aLen K) (aVal h K i); rw [show aTy (aCod K) = .boolean by rw [hc]; rfl] at this; exact this) (fun q => by cases q) (by rw [arrV_size]; exact hj) (by rw [arrV_read _ _ hjl, e]; rfl) rfl rfl hd (k ad H locs la hH hE (hO.pop.pop.push trivial) hl0 hl)
theorem zs_laload (C : z_Cx p R s m args meth c G y cc nL d MC MS) {K i : Nat} {j : Int32} (hd : decode cc pc = .ok (.laload, 1)) (hc : aCod K = 1) (hj : vp_in j (aLen K))
    (k : z_At p l e R s m args below meth c G ad0 h0 nL Qs (pc + 1) ls (z_l (hL h K i j.toNatClampNeg) :: st) h ce sl) : z_At p l e R s m args below meth c G ad0 h0 nL Qs pc ls (z_i j :: z_r K i :: st) h ce sl := by
  intro ad H locs la hH hE hO hl0 hl
  have hi := hO.pop.top
  have hjl : j.toNatClampNeg < aLen K := Nat.lt_of_not_le (fun q => hj (Or.inr q))
  have h1 := (hH.2.2.2.2.1 K i hi.2 hi.1).2.1 (by omega)
  have hT := (z_arrT C.2.2.2.2.2.2.1 (z_aCod3 K)).1
  have e : aVal h K i j.toNatClampNeg = .long (hL h K i j.toNatClampNeg) := by unfold aVal; rw [if_pos hc]
  exact W.lald C.1 C.2.1 h1 (by have := hT (aLen K) (aVal h K i); rw [show aTy (aCod K) = .long by rw [hc]; rfl] at this; exact this) (fun q => by cases q) (by rw [arrV_size]; exact hj) (by rw [arrV_read _ _ hjl, e]; rfl) rfl rfl hd (k ad H locs la hH hE (hO.pop.pop.push trivial) hl0 hl)
theorem z_HR.arr {G : z_G} {ad : Nat → Nat → Nat} {h h' : z_H} {U : State} {H H' : Heap} (hH : z_HR G ad h U H) {K i : Nat} (hK : aLen K ≠ 0) (hi : i < hN h K) {j : Nat} {x : Value} (e1 : H'[ad K i]? = some ((arrV (gA G (aCod K)) (aLen K) (aVal h K i)).setSlot j x)) (hsz : H'.size = H.size) (ho : ∀ q : Nat, q ≠ ad K i → H'[q]? = H[q]?)
    (hn : hN h' = hN h) (hz : hZ h' = hZ h) (f1 : ∀ K' i' k, ¬ (K' = K ∧ i' = i) → hI h' K' i' k = hI h K' i' k) (f2 : ∀ K' i' k, ¬ (K' = K ∧ i' = i) → hL h' K' i' k = hL h K' i' k) (f3 : hR h' = hR h) (hv : aVal h' K i = updV (aVal h K i) j x) : z_HR G ad h' U H' := by
  have hno := z_arr_no hK
  refine hH.set hno.2.2.2 hno.2.2.1 hi hsz ho hn hz f1 f2 (fun _ _ _ _ => by rw [f3]) ⟨fun q => (by rw [hno.1] at q; cases q), fun _ => ?_, fun q => (by rw [hno.2.1] at q; cases q)⟩ (fun k q hq => hH.2.2.2.2.2 K i k q hno.2.2.2 hi (by rw [← f3]; exact hq))
  rw [e1, arrV_store, hv]
theorem z_mem_locs {G : z_G} {locs : List Loc} {a j : Nat} (hl0 : ∀ x ∈ locs, gB G ≤ x.base) (ha : gB G ≤ a) : ∀ x ∈ locs ++ [(⟨a, j⟩ : Loc)], gB G ≤ x.base := by
  intro x hx
  rcases List.mem_append.mp hx with hx | hx
  · exact hl0 x hx
  · rw [List.mem_singleton.mp hx]
    exact ha
theorem zs_iastore (C : z_Cx p R s m args meth c G y cc nL d MC MS) {K i : Nat} {j x : Int32} (hd : decode cc pc = .ok (.iastore, 1)) (hc : aCod K = 0) (hj : vp_in j (aLen K))
    (k : z_At p l e R s m args below meth c G ad0 h0 nL Qs (pc + 1) ls st (sI h K i j.toNatClampNeg x) ce sl) : z_At p l e R s m args below meth c G ad0 h0 nL Qs pc ls (z_i x :: z_i j :: z_r K i :: st) h ce sl := by
  intro ad H locs la hH hE hO hl0 hl
  have hi := hO.pop.pop.top
  have hjl : j.toNatClampNeg < aLen K := Nat.lt_of_not_le (fun q => hj (Or.inr q))
  have hK : aLen K ≠ 0 := by omega
  have hno := z_arr_no hK
  have h1 := (hH.2.2.2.2.1 K i hi.2 hi.1).2.1 hK
  have hT := (z_arrT C.2.2.2.2.2.2.1 (z_aCod3 K)).1
  refine W.iast C.1 C.2.1 h1 (by have := hT (aLen K) (aVal h K i); rw [show aTy (aCod K) = .int by rw [hc]; rfl] at this; exact this) (fun q => by cases q) (by rw [arrV_size]; exact hj) rfl rfl hd fun H' e1 e2 e3 => ?_
  refine k ad H' _ la (hH.arr hK hi.1 e1 e2 e3 rfl rfl (fun _ _ _ q => z_u3_ne q) (fun _ _ _ _ => rfl) rfl ?_) hE hO.pop.pop.pop (z_mem_locs hl0 (hH.2.2.1 K i (z_live_of hi.2 hno.2.2.1 hi.1)).1) hl
  funext q
  have hc1 : aCod K ≠ 1 := by rw [hc]; decide
  unfold updV
  rw [aVal_i hc1, aVal_i hc1, show hI (sI h K i j.toNatClampNeg x) K i q = z_u3 (hI h) K i j.toNatClampNeg x K i q from rfl, z_u3_k]
  split <;> rfl
theorem zs_bastore (C : z_Cx p R s m args meth c G y cc nL d MC MS) {K i : Nat} {j x : Int32} (hd : decode cc pc = .ok (.bastore, 1)) (hc : aCod K = 2) (hj : vp_in j (aLen K)) (hx : x = 0 ∨ x = 1)
    (k : z_At p l e R s m args below meth c G ad0 h0 nL Qs (pc + 1) ls st (sI h K i j.toNatClampNeg x) ce sl) : z_At p l e R s m args below meth c G ad0 h0 nL Qs pc ls (z_i x :: z_i j :: z_r K i :: st) h ce sl := by
  intro ad H locs la hH hE hO hl0 hl
  have hi := hO.pop.pop.top
  have hjl : j.toNatClampNeg < aLen K := Nat.lt_of_not_le (fun q => hj (Or.inr q))
  have hK : aLen K ≠ 0 := by omega
  have hno := z_arr_no hK
  have h1 := (hH.2.2.2.2.1 K i hi.2 hi.1).2.1 hK
  have hT := (z_arrT C.2.2.2.2.2.2.1 (z_aCod3 K)).1
  refine W.zast C.1 C.2.1 h1 (by have := hT (aLen K) (aVal h K i); rw [show aTy (aCod K) = .boolean by rw [hc]; rfl] at this; exact this) (fun q => by cases q) (by rw [arrV_size]; exact hj) rfl rfl hd fun H' e1 e2 e3 => ?_
  refine k ad H' _ la (hH.arr hK hi.1 e1 e2 e3 rfl rfl (fun _ _ _ q => z_u3_ne q) (fun _ _ _ _ => rfl) rfl ?_) hE hO.pop.pop.pop (z_mem_locs hl0 (hH.2.2.1 K i (z_live_of hi.2 hno.2.2.1 hi.1)).1) hl
  funext q
  have hc1 : aCod K ≠ 1 := by rw [hc]; decide
  unfold updV
  rw [aVal_i hc1, aVal_i hc1, show hI (sI h K i j.toNatClampNeg x) K i q = z_u3 (hI h) K i j.toNatClampNeg x K i q from rfl, z_u3_k]
  split
  · rcases hx with rfl | rfl <;> rfl
  · rfl
theorem zs_lastore (C : z_Cx p R s m args meth c G y cc nL d MC MS) {K i : Nat} {j : Int32} {x : Int64} (hd : decode cc pc = .ok (.lastore, 1)) (hc : aCod K = 1) (hj : vp_in j (aLen K))
    (k : z_At p l e R s m args below meth c G ad0 h0 nL Qs (pc + 1) ls st (sL h K i j.toNatClampNeg x) ce sl) : z_At p l e R s m args below meth c G ad0 h0 nL Qs pc ls (z_l x :: z_i j :: z_r K i :: st) h ce sl := by
  intro ad H locs la hH hE hO hl0 hl
  have hi := hO.pop.pop.top
  have hjl : j.toNatClampNeg < aLen K := Nat.lt_of_not_le (fun q => hj (Or.inr q))
  have hK : aLen K ≠ 0 := by omega
  have hno := z_arr_no hK
  have h1 := (hH.2.2.2.2.1 K i hi.2 hi.1).2.1 hK
  have hT := (z_arrT C.2.2.2.2.2.2.1 (z_aCod3 K)).1
  refine W.last C.1 C.2.1 h1 (by have := hT (aLen K) (aVal h K i); rw [show aTy (aCod K) = .long by rw [hc]; rfl] at this; exact this) (fun q => by cases q) (by rw [arrV_size]; exact hj) rfl rfl hd fun H' e1 e2 e3 => ?_
  refine k ad H' _ la (hH.arr hK hi.1 e1 e2 e3 rfl rfl (fun _ _ _ _ => rfl) (fun _ _ _ q => z_u3_ne q) rfl ?_) hE hO.pop.pop.pop (z_mem_locs hl0 (hH.2.2.1 K i (z_live_of hi.2 hno.2.2.1 hi.1)).1) hl
  funext q
  unfold updV
  rw [aVal_l hc, aVal_l hc, show hL (sL h K i j.toNatClampNeg x) K i q = z_u3 (hL h) K i j.toNatClampNeg x K i q from rfl, z_u3_k]
  split <;> rfl
/-- the script -/
theorem zs_slen (C : z_Cx p R s m args meth c G y cc nL d MC MS) (hd : decode cc pc = .ok (.arraylength, 1)) (k : z_At p l e R s m args below meth c G ad0 h0 nL Qs (pc + 1) ls (z_i (nI (gL G)) :: st) h ce sl) : z_At p l e R s m args below meth c G ad0 h0 nL Qs pc ls (z_r 400 0 :: st) h ce sl := by
  intro ad H locs la hH hE hO hl0 hl
  obtain ⟨scr, a1, a2, a3, a4, a5⟩ := hH.1.2.2.1
  refine W.alen C.1 C.2.1 (a := ad 400 0) (by rw [hH.2.1]; exact a1) a2 (n := nI (gL G)) (by rw [a4]; rfl) rfl rfl hd (k ad H locs la hH hE (hO.pop.push trivial) hl0 hl)
theorem zs_sld (C : z_Cx p R s m args meth c G y cc nL d MC MS) {j : Int32} (hd : decode cc pc = .ok (.iaload, 1)) (hj : vp_in j (gL G)) (k : z_At p l e R s m args below meth c G ad0 h0 nL Qs (pc + 1) ls (z_i (gV G j.toNatClampNeg) :: st) h ce sl) : z_At p l e R s m args below meth c G ad0 h0 nL Qs pc ls (z_i j :: z_r 400 0 :: st) h ce sl := by
  intro ad H locs la hH hE hO hl0 hl
  obtain ⟨scr, a1, a2, a3, a4, a5⟩ := hH.1.2.2.1
  have hjl : j.toNatClampNeg < gL G := Nat.lt_of_not_le (fun q => hj (Or.inr q))
  exact W.iald C.1 C.2.1 (a := ad 400 0) (by rw [hH.2.1]; exact a1) a2 a3 (by rw [a4]; exact hj) (a5 _ hjl) rfl rfl hd (k ad H locs la hH hE (hO.pop.pop.push trivial) hl0 hl)
theorem zs_checkcast (C : z_Cx p R s m args meth c G y cc nL d MC MS) {idx K i : Nat} (hd : decode cc pc = .ok (.checkcast idx, 3)) (hK : z_obj K = true) (h1 : Cond.classLink y.cls idx (kR K) ∈ z_tbl) (k : z_At p l e R s m args below meth c G ad0 h0 nL Qs (pc + 3) ls (z_r K i :: st) h ce sl) : z_At p l e R s m args below meth c G ad0 h0 nL Qs pc ls (z_r K i :: st) h ce sl := by
  intro ad H locs la hH hE hO hl0 hl
  have hi := hO.top
  obtain ⟨cell, q1, q2, q3, q4⟩ := (hH.2.2.2.2.1 K i hi.2 hi.1).1 hK
  have hKn := C.2.2.2.2.2.2.1.1.1 K _ (z_cl hK)
  exact va_castS C.1 C.2.1 C.2.2.2.1 (C.2.2.2.2.2.1 _ h1) hKn.2 ⟨cell, q1, by rw [q3]; rfl, by rw [q2]; exact hKn.2.1⟩ hd (k ad H locs la hH hE hO hl0 hl)
theorem zs_objInit (C : z_Cx p R s m args meth c G y cc nL d MC MS) {idx K i : Nat} (hd : decode cc pc = .ok (.invokespecial idx, 3)) (h1 : Cond.methodLink y.cls idx Lib.objectInit ∈ z_tbl) (h2 : Cond.instanceMethod Lib.objectInit ∈ z_tbl) (h3 : Cond.code Lib.objectInit ⟨#[0xb1]⟩ 1 none ∈ z_tbl) (hd1 : 1 ≤ d) (hw : z_w st ≤ 8)
    (k : z_At p l e R s m args below meth c G ad0 h0 nL Qs (pc + 3) ls st h ce sl) : z_At p l e R s m args below meth c G ad0 h0 nL Qs pc ls (z_r K i :: st) h ce sl := by
  intro ad H locs la hH hE hO hl0 hl
  have hts := C.2.2.2.2.2.1
  refine W.objInit C.1 C.2.1 C.2.2.2.1 (hts _ h1) (hts _ h2) (hts _ h3) rfl (by rw [C.2.2.1]; exact hl.1) rfl hd (by rw [C.2.2.2.2.2.2.2.1]; exact hd1) ?_ (k ad H locs la hH hE hO.pop hl0 hl)
  rw [z_w_eq]
  have := C.2.2.2.2.2.2.2.2.1
  show 2 * 0 + z_w st + 12 ≤ R.locals
  omega
/-! returns -/
theorem z_end {G : z_G} {ad : Nat → Nat → Nat} {h : z_H} {s t : State} {H : Heap} (hK : z_KN G s) (hH : z_HR G ad h s H) (ht : t.heap = H) (hW : s.WarmedH t.vm) : z_RP G ad h t := ⟨hK.moved hW.alike, by rw [ht]; exact hH.moved hW.alike⟩
variable {Q : Option z_V → z_H → Prop}
theorem zs_ireturn (C : z_Cx p R s m args meth c G y cc nL d MC MS) {ty : FieldType} {x : Int32} (hlk : meth.locks = false) (hd : decode cc pc = .ok (.ireturn, 1)) (hr : meth.sig.returnType = some ty) (hx : ty = .int ∨ (ty = .boolean ∧ (x = 0 ∨ x = 1))) (hc : ce ≤ MC) (hs : sl ≤ MS) (hq : Q (some (z_i x)) h) : z_At p l e R s m args below meth c G ad0 h0 nL (MQ below (z_Qc G ad0 h0 Q) args s MC MS (z_A G)) pc ls [z_i x] h ce sl := by
  intro ad H locs la hH hE hO hl0 hl
  have hn : narrow ty (.int x) = .int x := by
    rcases hx with rfl | ⟨rfl, rfl | rfl⟩ <;> rfl
  refine W.widen hc hs ?_
  exact W.zret C.1 C.2.1 hr hn (fun t ht hW => ⟨ad, some (z_i x), h, rfl, z_end C.2.2.2.2.2.2.1 hH ht hW, hE, fun v hv => (by cases hv; trivial), hq⟩) hl0 hd hlk
theorem zs_lreturn (C : z_Cx p R s m args meth c G y cc nL d MC MS) {x : Int64} (hlk : meth.locks = false) (hd : decode cc pc = .ok (.lreturn, 1)) (hr : meth.sig.returnType = some .long) (hc : ce ≤ MC) (hs : sl ≤ MS) (hq : Q (some (z_l x)) h) : z_At p l e R s m args below meth c G ad0 h0 nL (MQ below (z_Qc G ad0 h0 Q) args s MC MS (z_A G)) pc ls [z_l x] h ce sl := by
  intro ad H locs la hH hE hO hl0 hl
  refine W.widen hc hs ?_
  exact W.lret C.1 C.2.1 hr (fun t ht hW => ⟨ad, some (z_l x), h, rfl, z_end C.2.2.2.2.2.2.1 hH ht hW, hE, fun v hv => (by cases hv; trivial), hq⟩) hl0 hd hlk
theorem zs_areturn (C : z_Cx p R s m args meth c G y cc nL d MC MS) {ty : FieldType} {x : Option (Nat × Nat)} (hlk : meth.locks = false) (hd : decode cc pc = .ok (.areturn, 1)) (hr : meth.sig.returnType = some ty) (hty : (∃ n, ty = .object n) ∨ ∃ t, ty = .array t) (hc : ce ≤ MC) (hs : sl ≤ MS) (hq : Q (some (z_q x)) h) : z_At p l e R s m args below meth c G ad0 h0 nL (MQ below (z_Qc G ad0 h0 Q) args s MC MS (z_A G)) pc ls [z_q x] h ce sl := by
  intro ad H locs la hH hE hO hl0 hl
  refine W.widen hc hs ?_
  have hv : z_val ad (z_q x) = .null ∨ ∃ a, z_val ad (z_q x) = .ref a := by
    cases x with
    | none => exact Or.inl rfl
    | some q => exact Or.inr ⟨_, rfl⟩
  exact W.aret C.1 C.2.1 hr hty hv (fun t ht hW => ⟨ad, some (z_q x), h, rfl, z_end C.2.2.2.2.2.2.1 hH ht hW, hE, fun v hv => (by cases hv; exact hO.top), hq⟩) hl0 hd hlk
theorem zs_return (C : z_Cx p R s m args meth c G y cc nL d MC MS) (hlk : meth.locks = false) (hd : decode cc pc = .ok (.return_, 1)) (hr : meth.sig.returnType = none) (hc : ce ≤ MC) (hs : sl ≤ MS) (hq : Q none h) : z_At p l e R s m args below meth c G ad0 h0 nL (MQ below (z_Qc G ad0 h0 Q) args s MC MS (z_A G)) pc ls [] h ce sl := by
  intro ad H locs la hH hE hO hl0 hl
  refine W.widen hc hs ?_
  exact W.vret C.1 C.2.1 hr (fun t ht hW => ⟨ad, none, h, rfl, z_end C.2.2.2.2.2.2.1 hH ht hW, hE, fun v hv => (by cases hv), hq⟩) hl0 hd hlk
end ZC
end
section
/-! the JDK's methods: ArrayList, Integer, copies -/
theorem dJx4a65c_init_da8c8_0 : decode cJx4a65c_init_da8c8 0 = .ok (.aload_n 0, 1) := by decide +kernel
theorem dJx4a65c_init_da8c8_1 : decode cJx4a65c_init_da8c8 1 = .ok (.invokespecial 1, 3) := by decide +kernel
theorem dJx4a65c_init_da8c8_4 : decode cJx4a65c_init_da8c8 4 = .ok (.aload_n 0, 1) := by decide +kernel
theorem dJx4a65c_init_da8c8_5 : decode cJx4a65c_init_da8c8 5 = .ok (.getstatic 39, 3) := by decide +kernel
theorem dJx4a65c_init_da8c8_8 : decode cJx4a65c_init_da8c8 8 = .ok (.putfield 9, 3) := by decide +kernel
theorem dJx4a65c_init_da8c8_11 : decode cJx4a65c_init_da8c8 11 = .ok (.return_, 1) := by decide +kernel
theorem dJxc12de_init_da8c8_0 : decode cJxc12de_init_da8c8 0 = .ok (.aload_n 0, 1) := by decide +kernel
theorem dJxc12de_init_da8c8_1 : decode cJxc12de_init_da8c8 1 = .ok (.invokespecial 1, 3) := by decide +kernel
theorem dJxc12de_init_da8c8_4 : decode cJxc12de_init_da8c8 4 = .ok (.aload_n 0, 1) := by decide +kernel
theorem dJxc12de_init_da8c8_5 : decode cJxc12de_init_da8c8 5 = .ok (.iconst 0, 1) := by decide +kernel
theorem dJxc12de_init_da8c8_6 : decode cJxc12de_init_da8c8 6 = .ok (.putfield 7, 3) := by decide +kernel
theorem dJxc12de_init_da8c8_9 : decode cJxc12de_init_da8c8 9 = .ok (.return_, 1) := by decide +kernel
theorem dJxa1e45_init_da8c8_0 : decode cJxa1e45_init_da8c8 0 = .ok (.aload_n 0, 1) := by decide +kernel
theorem dJxa1e45_init_da8c8_1 : decode cJxa1e45_init_da8c8 1 = .ok (.invokespecial 1, 3) := by decide +kernel
theorem dJxa1e45_init_da8c8_4 : decode cJxa1e45_init_da8c8 4 = .ok (.return_, 1) := by decide +kernel
theorem dJx4a65c_size_8abf5_0 : decode cJx4a65c_size_8abf5 0 = .ok (.aload_n 0, 1) := by decide +kernel
theorem dJx4a65c_size_8abf5_1 : decode cJx4a65c_size_8abf5 1 = .ok (.getfield 48, 3) := by decide +kernel
theorem dJx4a65c_size_8abf5_4 : decode cJx4a65c_size_8abf5 4 = .ok (.ireturn, 1) := by decide +kernel
theorem dJx4a65c_get_915e3_0 : decode cJx4a65c_get_915e3 0 = .ok (.iload_n 1, 1) := by decide +kernel
theorem dJx4a65c_get_915e3_1 : decode cJx4a65c_get_915e3 1 = .ok (.aload_n 0, 1) := by decide +kernel
theorem dJx4a65c_get_915e3_2 : decode cJx4a65c_get_915e3 2 = .ok (.getfield 48, 3) := by decide +kernel
theorem dJx4a65c_get_915e3_5 : decode cJx4a65c_get_915e3 5 = .ok (.invokestatic 118, 3) := by decide +kernel
theorem dJx4a65c_get_915e3_8 : decode cJx4a65c_get_915e3 8 = .ok (.pop, 1) := by decide +kernel
theorem dJx4a65c_get_915e3_9 : decode cJx4a65c_get_915e3 9 = .ok (.aload_n 0, 1) := by decide +kernel
theorem dJx4a65c_get_915e3_10 : decode cJx4a65c_get_915e3 10 = .ok (.iload_n 1, 1) := by decide +kernel
theorem dJx4a65c_get_915e3_11 : decode cJx4a65c_get_915e3 11 = .ok (.invokevirtual 123, 3) := by decide +kernel
theorem dJx4a65c_get_915e3_14 : decode cJx4a65c_get_915e3 14 = .ok (.areturn, 1) := by decide +kernel
theorem dJx4a65c_elementData_915e3_0 : decode cJx4a65c_elementData_915e3 0 = .ok (.aload_n 0, 1) := by decide +kernel
theorem dJx4a65c_elementData_915e3_1 : decode cJx4a65c_elementData_915e3 1 = .ok (.getfield 9, 3) := by decide +kernel
theorem dJx4a65c_elementData_915e3_4 : decode cJx4a65c_elementData_915e3 4 = .ok (.iload_n 1, 1) := by decide +kernel
theorem dJx4a65c_elementData_915e3_5 : decode cJx4a65c_elementData_915e3 5 = .ok (.aaload, 1) := by decide +kernel
theorem dJx4a65c_elementData_915e3_6 : decode cJx4a65c_elementData_915e3 6 = .ok (.areturn, 1) := by decide +kernel
theorem dJ15_checkIndex_7cf53_0 : decode cJ15_checkIndex_7cf53 0 = .ok (.iload_n 0, 1) := by decide +kernel
theorem dJ15_checkIndex_7cf53_1 : decode cJ15_checkIndex_7cf53 1 = .ok (.iload_n 1, 1) := by decide +kernel
theorem dJ15_checkIndex_7cf53_2 : decode cJ15_checkIndex_7cf53 2 = .ok (.aconst_null, 1) := by decide +kernel
theorem dJ15_checkIndex_7cf53_3 : decode cJ15_checkIndex_7cf53 3 = .ok (.invokestatic 105, 3) := by decide +kernel
theorem dJ15_checkIndex_7cf53_6 : decode cJ15_checkIndex_7cf53 6 = .ok (.ireturn, 1) := by decide +kernel
theorem dJ3_checkIndex_8e157_0 : decode cJ3_checkIndex_8e157 0 = .ok (.iload_n 0, 1) := by decide +kernel
theorem dJ3_checkIndex_8e157_1 : decode cJ3_checkIndex_8e157 1 = .ok (.ifCond .lt 8, 3) := by decide +kernel
theorem dJ3_checkIndex_8e157_4 : decode cJ3_checkIndex_8e157 4 = .ok (.iload_n 0, 1) := by decide +kernel
theorem dJ3_checkIndex_8e157_5 : decode cJ3_checkIndex_8e157 5 = .ok (.iload_n 1, 1) := by decide +kernel
theorem dJ3_checkIndex_8e157_6 : decode cJ3_checkIndex_8e157 6 = .ok (.if_icmp .lt 10, 3) := by decide +kernel
theorem dJ3_checkIndex_8e157_9 : decode cJ3_checkIndex_8e157 9 = .ok (.aload_n 2, 1) := by decide +kernel
theorem dJ3_checkIndex_8e157_10 : decode cJ3_checkIndex_8e157 10 = .ok (.iload_n 0, 1) := by decide +kernel
theorem dJ3_checkIndex_8e157_11 : decode cJ3_checkIndex_8e157 11 = .ok (.iload_n 1, 1) := by decide +kernel
theorem dJ3_checkIndex_8e157_12 : decode cJ3_checkIndex_8e157 12 = .ok (.invokestatic 95, 3) := by decide +kernel
theorem dJ3_checkIndex_8e157_15 : decode cJ3_checkIndex_8e157 15 = .ok (.athrow, 1) := by decide +kernel
theorem dJ3_checkIndex_8e157_16 : decode cJ3_checkIndex_8e157 16 = .ok (.iload_n 0, 1) := by decide +kernel
theorem dJ3_checkIndex_8e157_17 : decode cJ3_checkIndex_8e157 17 = .ok (.ireturn, 1) := by decide +kernel
theorem dJx4a65c_add_9ea2d_0 : decode cJx4a65c_add_9ea2d 0 = .ok (.aload_n 0, 1) := by decide +kernel
theorem dJx4a65c_add_9ea2d_1 : decode cJx4a65c_add_9ea2d 1 = .ok (.dup, 1) := by decide +kernel
theorem dJx4a65c_add_9ea2d_2 : decode cJx4a65c_add_9ea2d 2 = .ok (.getfield 63, 3) := by decide +kernel
theorem dJx4a65c_add_9ea2d_5 : decode cJx4a65c_add_9ea2d 5 = .ok (.iconst 1, 1) := by decide +kernel
theorem dJx4a65c_add_9ea2d_6 : decode cJx4a65c_add_9ea2d 6 = .ok (.iadd, 1) := by decide +kernel
theorem dJx4a65c_add_9ea2d_7 : decode cJx4a65c_add_9ea2d 7 = .ok (.putfield 63, 3) := by decide +kernel
theorem dJx4a65c_add_9ea2d_10 : decode cJx4a65c_add_9ea2d 10 = .ok (.aload_n 0, 1) := by decide +kernel
theorem dJx4a65c_add_9ea2d_11 : decode cJx4a65c_add_9ea2d 11 = .ok (.aload_n 1, 1) := by decide +kernel
theorem dJx4a65c_add_9ea2d_12 : decode cJx4a65c_add_9ea2d 12 = .ok (.aload_n 0, 1) := by decide +kernel
theorem dJx4a65c_add_9ea2d_13 : decode cJx4a65c_add_9ea2d 13 = .ok (.getfield 9, 3) := by decide +kernel
theorem dJx4a65c_add_9ea2d_16 : decode cJx4a65c_add_9ea2d 16 = .ok (.aload_n 0, 1) := by decide +kernel
theorem dJx4a65c_add_9ea2d_17 : decode cJx4a65c_add_9ea2d 17 = .ok (.getfield 48, 3) := by decide +kernel
theorem dJx4a65c_add_9ea2d_20 : decode cJx4a65c_add_9ea2d 20 = .ok (.invokevirtual 131, 3) := by decide +kernel
theorem dJx4a65c_add_9ea2d_23 : decode cJx4a65c_add_9ea2d 23 = .ok (.iconst 1, 1) := by decide +kernel
theorem dJx4a65c_add_9ea2d_24 : decode cJx4a65c_add_9ea2d 24 = .ok (.ireturn, 1) := by decide +kernel
theorem dJx4a65c_add_72be8_0 : decode cJx4a65c_add_72be8 0 = .ok (.iload_n 3, 1) := by decide +kernel
theorem dJx4a65c_add_72be8_1 : decode cJx4a65c_add_72be8 1 = .ok (.aload_n 2, 1) := by decide +kernel
theorem dJx4a65c_add_72be8_2 : decode cJx4a65c_add_72be8 2 = .ok (.arraylength, 1) := by decide +kernel
theorem dJx4a65c_add_72be8_3 : decode cJx4a65c_add_72be8 3 = .ok (.if_icmp .ne 8, 3) := by decide +kernel
theorem dJx4a65c_add_72be8_6 : decode cJx4a65c_add_72be8 6 = .ok (.aload_n 0, 1) := by decide +kernel
theorem dJx4a65c_add_72be8_7 : decode cJx4a65c_add_72be8 7 = .ok (.invokevirtual 129, 3) := by decide +kernel
theorem dJx4a65c_add_72be8_10 : decode cJx4a65c_add_72be8 10 = .ok (.astore_n 2, 1) := by decide +kernel
theorem dJx4a65c_add_72be8_11 : decode cJx4a65c_add_72be8 11 = .ok (.aload_n 2, 1) := by decide +kernel
theorem dJx4a65c_add_72be8_12 : decode cJx4a65c_add_72be8 12 = .ok (.iload_n 3, 1) := by decide +kernel
theorem dJx4a65c_add_72be8_13 : decode cJx4a65c_add_72be8 13 = .ok (.aload_n 1, 1) := by decide +kernel
theorem dJx4a65c_add_72be8_14 : decode cJx4a65c_add_72be8 14 = .ok (.aastore, 1) := by decide +kernel
theorem dJx4a65c_add_72be8_15 : decode cJx4a65c_add_72be8 15 = .ok (.aload_n 0, 1) := by decide +kernel
theorem dJx4a65c_add_72be8_16 : decode cJx4a65c_add_72be8 16 = .ok (.iload_n 3, 1) := by decide +kernel
theorem dJx4a65c_add_72be8_17 : decode cJx4a65c_add_72be8 17 = .ok (.iconst 1, 1) := by decide +kernel
theorem dJx4a65c_add_72be8_18 : decode cJx4a65c_add_72be8 18 = .ok (.iadd, 1) := by decide +kernel
theorem dJx4a65c_add_72be8_19 : decode cJx4a65c_add_72be8 19 = .ok (.putfield 48, 3) := by decide +kernel
theorem dJx4a65c_add_72be8_22 : decode cJx4a65c_add_72be8 22 = .ok (.return_, 1) := by decide +kernel
theorem dJx4a65c_grow_d5877_0 : decode cJx4a65c_grow_d5877 0 = .ok (.aload_n 0, 1) := by decide +kernel
theorem dJx4a65c_grow_d5877_1 : decode cJx4a65c_grow_d5877 1 = .ok (.aload_n 0, 1) := by decide +kernel
theorem dJx4a65c_grow_d5877_2 : decode cJx4a65c_grow_d5877 2 = .ok (.getfield 48, 3) := by decide +kernel
theorem dJx4a65c_grow_d5877_5 : decode cJx4a65c_grow_d5877 5 = .ok (.iconst 1, 1) := by decide +kernel
theorem dJx4a65c_grow_d5877_6 : decode cJx4a65c_grow_d5877 6 = .ok (.iadd, 1) := by decide +kernel
theorem dJx4a65c_grow_d5877_7 : decode cJx4a65c_grow_d5877 7 = .ok (.invokevirtual 69, 3) := by decide +kernel
theorem dJx4a65c_grow_d5877_10 : decode cJx4a65c_grow_d5877 10 = .ok (.areturn, 1) := by decide +kernel
theorem dJx4a65c_grow_92f84_0 : decode cJx4a65c_grow_92f84 0 = .ok (.aload_n 0, 1) := by decide +kernel
theorem dJx4a65c_grow_92f84_1 : decode cJx4a65c_grow_92f84 1 = .ok (.getfield 9, 3) := by decide +kernel
theorem dJx4a65c_grow_92f84_4 : decode cJx4a65c_grow_92f84 4 = .ok (.arraylength, 1) := by decide +kernel
theorem dJx4a65c_grow_92f84_5 : decode cJx4a65c_grow_92f84 5 = .ok (.istore_n 2, 1) := by decide +kernel
theorem dJx4a65c_grow_92f84_6 : decode cJx4a65c_grow_92f84 6 = .ok (.iload_n 2, 1) := by decide +kernel
theorem dJx4a65c_grow_92f84_7 : decode cJx4a65c_grow_92f84 7 = .ok (.ifCond .gt 13, 3) := by decide +kernel
theorem dJx4a65c_grow_92f84_10 : decode cJx4a65c_grow_92f84 10 = .ok (.aload_n 0, 1) := by decide +kernel
theorem dJx4a65c_grow_92f84_11 : decode cJx4a65c_grow_92f84 11 = .ok (.getfield 9, 3) := by decide +kernel
theorem dJx4a65c_grow_92f84_14 : decode cJx4a65c_grow_92f84 14 = .ok (.getstatic 39, 3) := by decide +kernel
theorem dJx4a65c_grow_92f84_17 : decode cJx4a65c_grow_92f84 17 = .ok (.if_acmp .eq 28, 3) := by decide +kernel
theorem dJx4a65c_grow_92f84_20 : decode cJx4a65c_grow_92f84 20 = .ok (.iload_n 2, 1) := by decide +kernel
theorem dJx4a65c_grow_92f84_21 : decode cJx4a65c_grow_92f84 21 = .ok (.iload_n 1, 1) := by decide +kernel
theorem dJx4a65c_grow_92f84_22 : decode cJx4a65c_grow_92f84 22 = .ok (.iload_n 2, 1) := by decide +kernel
theorem dJx4a65c_grow_92f84_23 : decode cJx4a65c_grow_92f84 23 = .ok (.isub, 1) := by decide +kernel
theorem dJx4a65c_grow_92f84_24 : decode cJx4a65c_grow_92f84 24 = .ok (.iload_n 2, 1) := by decide +kernel
theorem dJx4a65c_grow_92f84_25 : decode cJx4a65c_grow_92f84 25 = .ok (.iconst 1, 1) := by decide +kernel
theorem dJx4a65c_grow_92f84_26 : decode cJx4a65c_grow_92f84 26 = .ok (.ishr, 1) := by decide +kernel
theorem dJx4a65c_grow_92f84_27 : decode cJx4a65c_grow_92f84 27 = .ok (.invokestatic 73, 3) := by decide +kernel
theorem dJx4a65c_grow_92f84_30 : decode cJx4a65c_grow_92f84 30 = .ok (.istore_n 3, 1) := by decide +kernel
theorem dJx4a65c_grow_92f84_31 : decode cJx4a65c_grow_92f84 31 = .ok (.aload_n 0, 1) := by decide +kernel
theorem dJx4a65c_grow_92f84_32 : decode cJx4a65c_grow_92f84 32 = .ok (.aload_n 0, 1) := by decide +kernel
theorem dJx4a65c_grow_92f84_33 : decode cJx4a65c_grow_92f84 33 = .ok (.getfield 9, 3) := by decide +kernel
theorem dJx4a65c_grow_92f84_36 : decode cJx4a65c_grow_92f84 36 = .ok (.iload_n 3, 1) := by decide +kernel
theorem dJx4a65c_grow_92f84_37 : decode cJx4a65c_grow_92f84 37 = .ok (.invokestatic 66, 3) := by decide +kernel
theorem dJx4a65c_grow_92f84_40 : decode cJx4a65c_grow_92f84 40 = .ok (.dup_x1, 1) := by decide +kernel
theorem dJx4a65c_grow_92f84_41 : decode cJx4a65c_grow_92f84 41 = .ok (.putfield 9, 3) := by decide +kernel
theorem dJx4a65c_grow_92f84_44 : decode cJx4a65c_grow_92f84 44 = .ok (.areturn, 1) := by decide +kernel
theorem dJx4a65c_grow_92f84_45 : decode cJx4a65c_grow_92f84 45 = .ok (.aload_n 0, 1) := by decide +kernel
theorem dJx4a65c_grow_92f84_46 : decode cJx4a65c_grow_92f84 46 = .ok (.bipush 10, 2) := by decide +kernel
theorem dJx4a65c_grow_92f84_48 : decode cJx4a65c_grow_92f84 48 = .ok (.iload_n 1, 1) := by decide +kernel
theorem dJx4a65c_grow_92f84_49 : decode cJx4a65c_grow_92f84 49 = .ok (.invokestatic 79, 3) := by decide +kernel
theorem dJx4a65c_grow_92f84_52 : decode cJx4a65c_grow_92f84 52 = .ok (.anewarray 7, 3) := by decide +kernel
theorem dJx4a65c_grow_92f84_55 : decode cJx4a65c_grow_92f84 55 = .ok (.dup_x1, 1) := by decide +kernel
theorem dJx4a65c_grow_92f84_56 : decode cJx4a65c_grow_92f84 56 = .ok (.putfield 9, 3) := by decide +kernel
theorem dJx4a65c_grow_92f84_59 : decode cJx4a65c_grow_92f84 59 = .ok (.areturn, 1) := by decide +kernel
theorem dJ8_newLength_cabcc_0 : decode cJ8_newLength_cabcc 0 = .ok (.iload_n 0, 1) := by decide +kernel
theorem dJ8_newLength_cabcc_1 : decode cJ8_newLength_cabcc 1 = .ok (.iload_n 1, 1) := by decide +kernel
theorem dJ8_newLength_cabcc_2 : decode cJ8_newLength_cabcc 2 = .ok (.iload_n 2, 1) := by decide +kernel
theorem dJ8_newLength_cabcc_3 : decode cJ8_newLength_cabcc 3 = .ok (.invokestatic 194, 3) := by decide +kernel
theorem dJ8_newLength_cabcc_6 : decode cJ8_newLength_cabcc 6 = .ok (.iadd, 1) := by decide +kernel
theorem dJ8_newLength_cabcc_7 : decode cJ8_newLength_cabcc 7 = .ok (.istore_n 3, 1) := by decide +kernel
theorem dJ8_newLength_cabcc_8 : decode cJ8_newLength_cabcc 8 = .ok (.iconst 0, 1) := by decide +kernel
theorem dJ8_newLength_cabcc_9 : decode cJ8_newLength_cabcc 9 = .ok (.iload_n 3, 1) := by decide +kernel
theorem dJ8_newLength_cabcc_10 : decode cJ8_newLength_cabcc 10 = .ok (.if_icmp .ge 11, 3) := by decide +kernel
theorem dJ8_newLength_cabcc_13 : decode cJ8_newLength_cabcc 13 = .ok (.iload_n 3, 1) := by decide +kernel
theorem dJ8_newLength_cabcc_14 : decode cJ8_newLength_cabcc 14 = .ok (.ldc 200, 2) := by decide +kernel
theorem dJ8_newLength_cabcc_16 : decode cJ8_newLength_cabcc 16 = .ok (.if_icmp .gt 5, 3) := by decide +kernel
theorem dJ8_newLength_cabcc_19 : decode cJ8_newLength_cabcc 19 = .ok (.iload_n 3, 1) := by decide +kernel
theorem dJ8_newLength_cabcc_20 : decode cJ8_newLength_cabcc 20 = .ok (.ireturn, 1) := by decide +kernel
theorem dJ8_newLength_cabcc_21 : decode cJ8_newLength_cabcc 21 = .ok (.iload_n 0, 1) := by decide +kernel
theorem dJ8_newLength_cabcc_22 : decode cJ8_newLength_cabcc 22 = .ok (.iload_n 1, 1) := by decide +kernel
theorem dJ8_newLength_cabcc_23 : decode cJ8_newLength_cabcc 23 = .ok (.invokestatic 201, 3) := by decide +kernel
theorem dJ8_newLength_cabcc_26 : decode cJ8_newLength_cabcc 26 = .ok (.ireturn, 1) := by decide +kernel
theorem dJ7_copyOf_1904c_0 : decode cJ7_copyOf_1904c 0 = .ok (.aload_n 0, 1) := by decide +kernel
theorem dJ7_copyOf_1904c_1 : decode cJ7_copyOf_1904c 1 = .ok (.iload_n 1, 1) := by decide +kernel
theorem dJ7_copyOf_1904c_2 : decode cJ7_copyOf_1904c 2 = .ok (.aload_n 0, 1) := by decide +kernel
theorem dJ7_copyOf_1904c_3 : decode cJ7_copyOf_1904c 3 = .ok (.invokevirtual 86, 3) := by decide +kernel
theorem dJ7_copyOf_1904c_6 : decode cJ7_copyOf_1904c 6 = .ok (.invokestatic 300, 3) := by decide +kernel
theorem dJ7_copyOf_1904c_9 : decode cJ7_copyOf_1904c 9 = .ok (.areturn, 1) := by decide +kernel
theorem dJ7_copyOf_6403c_0 : decode cJ7_copyOf_6403c 0 = .ok (.aload_n 2, 1) := by decide +kernel
theorem dJ7_copyOf_6403c_1 : decode cJ7_copyOf_6403c 1 = .ok (.ldc 110, 2) := by decide +kernel
theorem dJ7_copyOf_6403c_3 : decode cJ7_copyOf_6403c 3 = .ok (.if_acmp .ne 10, 3) := by decide +kernel
theorem dJ7_copyOf_6403c_6 : decode cJ7_copyOf_6403c 6 = .ok (.iload_n 1, 1) := by decide +kernel
theorem dJ7_copyOf_6403c_7 : decode cJ7_copyOf_6403c 7 = .ok (.anewarray 2, 3) := by decide +kernel
theorem dJ7_copyOf_6403c_10 : decode cJ7_copyOf_6403c 10 = .ok (.goto 14, 3) := by decide +kernel
theorem dJ7_copyOf_6403c_13 : decode cJ7_copyOf_6403c 13 = .ok (.aload_n 2, 1) := by decide +kernel
theorem dJ7_copyOf_6403c_14 : decode cJ7_copyOf_6403c 14 = .ok (.invokevirtual 90, 3) := by decide +kernel
theorem dJ7_copyOf_6403c_17 : decode cJ7_copyOf_6403c 17 = .ok (.iload_n 1, 1) := by decide +kernel
theorem dJ7_copyOf_6403c_18 : decode cJ7_copyOf_6403c 18 = .ok (.invokestatic 95, 3) := by decide +kernel
theorem dJ7_copyOf_6403c_21 : decode cJ7_copyOf_6403c 21 = .ok (.checkcast 110, 3) := by decide +kernel
theorem dJ7_copyOf_6403c_24 : decode cJ7_copyOf_6403c 24 = .ok (.astore_n 3, 1) := by decide +kernel
theorem dJ7_copyOf_6403c_25 : decode cJ7_copyOf_6403c 25 = .ok (.aload_n 0, 1) := by decide +kernel
theorem dJ7_copyOf_6403c_26 : decode cJ7_copyOf_6403c 26 = .ok (.iconst 0, 1) := by decide +kernel
theorem dJ7_copyOf_6403c_27 : decode cJ7_copyOf_6403c 27 = .ok (.aload_n 3, 1) := by decide +kernel
theorem dJ7_copyOf_6403c_28 : decode cJ7_copyOf_6403c 28 = .ok (.iconst 0, 1) := by decide +kernel
theorem dJ7_copyOf_6403c_29 : decode cJ7_copyOf_6403c 29 = .ok (.aload_n 0, 1) := by decide +kernel
theorem dJ7_copyOf_6403c_30 : decode cJ7_copyOf_6403c 30 = .ok (.arraylength, 1) := by decide +kernel
theorem dJ7_copyOf_6403c_31 : decode cJ7_copyOf_6403c 31 = .ok (.iload_n 1, 1) := by decide +kernel
theorem dJ7_copyOf_6403c_32 : decode cJ7_copyOf_6403c 32 = .ok (.invokestatic 304, 3) := by decide +kernel
theorem dJ7_copyOf_6403c_35 : decode cJ7_copyOf_6403c 35 = .ok (.invokestatic 150, 3) := by decide +kernel
theorem dJ7_copyOf_6403c_38 : decode cJ7_copyOf_6403c 38 = .ok (.aload_n 3, 1) := by decide +kernel
theorem dJ7_copyOf_6403c_39 : decode cJ7_copyOf_6403c 39 = .ok (.areturn, 1) := by decide +kernel
theorem dJ6_valueOf_2dffe_0 : decode cJ6_valueOf_2dffe 0 = .ok (.iload_n 0, 1) := by decide +kernel
theorem dJ6_valueOf_2dffe_1 : decode cJ6_valueOf_2dffe 1 = .ok (.bipush (-128), 2) := by decide +kernel
theorem dJ6_valueOf_2dffe_3 : decode cJ6_valueOf_2dffe 3 = .ok (.if_icmp .lt 20, 3) := by decide +kernel
theorem dJ6_valueOf_2dffe_6 : decode cJ6_valueOf_2dffe 6 = .ok (.iload_n 0, 1) := by decide +kernel
theorem dJ6_valueOf_2dffe_7 : decode cJ6_valueOf_2dffe 7 = .ok (.getstatic 191, 3) := by decide +kernel
theorem dJ6_valueOf_2dffe_10 : decode cJ6_valueOf_2dffe 10 = .ok (.if_icmp .gt 13, 3) := by decide +kernel
theorem dJ6_valueOf_2dffe_13 : decode cJ6_valueOf_2dffe 13 = .ok (.getstatic 195, 3) := by decide +kernel
theorem dJ6_valueOf_2dffe_16 : decode cJ6_valueOf_2dffe 16 = .ok (.iload_n 0, 1) := by decide +kernel
theorem dJ6_valueOf_2dffe_17 : decode cJ6_valueOf_2dffe 17 = .ok (.sipush 128, 3) := by decide +kernel
theorem dJ6_valueOf_2dffe_20 : decode cJ6_valueOf_2dffe 20 = .ok (.iadd, 1) := by decide +kernel
theorem dJ6_valueOf_2dffe_21 : decode cJ6_valueOf_2dffe 21 = .ok (.aaload, 1) := by decide +kernel
theorem dJ6_valueOf_2dffe_22 : decode cJ6_valueOf_2dffe 22 = .ok (.areturn, 1) := by decide +kernel
theorem dJ6_valueOf_2dffe_23 : decode cJ6_valueOf_2dffe 23 = .ok (.new 1, 3) := by decide +kernel
theorem dJ6_valueOf_2dffe_26 : decode cJ6_valueOf_2dffe 26 = .ok (.dup, 1) := by decide +kernel
theorem dJ6_valueOf_2dffe_27 : decode cJ6_valueOf_2dffe 27 = .ok (.iload_n 0, 1) := by decide +kernel
theorem dJ6_valueOf_2dffe_28 : decode cJ6_valueOf_2dffe 28 = .ok (.invokespecial 199, 3) := by decide +kernel
theorem dJ6_valueOf_2dffe_31 : decode cJ6_valueOf_2dffe 31 = .ok (.areturn, 1) := by decide +kernel
theorem dJ6_init_d00df_0 : decode cJ6_init_d00df 0 = .ok (.aload_n 0, 1) := by decide +kernel
theorem dJ6_init_d00df_1 : decode cJ6_init_d00df 1 = .ok (.invokespecial 202, 3) := by decide +kernel
theorem dJ6_init_d00df_4 : decode cJ6_init_d00df 4 = .ok (.aload_n 0, 1) := by decide +kernel
theorem dJ6_init_d00df_5 : decode cJ6_init_d00df 5 = .ok (.iload_n 1, 1) := by decide +kernel
theorem dJ6_init_d00df_6 : decode cJ6_init_d00df 6 = .ok (.putfield 205, 3) := by decide +kernel
theorem dJ6_init_d00df_9 : decode cJ6_init_d00df 9 = .ok (.return_, 1) := by decide +kernel
theorem dJxd2413_init_da8c8_0 : decode cJxd2413_init_da8c8 0 = .ok (.aload_n 0, 1) := by decide +kernel
theorem dJxd2413_init_da8c8_1 : decode cJxd2413_init_da8c8 1 = .ok (.invokespecial 1, 3) := by decide +kernel
theorem dJxd2413_init_da8c8_4 : decode cJxd2413_init_da8c8 4 = .ok (.return_, 1) := by decide +kernel
theorem dJ6_intValue_8abf5_0 : decode cJ6_intValue_8abf5 0 = .ok (.aload_n 0, 1) := by decide +kernel
theorem dJ6_intValue_8abf5_1 : decode cJ6_intValue_8abf5 1 = .ok (.getfield 205, 3) := by decide +kernel
theorem dJ6_intValue_8abf5_4 : decode cJ6_intValue_8abf5 4 = .ok (.ireturn, 1) := by decide +kernel
theorem dJ9_max_7cf53_0 : decode cJ9_max_7cf53 0 = .ok (.iload_n 0, 1) := by decide +kernel
theorem dJ9_max_7cf53_1 : decode cJ9_max_7cf53 1 = .ok (.iload_n 1, 1) := by decide +kernel
theorem dJ9_max_7cf53_2 : decode cJ9_max_7cf53 2 = .ok (.if_icmp .lt 7, 3) := by decide +kernel
theorem dJ9_max_7cf53_5 : decode cJ9_max_7cf53 5 = .ok (.iload_n 0, 1) := by decide +kernel
theorem dJ9_max_7cf53_6 : decode cJ9_max_7cf53 6 = .ok (.goto 4, 3) := by decide +kernel
theorem dJ9_max_7cf53_9 : decode cJ9_max_7cf53 9 = .ok (.iload_n 1, 1) := by decide +kernel
theorem dJ9_max_7cf53_10 : decode cJ9_max_7cf53 10 = .ok (.ireturn, 1) := by decide +kernel
theorem dJ9_min_7cf53_0 : decode cJ9_min_7cf53 0 = .ok (.iload_n 0, 1) := by decide +kernel
theorem dJ9_min_7cf53_1 : decode cJ9_min_7cf53 1 = .ok (.iload_n 1, 1) := by decide +kernel
theorem dJ9_min_7cf53_2 : decode cJ9_min_7cf53 2 = .ok (.if_icmp .gt 7, 3) := by decide +kernel
theorem dJ9_min_7cf53_5 : decode cJ9_min_7cf53 5 = .ok (.iload_n 0, 1) := by decide +kernel
theorem dJ9_min_7cf53_6 : decode cJ9_min_7cf53 6 = .ok (.goto 4, 3) := by decide +kernel
theorem dJ9_min_7cf53_9 : decode cJ9_min_7cf53 9 = .ok (.iload_n 1, 1) := by decide +kernel
theorem dJ9_min_7cf53_10 : decode cJ9_min_7cf53 10 = .ok (.ireturn, 1) := by decide +kernel
theorem jf_J6_191 : Cond.fieldLink RJ6 191 "java/lang/Integer$IntegerCache" "high" "I" ∈ z_tbl := z_ix 548 (by decide +kernel)
theorem jf_J6_195 : Cond.fieldLink RJ6 195 "java/lang/Integer$IntegerCache" "cache" "[Ljava/lang/Integer;" ∈ z_tbl := z_ix 550 (by decide +kernel)
theorem jf_J6_205 : Cond.fieldLink RJ6 205 "java/lang/Integer" "value" "I" ∈ z_tbl := z_ix 561 (by decide +kernel)
theorem jf_Jx4a65c_9 : Cond.fieldLink RJx4a65c 9 "java/util/ArrayList" "elementData" "[Ljava/lang/Object;" ∈ z_tbl := z_ix 129 (by decide +kernel)
theorem jf_Jx4a65c_39 : Cond.fieldLink RJx4a65c 39 "java/util/ArrayList" "DEFAULTCAPACITY_EMPTY_ELEMENTDATA" "[Ljava/lang/Object;" ∈ z_tbl := z_ix 127 (by decide +kernel)
theorem jf_Jx4a65c_48 : Cond.fieldLink RJx4a65c 48 "java/util/ArrayList" "size" "I" ∈ z_tbl := z_ix 130 (by decide +kernel)
theorem jf_Jx4a65c_63 : Cond.fieldLink RJx4a65c 63 "java/util/ArrayList" "modCount" "I" ∈ z_tbl := z_ix 132 (by decide +kernel)
theorem jf_Jxc12de_7 : Cond.fieldLink RJxc12de 7 "java/util/AbstractList" "modCount" "I" ∈ z_tbl := z_ix 131 (by decide +kernel)
theorem cq_Jxc12de_init_da8c8 : z_cq 2 yJxc12de_init_da8c8 cJxc12de_init_da8c8 1 none 1 := ⟨z_ix 122 (by decide +kernel), z_ix 42 (by decide +kernel), by decide +kernel, by decide, ⟨z_ix 121 (by decide +kernel), rfl, rfl⟩⟩
theorem lk_Jx4a65c_1 : z_ck RJx4a65c 1 2 yJxc12de_init_da8c8 cJxc12de_init_da8c8 1 none 1 := ⟨cq_Jxc12de_init_da8c8, z_ix 120 (by decide +kernel)⟩
theorem cq_J7_copyOf_1904c : z_cq 1 yJ7_copyOf_1904c cJ7_copyOf_1904c 2 (some (.array (.object "java/lang/Object"))) 2 := ⟨z_ix 195 (by decide +kernel), z_ix 47 (by decide +kernel), by decide +kernel, by decide, z_ix 194 (by decide +kernel)⟩
theorem lk_Jx4a65c_66 : z_ck RJx4a65c 66 1 yJ7_copyOf_1904c cJ7_copyOf_1904c 2 (some (.array (.object "java/lang/Object"))) 2 := ⟨cq_J7_copyOf_1904c, z_ix 193 (by decide +kernel)⟩
theorem cq_Jx4a65c_grow_92f84 : z_cq 0 yJx4a65c_grow_92f84 cJx4a65c_grow_92f84 4 (some (.array (.object "java/lang/Object"))) 2 := ⟨z_ix 182 (by decide +kernel), z_ix 43 (by decide +kernel), by decide +kernel, by decide, ⟨z_ix 181 (by decide +kernel), z_ix 2 (by decide +kernel)⟩⟩
theorem lk_Jx4a65c_69 : z_ck RJx4a65c 69 0 yJx4a65c_grow_92f84 cJx4a65c_grow_92f84 4 (some (.array (.object "java/lang/Object"))) 2 := ⟨cq_Jx4a65c_grow_92f84, z_ix 179 (by decide +kernel)⟩
theorem cq_J8_newLength_cabcc : z_cq 1 yJ8_newLength_cabcc cJ8_newLength_cabcc 4 (some .int) 3 := ⟨z_ix 185 (by decide +kernel), z_ix 45 (by decide +kernel), by decide +kernel, by decide, z_ix 184 (by decide +kernel)⟩
theorem lk_Jx4a65c_73 : z_ck RJx4a65c 73 1 yJ8_newLength_cabcc cJ8_newLength_cabcc 4 (some .int) 3 := ⟨cq_J8_newLength_cabcc, z_ix 183 (by decide +kernel)⟩
theorem cj_J9_max_7cf53 : z_cq 1 yJ9_max_7cf53 cJ9_max_7cf53 2 (some .int) 2 := ⟨z_ix 188 (by decide +kernel), z_ix 46 (by decide +kernel), by decide +kernel, by decide, z_ix 187 (by decide +kernel)⟩
theorem lk_Jx4a65c_79 : z_ck RJx4a65c 79 1 yJ9_max_7cf53 cJ9_max_7cf53 2 (some .int) 2 := ⟨cj_J9_max_7cf53, z_ix 227 (by decide +kernel)⟩
theorem cq_J15_checkIndex_7cf53 : z_cq 1 yJ15_checkIndex_7cf53 cJ15_checkIndex_7cf53 2 (some .int) 2 := ⟨z_ix 451 (by decide +kernel), z_ix 55 (by decide +kernel), by decide +kernel, by decide, z_ix 450 (by decide +kernel)⟩
theorem lk_Jx4a65c_118 : z_ck RJx4a65c 118 1 yJ15_checkIndex_7cf53 cJ15_checkIndex_7cf53 2 (some .int) 2 := ⟨cq_J15_checkIndex_7cf53, z_ix 449 (by decide +kernel)⟩
theorem cq_Jx4a65c_elementData_915e3 : z_cq 0 yJx4a65c_elementData_915e3 cJx4a65c_elementData_915e3 2 (some (.object "java/lang/Object")) 2 := ⟨z_ix 458 (by decide +kernel), z_ix 43 (by decide +kernel), by decide +kernel, by decide, ⟨z_ix 456 (by decide +kernel), z_ix 457 (by decide +kernel)⟩⟩
theorem lk_Jx4a65c_123 : z_ck RJx4a65c 123 0 yJx4a65c_elementData_915e3 cJx4a65c_elementData_915e3 2 (some (.object "java/lang/Object")) 2 := ⟨cq_Jx4a65c_elementData_915e3, z_ix 455 (by decide +kernel)⟩
theorem cq_Jx4a65c_grow_d5877 : z_cq 0 yJx4a65c_grow_d5877 cJx4a65c_grow_d5877 1 (some (.array (.object "java/lang/Object"))) 1 := ⟨z_ix 178 (by decide +kernel), z_ix 43 (by decide +kernel), by decide +kernel, by decide, ⟨z_ix 177 (by decide +kernel), z_ix 1 (by decide +kernel)⟩⟩
theorem lk_Jx4a65c_129 : z_ck RJx4a65c 129 0 yJx4a65c_grow_d5877 cJx4a65c_grow_d5877 1 (some (.array (.object "java/lang/Object"))) 1 := ⟨cq_Jx4a65c_grow_d5877, z_ix 175 (by decide +kernel)⟩
theorem cq_Jx4a65c_add_72be8 : z_cq 0 yJx4a65c_add_72be8 cJx4a65c_add_72be8 4 none 4 := ⟨z_ix 174 (by decide +kernel), z_ix 43 (by decide +kernel), by decide +kernel, by decide, ⟨z_ix 173 (by decide +kernel), z_ix 0 (by decide +kernel)⟩⟩
theorem lk_Jx4a65c_131 : z_ck RJx4a65c 131 0 yJx4a65c_add_72be8 cJx4a65c_add_72be8 4 none 4 := ⟨cq_Jx4a65c_add_72be8, z_ix 171 (by decide +kernel)⟩
theorem cq_J3_checkIndex_8e157 : z_cq 1 yJ3_checkIndex_8e157 cJ3_checkIndex_8e157 3 (some .int) 3 := ⟨z_ix 454 (by decide +kernel), z_ix 56 (by decide +kernel), by decide +kernel, by decide, z_ix 453 (by decide +kernel)⟩
theorem lk_J15_105 : z_ck RJ15 105 1 yJ3_checkIndex_8e157 cJ3_checkIndex_8e157 3 (some .int) 3 := ⟨cq_J3_checkIndex_8e157, z_ix 452 (by decide +kernel)⟩
theorem cq_J6_init_d00df : z_cq 2 yJ6_init_d00df cJ6_init_d00df 2 none 2 := ⟨z_ix 556 (by decide +kernel), z_ix 60 (by decide +kernel), by decide +kernel, by decide, ⟨z_ix 555 (by decide +kernel), rfl, rfl⟩⟩
theorem lk_J6_199 : z_ck RJ6 199 2 yJ6_init_d00df cJ6_init_d00df 2 none 2 := ⟨cq_J6_init_d00df, z_ix 554 (by decide +kernel)⟩
theorem cq_Jxd2413_init_da8c8 : z_cq 2 yJxd2413_init_da8c8 cJxd2413_init_da8c8 1 none 1 := ⟨z_ix 559 (by decide +kernel), z_ix 59 (by decide +kernel), by decide +kernel, by decide, ⟨z_ix 558 (by decide +kernel), rfl, rfl⟩⟩
theorem lk_J6_202 : z_ck RJ6 202 2 yJxd2413_init_da8c8 cJxd2413_init_da8c8 1 none 1 := ⟨cq_Jxd2413_init_da8c8, z_ix 557 (by decide +kernel)⟩
theorem cq_J7_copyOf_6403c : z_cq 1 yJ7_copyOf_6403c cJ7_copyOf_6403c 4 (some (.array (.object "java/lang/Object"))) 3 := ⟨z_ix 217 (by decide +kernel), z_ix 47 (by decide +kernel), by decide +kernel, by decide, z_ix 216 (by decide +kernel)⟩
theorem lk_J7_300 : z_ck RJ7 300 1 yJ7_copyOf_6403c cJ7_copyOf_6403c 4 (some (.array (.object "java/lang/Object"))) 3 := ⟨cq_J7_copyOf_6403c, z_ix 215 (by decide +kernel)⟩
theorem cj_J9_min_7cf53 : z_cq 1 yJ9_min_7cf53 cJ9_min_7cf53 2 (some .int) 2 := ⟨z_ix 223 (by decide +kernel), z_ix 46 (by decide +kernel), by decide +kernel, by decide, z_ix 222 (by decide +kernel)⟩
theorem lk_J7_304 : z_ck RJ7 304 1 yJ9_min_7cf53 cJ9_min_7cf53 2 (some .int) 2 := ⟨cj_J9_min_7cf53, z_ix 221 (by decide +kernel)⟩
theorem lk_J8_194 : z_ck RJ8 194 1 yJ9_max_7cf53 cJ9_max_7cf53 2 (some .int) 2 := ⟨cj_J9_max_7cf53, z_ix 186 (by decide +kernel)⟩
theorem cq_Jxa1e45_init_da8c8 : z_cq 2 yJxa1e45_init_da8c8 cJxa1e45_init_da8c8 1 none 1 := ⟨z_ix 125 (by decide +kernel), z_ix 41 (by decide +kernel), by decide +kernel, by decide, ⟨z_ix 124 (by decide +kernel), rfl, rfl⟩⟩
theorem lk_Jxc12de_1 : z_ck RJxc12de 1 2 yJxa1e45_init_da8c8 cJxa1e45_init_da8c8 1 none 1 := ⟨cq_Jxa1e45_init_da8c8, z_ix 123 (by decide +kernel)⟩
theorem cq_Jx4a65c_size_8abf5 : z_cq 0 yJx4a65c_size_8abf5 cJx4a65c_size_8abf5 1 (some .int) 1 := ⟨z_ix 368 (by decide +kernel), z_ix 43 (by decide +kernel), by decide +kernel, by decide, ⟨z_ix 366 (by decide +kernel), z_ix 367 (by decide +kernel)⟩⟩
theorem cq_Jx4a65c_get_915e3 : z_cq 0 yJx4a65c_get_915e3 cJx4a65c_get_915e3 2 (some (.object "java/lang/Object")) 2 := ⟨z_ix 448 (by decide +kernel), z_ix 43 (by decide +kernel), by decide +kernel, by decide, ⟨z_ix 446 (by decide +kernel), z_ix 447 (by decide +kernel)⟩⟩
theorem cq_Jx4a65c_add_9ea2d : z_cq 0 yJx4a65c_add_9ea2d cJx4a65c_add_9ea2d 2 (some .boolean) 2 := ⟨z_ix 170 (by decide +kernel), z_ix 43 (by decide +kernel), by decide +kernel, by decide, ⟨z_ix 168 (by decide +kernel), z_ix 169 (by decide +kernel)⟩⟩
theorem cq_J6_intValue_8abf5 : z_cq 0 yJ6_intValue_8abf5 cJ6_intValue_8abf5 1 (some .int) 1 := ⟨z_ix 867 (by decide +kernel), z_ix 60 (by decide +kernel), by decide +kernel, by decide, ⟨z_ix 865 (by decide +kernel), z_ix 866 (by decide +kernel)⟩⟩
theorem cq_J6_valueOf_2dffe : z_cq 1 yJ6_valueOf_2dffe cJ6_valueOf_2dffe 1 (some (.object "java/lang/Integer")) 1 := ⟨z_ix 547 (by decide +kernel), z_ix 60 (by decide +kernel), by decide +kernel, by decide, z_ix 546 (by decide +kernel)⟩
theorem cq_Jx4a65c_init_da8c8 : z_cq 2 yJx4a65c_init_da8c8 cJx4a65c_init_da8c8 1 none 1 := ⟨z_ix 119 (by decide +kernel), z_ix 43 (by decide +kernel), by decide +kernel, by decide, ⟨z_ix 118 (by decide +kernel), rfl, rfl⟩⟩
theorem jo_Jxa1e45 : Cond.methodLink RJxa1e45 1 Lib.objectInit ∈ z_tbl := z_ix 126 (by decide +kernel)
theorem jo_Jxd2413 : Cond.methodLink RJxd2413 1 Lib.objectInit ∈ z_tbl := z_ix 560 (by decide +kernel)
theorem jc_J6_1 : Cond.classLink RJ6 1 "java/lang/Integer" ∈ z_tbl := z_ix 552 (by decide +kernel)
theorem jc_J7_2 : Cond.classLink RJ7 2 "java/lang/Object" ∈ z_tbl := z_ix 220 (by decide +kernel)
theorem jc_J7_110 : Cond.classLink RJ7 110 "[Ljava/lang/Object;" ∈ z_tbl := z_ix 218 (by decide +kernel)
theorem jc_Jx4a65c_7 : Cond.classLink RJx4a65c 7 "java/lang/Object" ∈ z_tbl := z_ix 228 (by decide +kernel)
theorem jw_same : Cond.sameField "java/util/ArrayList" "java/util/AbstractList" "modCount" "I" ∈ z_tbl := z_ix 133 (by decide +kernel)
theorem jw_cpyN : Cond.native arraycopyName ∈ z_tbl := z_ix 226 (by decide +kernel)
theorem jw_cpyS : Cond.static arraycopyName ∈ z_tbl := z_ix 225 (by decide +kernel)
theorem jw_cpyI : Cond.initialized "java/lang/System" ∈ z_tbl := z_ix 48 (by decide +kernel)
theorem jw_cpyL : Cond.methodLink RJ7 150 arraycopyName ∈ z_tbl := z_ix 224 (by decide +kernel)
theorem jw_gcL : Cond.methodLink RJ7 86 ⟨"java/lang/Object", "getClass", "()Ljava/lang/Class;"⟩ ∈ z_tbl := z_ix 196 (by decide +kernel)
theorem jw_gcI : Cond.instanceMethod ⟨"java/lang/Object", "getClass", "()Ljava/lang/Class;"⟩ ∈ z_tbl := z_ix 197 (by decide +kernel)
theorem jw_gcN : Cond.native ⟨"java/lang/Object", "getClass", "()Ljava/lang/Class;"⟩ ∈ z_tbl := z_ix 214 (by decide +kernel)
theorem jw_gcS : Cond.selects "[Ljava/lang/Object;" ⟨"java/lang/Object", "getClass", "()Ljava/lang/Class;"⟩ ⟨"java/lang/Object", "getClass", "()Ljava/lang/Class;"⟩ ∈ z_tbl := z_ix 1411 (by decide +kernel)
theorem jn_list : Cond.instantiable RJx4a65c 3 ∈ z_tbl := z_ix 116 (by decide +kernel)
theorem jn_int : Cond.instantiable RJ6 1 ∈ z_tbl := z_ix 553 (by decide +kernel)
theorem inzJ6 : ∀ w ∈ wsJ60, w ∈ z_tbl := fun w h => List.mem_filter.mpr ⟨inJ6 w h, List.all_eq_true.mp (show wsJ60.all goodWord = true by decide +kernel) w h⟩
theorem inzJL : ∀ w ∈ wsJx4a65c0, w ∈ z_tbl := fun w h => List.mem_filter.mpr ⟨inJx4a65c w h, List.all_eq_true.mp (show wsJx4a65c0.all goodWord = true by decide +kernel) w h⟩
theorem jk_newLen : Cond.constant RJ8 200 2147483639 ∈ z_tbl := z_ix 189 (by decide +kernel)
theorem jq_J9_max_7cf53 : Cond.static Lib.Math.max.name ∈ z_tbl ∧ Cond.code Lib.Math.max.name Lib.Math.max.code 2 (some .int) ∈ z_tbl := ⟨z_ix 187 (by decide +kernel), z_ix 188 (by decide +kernel)⟩
theorem jq_J9_min_7cf53 : Cond.static Lib.Math.min.name ∈ z_tbl ∧ Cond.code Lib.Math.min.name Lib.Math.min.code 2 (some .int) ∈ z_tbl := ⟨z_ix 222 (by decide +kernel), z_ix 223 (by decide +kernel)⟩
theorem jq_J9_max_f86c9 : Cond.static Lib.MathLoose.max_long.x ∈ z_tbl ∧ Cond.code Lib.MathLoose.max_long.x Lib.MathLoose.max_long.code 4 (some .long) ∈ z_tbl := ⟨z_ix 489 (by decide +kernel), z_ix 490 (by decide +kernel)⟩
theorem jq_J9_min_f86c9 : Cond.static Lib.MathLoose.min_long.x ∈ z_tbl ∧ Cond.code Lib.MathLoose.min_long.x Lib.MathLoose.min_long.code 4 (some .long) ∈ z_tbl := ⟨z_ix 486 (by decide +kernel), z_ix 487 (by decide +kernel)⟩
theorem jq_ini : Cond.initialized "java/lang/Math" ∈ z_tbl := z_ix 46 (by decide +kernel)
theorem jm_J7_304 : Cond.methodLink RJ7 304 Lib.Math.min.name ∈ z_tbl := z_ix 221 (by decide +kernel)
theorem jm_J8_194 : Cond.methodLink RJ8 194 Lib.Math.max.name ∈ z_tbl := z_ix 186 (by decide +kernel)
theorem jm_Jx4a65c_79 : Cond.methodLink RJx4a65c 79 Lib.Math.max.name ∈ z_tbl := z_ix 227 (by decide +kernel)
theorem jm_X1_54 : Cond.methodLink RX1 54 Lib.MathLoose.min_long.x ∈ z_tbl := z_ix 757 (by decide +kernel)
theorem jm_X1_60 : Cond.methodLink RX1 60 Lib.MathLoose.max_long.x ∈ z_tbl := z_ix 758 (by decide +kernel)
theorem jm_X10_37 : Cond.methodLink RX10 37 Lib.MathLoose.min_long.x ∈ z_tbl := z_ix 485 (by decide +kernel)
theorem jm_X10_46 : Cond.methodLink RX10 46 Lib.MathLoose.max_long.x ∈ z_tbl := z_ix 488 (by decide +kernel)
theorem jm_X11_444 : Cond.methodLink RX11 444 Lib.MathLoose.min_long.x ∈ z_tbl := z_ix 731 (by decide +kernel)
theorem jm_X12_283 : Cond.methodLink RX12 283 Lib.MathLoose.min_long.x ∈ z_tbl := z_ix 1287 (by decide +kernel)
theorem jm_X12_296 : Cond.methodLink RX12 296 Lib.MathLoose.max_long.x ∈ z_tbl := z_ix 1292 (by decide +kernel)
theorem jm_X12_299 : Cond.methodLink RX12 299 Lib.Math.min.name ∈ z_tbl := z_ix 1293 (by decide +kernel)
theorem jm_X12_302 : Cond.methodLink RX12 302 Lib.Math.max.name ∈ z_tbl := z_ix 1294 (by decide +kernel)
end
section
/-! the small machine against the machine: calls -/
theorem z_good {y : MethodName} {cc : ByteArray} {mL : Nat} {rt : Option FieldType} (h : Cond.code y cc mL rt ∈ z_tbl) : GoodIn z_tbl (Cond.code y cc mL rt :: z_tbl) := fun w hw => by
  have hw' : w ∈ z_tbl := by
    rcases List.mem_cons.mp hw with rfl | hw
    · exact h
    · exact hw
  exact ⟨hw', good_of_word (List.mem_filter.mp hw').2⟩
theorem z_CP_mono {l : Launch} {G : z_G} {d MC MS : Nat} {own : String} {idx kd : Nat} {as : List z_V} {h : z_H} {ce sl : Nat} {k k' : Option z_V → z_H → Nat → Nat → Prop} (hk : ∀ r h ce sl, k r h ce sl → k' r h ce sl) (hc : z_CP l G d MC MS own idx kd as h ce sl k) : z_CP l G d MC MS own idx kd as h ce sl k' := by
  obtain ⟨hd, ⟨y', cc', mL, rt, mc, ms, Q, q1, q2, q3, q4, q5, q6⟩ | ⟨q1, q2, q3, c, q4, q5⟩⟩ := hc
  · exact ⟨hd, Or.inl ⟨y', cc', mL, rt, mc, ms, Q, q1, q2, q3, q4, q5, fun r h' hq => hk _ _ _ _ (q6 r h' hq)⟩⟩
  · refine ⟨hd, Or.inr ⟨q1, q2, q3, c, q4, ?_⟩⟩
    split at q5
    · exact hk _ _ _ _ q5
    · exact hk _ _ _ _ q5
    · exact hk _ _ _ _ q5
    · exact hk _ _ _ _ q5
    · exact q5.elim
section ZQ
variable {p : Program} {l : Launch} {e : Env} {R : Room} {s : State} {m : MethodId} {args : Array Value} {below : List Frame} {meth : Method} {c : Code} {G : z_G} {ad0 : Nat → Nat → Nat} {h0 : z_H} {nL : Nat} {Qs : State → Prop} {y : MethodName} {cc : ByteArray} {d MC MS : Nat}
variable {pc : Nat} {ls : z_L} {st : z_S} {h : z_H} {ce sl : Nat}
/-- the callee's start: any heap that is this world's -/
def z_Pm (G : z_G) (ad : Nat → Nat → Nat) (as : List z_V) (h : z_H) : Array Value → State → Prop := fun v U => v = (as.map (z_val ad)).toArray ∧ z_RP G ad h U ∧ ∀ x ∈ as, z_ok h x
theorem z_blind {ad : Nat → Nat → Nat} {as : List z_V} {h : z_H} : FrameBlind (z_Pm G ad as h) := fun a U g mk ⟨q1, ⟨q2, q3⟩, q4⟩ => ⟨q1, ⟨q2.moved (U := U.calling g mk a) (Vm.Alike.refl U.vm), q3.moved (U := U.calling g mk a) (Vm.Alike.refl U.vm)⟩, q4⟩
theorem z_pre {ad : Nat → Nat → Nat} {as : List z_V} {h : z_H} {H : Heap} (C : z_Cx p R s m args meth c G y cc nL d MC MS) (hH : z_HR G ad h s H) (ha : ∀ x ∈ as, z_ok h x) : ∀ U : State, U.heap = H → s.WarmedH U.vm → z_Pm G ad as h (as.map (z_val ad)).toArray U :=
  fun U hU hW => ⟨rfl, ⟨C.2.2.2.2.2.2.1.moved hW.alike, by rw [hU]; exact hH.moved hW.alike⟩, ha⟩
theorem z_callB {y' : MethodName} {cc' : ByteArray} {mL : Nat} {rt : Option FieldType} {idx kd n mc ms : Nat} (C : z_Cx p R s m args meth c G y cc nL d MC MS) (hd : 1 ≤ d) (hck : z_ck y.cls idx kd y' cc' mL rt n) :
    CallB R s args y.cls idx y' cc' mL rt (Cond.code y' cc' mL rt :: z_tbl) (z_rm (d - 1) mc ms) mc ms (if kd = 1 then n else n - 1) := by
  obtain ⟨⟨k1, k2, k456, k7, -⟩, k3⟩ := hck
  have hts := C.2.2.2.2.2.1
  have h1 := C.2.2.2.2.2.2.2.1
  have h2 := C.2.2.2.2.2.2.2.2.1
  refine callB_of _ hts (z_good k1) rfl rfl rfl (hts _ k2) (hts _ k3) k456 ⟨?_, ?_⟩
  · show d - 1 + 1 ≤ R.frames
    omega
  · show 8 + (mL + 11) + 40 * (d - 1) ≤ R.locals
    omega
/-- behind a call -/
theorem z_after {ad : Nat → Nat → Nat} {H : Heap} {locs : List Loc} {la : Array Slot} {stk : List Value} {mc ms : Nat} {Q : Option z_V → z_H → Prop} {Qa : State → Outcome → State → Prop} (hE : z_EX h0 ad0 h ad) (hO : z_OK h ls st) (hl0 : ∀ x ∈ locs, gB G ≤ x.base) (hl : lv_has la nL (z_lm ad ls))
    (hQa : ∀ st₀ o t, Qa st₀ o t → ∃ (ad' : Nat → Nat → Nat) (r : Option z_V) (h' : z_H), o = .returned (r.map (z_val ad')) ∧ z_RP G ad' h' t ∧ z_EX h ad h' ad' ∧ (∀ x, r = some x → z_ok h' x) ∧ Q r h')
    (hrun : va_Run p l e R s m args below meth c H locs ce sl mc ms (F0 m pc la stk) (st.map (z_val ad)) Qa (z_A G))
    (k : ∀ r h', Q r h' → z_At p l e R s m args below meth c G ad0 h0 nL Qs (pc + 3) ls (r.toList ++ st) h' (ce + mc) (sl + ms)) : W p l e R s m args below meth c H locs ce sl Qs (F0 m pc la stk) := by
  intro T hT X
  obtain ⟨v, st₀, t, T', L, g0, X', hL, e1, e2, hq, hgo⟩ := hrun T hT X
  obtain ⟨ad', r, h', hv, hRP, hE', hok, hQ⟩ := hQa _ _ _ hq
  cases hv
  have hal : t.vm.Alike s.vm := by rw [← e2]; exact X'.warmed.alike.symm
  have hO' : z_OK h' ls (r.toList ++ st) := by
    refine ⟨fun q hq => (hO.1 q hq).mono hE'.1, fun v hv => ?_⟩
    rcases List.mem_append.mp hv with hv | hv
    · cases r with
      | none => cases hv
      | some x =>
        have : v = x := by simpa using hv
        rw [this]
        exact hok x rfl
    · exact (hO.2 v hv).mono hE'.1
  have hW := k r h' hQ ad' T'.heap (locs ++ L) la (by rw [e1]; exact hRP.2.moved hal) (hE.tr hE') hO' (fun x hx => by
    rcases List.mem_append.mp hx with hx | hx
    · exact hl0 x hx
    · exact hL x hx) (by rw [z_lm_ex hE' hO]; exact hl)
  rw [List.map_append, z_sm_ex hE' hO] at hW
  obtain ⟨t2, a1, b1⟩ := hW T' rfl X'
  refine ⟨t2, hgo t2 ?_, b1⟩
  have e : (r.map (z_val ad')).toList = r.toList.map (z_val ad') := by cases r <;> rfl
  rw [e]
  exact a1
theorem zs_callV (C : z_Cx p R s m args meth c G y cc nL d MC MS) {idx : Nat} {as : List z_V} (hd : decode cc pc = .ok (.invokevirtual idx, 3)) (hw : z_w st ≤ 8)
    (hcp : z_CP l G d MC MS y.cls idx 0 as h ce sl fun r h ce sl => z_At p l e R s m args below meth c G ad0 h0 nL Qs (pc + 3) ls (r.toList ++ st) h ce sl) : z_At p l e R s m args below meth c G ad0 h0 nL Qs pc ls (as.reverse ++ st) h ce sl := by
  intro ad H locs la hH hE hO hl0 hl
  obtain ⟨hd1, ⟨y', cc', mL, rt, mc, ms, Q, hck, hrc, hMT, hmc, hms, hk⟩ | ⟨hkd, -⟩⟩ := hcp
  rotate_left
  · exact absurd hkd (by decide)
  rcases as with _ | ⟨v, as⟩
  · exact hrc.elim
  rcases v with x | x | _ | q
  · exact hrc.elim
  · exact hrc.elim
  · exact hrc.elim
  obtain ⟨hK, hR⟩ := hrc
  have hO1 : z_OK h ls st := ⟨hO.1, fun v hv => hO.2 v (List.mem_append_right _ hv)⟩
  have ha : ∀ x ∈ (z_q (some q) :: as), z_ok h x := fun x hx => hO.2 x (List.mem_append_left _ (List.mem_reverse.mpr hx))
  have hi := ha _ List.mem_cons_self
  obtain ⟨cell, q1, q2, q3, q4⟩ := (hH.2.2.2.2.1 q.1 q.2 hi.2 hi.1).1 hK
  have hKn := C.2.2.2.2.2.2.1.1.1 q.1 _ (z_cl hK)
  have cb := z_callB (mc := mc) (ms := ms) C hd1 hck
  obtain ⟨k9, k10⟩ := hck.1.2.2.2.2
  have hts := C.2.2.2.2.2.1
  have hrun := va_runV (C := y'.cls) (b := ad q.1 q.2) (As := as.map (z_val ad)) (rest := st.map (z_val ad)) (g := F0 m pc la ((((z_q (some q)) :: as).reverse ++ st).map (z_val ad))) (H := H) (locs := locs) (cells := ce) (slots := sl) (below := below) (meth := meth) (e := e)
    (show CallFix p m c cc nL s args z_tbl y.cls from ⟨C.1, C.2.1, C.2.2.1, C.2.2.2.1, hts⟩) (hMT ad) (show CallW R s args y.cls y'.cls idx y' cc' mL rt _ _ mc ms as.length from ⟨by simpa using cb, hts _ k9, hts _ k10⟩)
    ⟨z_blind, ⟨cell, q1, by rw [q3]; rfl, by rw [q2, ← hR]; exact hKn.2.1⟩, z_pre C hH ha⟩ rfl (by simp) hl.1 (by simp [z_val]) (by rw [z_w_eq]; show 2 * 0 + z_w st ≤ 8; omega) hd ⟨by rw [C.2.2.2.2.2.2.2.2.2.1]; exact hmc, by rw [C.2.2.2.2.2.2.2.2.2.2]; exact hms⟩
  exact z_after hE hO1 hl0 hl (fun _ _ _ q => q) hrun hk
theorem zs_callS (C : z_Cx p R s m args meth c G y cc nL d MC MS) {idx : Nat} {as : List z_V} (hd : decode cc pc = .ok (.invokestatic idx, 3)) (hw : z_w st ≤ 8)
    (hcp : z_CP l G d MC MS y.cls idx 1 as h ce sl fun r h ce sl => z_At p l e R s m args below meth c G ad0 h0 nL Qs (pc + 3) ls (r.toList ++ st) h ce sl) : z_At p l e R s m args below meth c G ad0 h0 nL Qs pc ls (as.reverse ++ st) h ce sl := by
  intro ad H locs la hH hE hO hl0 hl
  have hts := C.2.2.2.2.2.1
  have hlo := C.2.2.2.2.2.2.2.2.1
  have hfr := C.2.2.2.2.2.2.2.1
  obtain ⟨hd1, ⟨y', cc', mL, rt, mc, ms, Q, hck, hrc, hMT, hmc, hms, hk⟩ | ⟨-, hmc, hms, q, hlk, hm⟩⟩ := hcp
  rotate_left
  · have hO1 : z_OK h ls st := ⟨hO.1, fun v hv => hO.2 v (List.mem_append_right _ hv)⟩
    have hR1 : ce ≤ R.cells := by rw [C.2.2.2.2.2.2.2.2.2.1]; exact hmc
    have hR2 : sl ≤ R.slots := by rw [C.2.2.2.2.2.2.2.2.2.2]; exact hms
    have hsz : c.maxLocals = la.size := by rw [C.2.2.1, hl.1]
    split at hm
    · exact va_mmax (rest := st.map (z_val ad)) C.1 C.2.1 hsz C.2.2.2.1 (hts _ hlk) (hts _ jq_J9_max_7cf53.1) (hts _ jq_ini) (hts _ jq_J9_max_7cf53.2) (by omega) (by rw [z_w_eq]; omega) hR1 hR2 hd (hm ad H locs la hH hE (hO1.push trivial) hl0 hl)
    · exact va_mmin (rest := st.map (z_val ad)) C.1 C.2.1 hsz C.2.2.2.1 (hts _ hlk) (hts _ jq_J9_min_7cf53.1) (hts _ jq_ini) (hts _ jq_J9_min_7cf53.2) (by omega) (by rw [z_w_eq]; omega) hR1 hR2 hd (hm ad H locs la hH hE (hO1.push trivial) hl0 hl)
    · exact va_mmax_long (rest := st.map (z_val ad)) C.1 C.2.1 hsz C.2.2.2.1 (hts _ hlk) (hts _ jq_J9_max_f86c9.1) (hts _ jq_ini) (hts _ jq_J9_max_f86c9.2) (by omega) (by rw [z_w_eq]; omega) hR1 hR2 hd (hm ad H locs la hH hE (hO1.push trivial) hl0 hl)
    · exact va_mmin_long (rest := st.map (z_val ad)) C.1 C.2.1 hsz C.2.2.2.1 (hts _ hlk) (hts _ jq_J9_min_f86c9.1) (hts _ jq_ini) (hts _ jq_J9_min_f86c9.2) (by omega) (by rw [z_w_eq]; omega) hR1 hR2 hd (hm ad H locs la hH hE (hO1.push trivial) hl0 hl)
    · exact hm.elim
  have hO1 : z_OK h ls st := ⟨hO.1, fun v hv => hO.2 v (List.mem_append_right _ hv)⟩
  have ha : ∀ x ∈ as, z_ok h x := fun x hx => hO.2 x (List.mem_append_left _ (List.mem_reverse.mpr hx))
  have cb := z_callB (mc := mc) (ms := ms) C hd1 hck
  have k9 := hck.1.2.2.2.2
  have hts := C.2.2.2.2.2.1
  have hrun := va_runS (As := as.map (z_val ad)) (rest := st.map (z_val ad)) (g := F0 m pc la ((as.reverse ++ st).map (z_val ad))) (H := H) (locs := locs) (cells := ce) (slots := sl) (below := below) (meth := meth) (e := e)
    (show CallFix p m c cc nL s args z_tbl y.cls from ⟨C.1, C.2.1, C.2.2.1, C.2.2.2.1, hts⟩) (hMT ad) (n := as.length) ⟨by simpa using cb, hts _ k9⟩
    ⟨z_blind, z_pre C hH ha⟩ rfl (by simp) hl.1 (by simp) (by rw [z_w_eq]; show 2 * 0 + z_w st ≤ 8; omega) hd ⟨by rw [C.2.2.2.2.2.2.2.2.2.1]; exact hmc, by rw [C.2.2.2.2.2.2.2.2.2.2]; exact hms⟩
  exact z_after hE hO1 hl0 hl (fun _ _ _ q => q) hrun hk
theorem zs_callI (C : z_Cx p R s m args meth c G y cc nL d MC MS) {idx : Nat} {as : List z_V} (hd : decode cc pc = .ok (.invokespecial idx, 3)) (hw : z_w st ≤ 8)
    (hcp : z_CP l G d MC MS y.cls idx 2 as h ce sl fun r h ce sl => z_At p l e R s m args below meth c G ad0 h0 nL Qs (pc + 3) ls (r.toList ++ st) h ce sl) : z_At p l e R s m args below meth c G ad0 h0 nL Qs pc ls (as.reverse ++ st) h ce sl := by
  intro ad H locs la hH hE hO hl0 hl
  obtain ⟨hd1, ⟨y', cc', mL, rt, mc, ms, Q, hck, hrc, hMT, hmc, hms, hk⟩ | ⟨hkd, -⟩⟩ := hcp
  rotate_left
  · exact absurd hkd (by decide)
  rcases as with _ | ⟨v, as⟩
  · exact hrc.elim
  rcases v with x | x | _ | q
  · exact hrc.elim
  · exact hrc.elim
  · exact hrc.elim
  have hO1 : z_OK h ls st := ⟨hO.1, fun v hv => hO.2 v (List.mem_append_right _ hv)⟩
  have ha : ∀ x ∈ (z_q (some q) :: as), z_ok h x := fun x hx => hO.2 x (List.mem_append_left _ (List.mem_reverse.mpr hx))
  have cb := z_callB (mc := mc) (ms := ms) C hd1 hck
  obtain ⟨k9, k10, k11⟩ := hck.1.2.2.2.2
  subst k11
  have hts := C.2.2.2.2.2.1
  have hrun := va_runI (b := ad q.1 q.2) (As := as.map (z_val ad)) (rest := st.map (z_val ad)) (g := F0 m pc la ((((z_q (some q)) :: as).reverse ++ st).map (z_val ad))) (H := H) (locs := locs) (cells := ce) (slots := sl) (below := below) (meth := meth) (e := e)
    (show CallFix p m c cc nL s args z_tbl y.cls from ⟨C.1, C.2.1, C.2.2.1, C.2.2.2.1, hts⟩) (hMT ad) (n := as.length) ⟨by simpa using cb, k10, hts _ k9⟩
    ⟨z_blind, z_pre C hH ha⟩ rfl (by simp) hl.1 (by simp [z_val]) (by rw [z_w_eq]; show 2 * 0 + z_w st ≤ 8; omega) hd ⟨by rw [C.2.2.2.2.2.2.2.2.2.1]; exact hmc, by rw [C.2.2.2.2.2.2.2.2.2.2]; exact hms⟩
  exact z_after hE hO1 hl0 hl (fun _ _ _ q => q) hrun hk
end ZQ
end
section
/-! raw contracts of the JDK's methods: over the heap itself -/
section ZJ
variable {p : Program} {l : Launch} {e : Env} {R : Room} {s : State} {m : MethodId} {args : Array Value} {below : List Frame} {meth : Method} {c : Code} {G : z_G} {nL : Nat} {Qs : State → Prop} {y : MethodName} {cc : ByteArray} {d MC MS : Nat}
variable {pc : Nat} {H : Heap} {locs : List Loc} {la : Array Slot} {rest : List Value} {ce sl : Nat}
def z_QM (G : z_G) (Rr : Heap → Option Value → Heap → Prop) : Array Value → State → Outcome → State → Prop := fun _ st o t => ∃ r : Option Value, o = .returned r ∧ z_KN G t ∧ Rr st.heap r t.heap
def z_RM (l : Launch) (G : z_G) (d : Nat) (y : MethodName) (cc : ByteArray) (mL : Nat) (rt : Option FieldType) (av : List Value) (mc ms : Nat) (P : Vm → Heap → Prop) (Rr : Heap → Option Value → Heap → Prop) : Prop :=
  Met l y (Cond.code y cc mL rt :: z_tbl) (z_rm d mc ms) (fun v U => v = av.toArray ∧ z_KN G U ∧ z_OLD G U U.heap ∧ P U.vm U.heap) (z_QM G Rr) mc ms (z_A G)
theorem zj_blind {av : List Value} {P : Vm → Heap → Prop} : FrameBlind (fun v U => v = av.toArray ∧ z_KN G U ∧ z_OLD G U U.heap ∧ P U.vm U.heap) := fun a U g mk ⟨q1, q2, q3, q4⟩ => ⟨q1, q2.moved (U := U.calling g mk a) (Vm.Alike.refl U.vm), q3.moved (U := U.calling g mk a) (Vm.Alike.refl U.vm), q4⟩
theorem zj_pre {av : List Value} {P : Vm → Heap → Prop} (C : z_Cx p R s m args meth c G y cc nL d MC MS) (hold : z_OLD G s H) (hP : ∀ vm, s.vm.Alike vm → P vm H) : ∀ U : State, U.heap = H → s.WarmedH U.vm → av.toArray = av.toArray ∧ z_KN G U ∧ z_OLD G U U.heap ∧ P U.vm U.heap :=
  fun U hU hW => ⟨rfl, C.2.2.2.2.2.2.1.moved hW.alike, by rw [hU]; exact hold.moved hW.alike, by rw [hU]; exact hP _ hW.alike⟩
/-- behind a raw call -/
theorem zj_after {stk : List Value} {mc ms : Nat} {Rr : Heap → Option Value → Heap → Prop} {Qa : State → Outcome → State → Prop} (hl0 : ∀ x ∈ locs, gB G ≤ x.base) (hQa : ∀ st₀ o t, Qa st₀ o t → ∃ r : Option Value, o = .returned r ∧ z_KN G t ∧ Rr st₀.heap r t.heap)
    (hrun : va_Run p l e R s m args below meth c H locs ce sl mc ms (F0 m pc la stk) rest Qa (z_A G))
    (kk : ∀ (r : Option Value) (H' : Heap) (locs' : List Loc), Rr H r H' → (∀ x ∈ locs', gB G ≤ x.base) → W p l e R s m args below meth c H' locs' (ce + mc) (sl + ms) Qs (F0 m (pc + 3) la (r.toList ++ rest))) : W p l e R s m args below meth c H locs ce sl Qs (F0 m pc la stk) := by
  intro T hT X
  obtain ⟨v, st₀, t, T', L, g0, X', hL, e1, e2, hq, hgo⟩ := hrun T hT X
  obtain ⟨r, hv, -, hR⟩ := hQa _ _ _ hq
  cases hv
  rw [g0] at hR
  obtain ⟨t2, a1, b1⟩ := kk v T'.heap (locs ++ L) (by rw [e1]; exact hR) (fun x hx => by
    rcases List.mem_append.mp hx with hx | hx
    · exact hl0 x hx
    · exact hL x hx) T' rfl X'
  exact ⟨t2, hgo t2 a1, b1⟩
theorem zj_callS (C : z_Cx p R s m args meth c G y cc nL d MC MS) {y' : MethodName} {cc' : ByteArray} {mL' idx mc ms : Nat} {rt' : Option FieldType} {av : List Value} {P : Vm → Heap → Prop} {Rr : Heap → Option Value → Heap → Prop} (hck : z_ck y.cls idx 1 y' cc' mL' rt' av.length) (hM : z_RM l G (d - 1) y' cc' mL' rt' av mc ms P Rr) (hd1 : 1 ≤ d) (hold : z_OLD G s H) (hP : ∀ vm, s.vm.Alike vm → P vm H)
    (hl : la.size = nL) (hw : (rest.map fun v => v.category).sum ≤ 8) (hd : decode cc pc = .ok (.invokestatic idx, 3)) (hc : ce + mc ≤ MC) (hs : sl + ms ≤ MS) (hl0 : ∀ x ∈ locs, gB G ≤ x.base) {stk : List Value} (hstk : stk = av.reverse ++ rest)
    (kk : ∀ (r : Option Value) (H' : Heap) (locs' : List Loc), Rr H r H' → (∀ x ∈ locs', gB G ≤ x.base) → W p l e R s m args below meth c H' locs' (ce + mc) (sl + ms) Qs (F0 m (pc + 3) la (r.toList ++ rest))) : W p l e R s m args below meth c H locs ce sl Qs (F0 m pc la stk) := by
  have cb := z_callB (mc := mc) (ms := ms) C hd1 hck
  have hts := C.2.2.2.2.2.1
  have hrun := va_runS (As := av) (rest := rest) (g := F0 m pc la stk) (H := H) (locs := locs) (cells := ce) (slots := sl) (below := below) (meth := meth) (e := e)
    (show CallFix p m c cc nL s args z_tbl y.cls from ⟨C.1, C.2.1, C.2.2.1, C.2.2.2.1, hts⟩) hM (n := av.length) ⟨by simpa using cb, hts _ hck.1.2.2.2.2⟩
    ⟨zj_blind, zj_pre C hold hP⟩ rfl rfl hl hstk (by show 2 * 0 + _ ≤ 8; omega) hd ⟨by rw [C.2.2.2.2.2.2.2.2.2.1]; exact hc, by rw [C.2.2.2.2.2.2.2.2.2.2]; exact hs⟩
  exact zj_after hl0 (fun _ _ _ q => q) hrun kk
theorem zj_callV (C : z_Cx p R s m args meth c G y cc nL d MC MS) {y' : MethodName} {cc' : ByteArray} {mL' idx mc ms a : Nat} {rt' : Option FieldType} {av : List Value} {P : Vm → Heap → Prop} {Rr : Heap → Option Value → Heap → Prop} (hck : z_ck y.cls idx 0 y' cc' mL' rt' (av.length + 1)) (hM : z_RM l G (d - 1) y' cc' mL' rt' (.ref a :: av) mc ms P Rr) (hd1 : 1 ≤ d) (hold : z_OLD G s H) (hP : ∀ vm, s.vm.Alike vm → P vm H)
    (hrc : ∃ cell : Cell, H[a]? = some cell ∧ cell.vm.isStatics = false ∧ s.vm.findClass y'.cls = some cell.cls) (hl : la.size = nL) (hw : (rest.map fun v => v.category).sum ≤ 8) (hd : decode cc pc = .ok (.invokevirtual idx, 3)) (hc : ce + mc ≤ MC) (hs : sl + ms ≤ MS) (hl0 : ∀ x ∈ locs, gB G ≤ x.base) {stk : List Value} (hstk : stk = av.reverse ++ .ref a :: rest)
    (kk : ∀ (r : Option Value) (H' : Heap) (locs' : List Loc), Rr H r H' → (∀ x ∈ locs', gB G ≤ x.base) → W p l e R s m args below meth c H' locs' (ce + mc) (sl + ms) Qs (F0 m (pc + 3) la (r.toList ++ rest))) : W p l e R s m args below meth c H locs ce sl Qs (F0 m pc la stk) := by
  have cb := z_callB (mc := mc) (ms := ms) C hd1 hck
  have hts := C.2.2.2.2.2.1
  obtain ⟨k9, k10⟩ := hck.1.2.2.2.2
  have hrun := va_runV (C := y'.cls) (b := a) (As := av) (rest := rest) (g := F0 m pc la stk) (H := H) (locs := locs) (cells := ce) (slots := sl) (below := below) (meth := meth) (e := e)
    (show CallFix p m c cc nL s args z_tbl y.cls from ⟨C.1, C.2.1, C.2.2.1, C.2.2.2.1, hts⟩) hM (show CallW R s args y.cls y'.cls idx y' cc' mL' rt' _ _ mc ms av.length from ⟨by simpa using cb, hts _ k9, hts _ k10⟩)
    ⟨zj_blind, hrc, zj_pre C hold hP⟩ rfl rfl hl hstk (by show 2 * 0 + _ ≤ 8; omega) hd ⟨by rw [C.2.2.2.2.2.2.2.2.2.1]; exact hc, by rw [C.2.2.2.2.2.2.2.2.2.2]; exact hs⟩
  exact zj_after hl0 (fun _ _ _ q => q) hrun kk
theorem zj_callI (C : z_Cx p R s m args meth c G y cc nL d MC MS) {y' : MethodName} {cc' : ByteArray} {mL' idx mc ms a : Nat} {rt' : Option FieldType} {av : List Value} {P : Vm → Heap → Prop} {Rr : Heap → Option Value → Heap → Prop} (hck : z_ck y.cls idx 2 y' cc' mL' rt' (av.length + 1)) (hM : z_RM l G (d - 1) y' cc' mL' rt' (.ref a :: av) mc ms P Rr) (hd1 : 1 ≤ d) (hold : z_OLD G s H) (hP : ∀ vm, s.vm.Alike vm → P vm H)
    (hl : la.size = nL) (hw : (rest.map fun v => v.category).sum ≤ 8) (hd : decode cc pc = .ok (.invokespecial idx, 3)) (hc : ce + mc ≤ MC) (hs : sl + ms ≤ MS) (hl0 : ∀ x ∈ locs, gB G ≤ x.base) {stk : List Value} (hstk : stk = av.reverse ++ .ref a :: rest)
    (kk : ∀ (r : Option Value) (H' : Heap) (locs' : List Loc), Rr H r H' → (∀ x ∈ locs', gB G ≤ x.base) → W p l e R s m args below meth c H' locs' (ce + mc) (sl + ms) Qs (F0 m (pc + 3) la (r.toList ++ rest))) : W p l e R s m args below meth c H locs ce sl Qs (F0 m pc la stk) := by
  have cb := z_callB (mc := mc) (ms := ms) C hd1 hck
  have hts := C.2.2.2.2.2.1
  obtain ⟨k9, k10, k11⟩ := hck.1.2.2.2.2
  subst k11
  have hrun := va_runI (b := a) (As := av) (rest := rest) (g := F0 m pc la stk) (H := H) (locs := locs) (cells := ce) (slots := sl) (below := below) (meth := meth) (e := e)
    (show CallFix p m c cc nL s args z_tbl y.cls from ⟨C.1, C.2.1, C.2.2.1, C.2.2.2.1, hts⟩) hM (n := av.length) ⟨by simpa using cb, k10, hts _ k9⟩
    ⟨zj_blind, zj_pre C hold hP⟩ rfl rfl hl hstk (by show 2 * 0 + _ ≤ 8; omega) hd ⟨by rw [C.2.2.2.2.2.2.2.2.2.1]; exact hc, by rw [C.2.2.2.2.2.2.2.2.2.2]; exact hs⟩
  exact zj_after hl0 (fun _ _ _ q => q) hrun kk
/-- a raw method by its walk -/
theorem zj_meth {mL : Nat} {rt : Option FieldType} {av : List Value} {mc ms : Nat} {P : Vm → Heap → Prop} {Rr : Heap → Option Value → Heap → Prop} (hy : plainName y.cls = true) (hw : (lg_sl av).length ≤ mL)
    (H0 : ∀ (p : Program) (e : Env) (s : State) (m : MethodId) (below : List Frame) (meth : Method) (c : Code) (la : Array Slot), z_Cx p (z_rm d mc ms) s m av.toArray meth c G y cc mL d mc ms → meth.locks = false → meth.sig.returnType = rt → z_OLD G s s.heap → P s.vm s.heap → lv_has la mL (lv_args 0 av) →
      W p l e (z_rm d mc ms) s m av.toArray below meth c s.heap [] 0 0 (MQ below (z_QM G Rr) av.toArray s mc ms (z_A G)) (F0 m 0 la [])) : z_RM l G d y cc mL rt av mc ms P Rr := by
  refine Met.ofW (cc := cc) (maxL := mL) (ret := rt) hy rfl ?_
  intro p e s m args below meth c s₁ B hml hv
  obtain ⟨rfl, hKN, hold, hP⟩ := hv
  have hts := atoms_spec (ws := Cond.code y cc mL rt :: z_tbl) B.pre
  rw [lg_entry_eq]
  exact H0 p e s m below meth c _ ⟨B.exec, B.bytes, hml, findClass_of_methodNamed B.named, (name_of_methodNamed B.named B.method).1, fun w hw => hts w (List.mem_cons_of_mem _ hw), hKN, rfl, Nat.le_refl _, rfl, rfl⟩ B.notSynchronized B.returns hold hP (lv_entry av hw)
/-- its ends -/
theorem zj_iret (C : z_Cx p R s m args meth c G y cc nL d MC MS) {Rr : Heap → Option Value → Heap → Prop} {x : Int32} (hlk : meth.locks = false) (hr : meth.sig.returnType = some .int) (hd : decode cc pc = .ok (.ireturn, 1)) (hl0 : ∀ x ∈ locs, gB G ≤ x.base) (hc : ce ≤ MC) (hs : sl ≤ MS) (hq : Rr s.heap (some (.int x)) H) : W p l e R s m args below meth c H locs ce sl (MQ below (z_QM G Rr) args s MC MS (z_A G)) (F0 m pc la [.int x]) := by
  refine W.widen hc hs ?_
  exact W.iret C.1 C.2.1 hr (fun t ht hW => ⟨_, rfl, C.2.2.2.2.2.2.1.moved hW.alike, by rw [ht]; exact hq⟩) hl0 hd hlk
theorem zj_zret (C : z_Cx p R s m args meth c G y cc nL d MC MS) {Rr : Heap → Option Value → Heap → Prop} (hlk : meth.locks = false) (hr : meth.sig.returnType = some .boolean) (hd : decode cc pc = .ok (.ireturn, 1)) (hl0 : ∀ x ∈ locs, gB G ≤ x.base) (hc : ce ≤ MC) (hs : sl ≤ MS) (hq : Rr s.heap (some (.int 1)) H) : W p l e R s m args below meth c H locs ce sl (MQ below (z_QM G Rr) args s MC MS (z_A G)) (F0 m pc la [.int 1]) := by
  refine W.widen hc hs ?_
  exact W.zret C.1 C.2.1 hr rfl (fun t ht hW => ⟨_, rfl, C.2.2.2.2.2.2.1.moved hW.alike, by rw [ht]; exact hq⟩) hl0 hd hlk
theorem zj_vret (C : z_Cx p R s m args meth c G y cc nL d MC MS) {Rr : Heap → Option Value → Heap → Prop} (hlk : meth.locks = false) (hr : meth.sig.returnType = none) (hd : decode cc pc = .ok (.return_, 1)) (hl0 : ∀ x ∈ locs, gB G ≤ x.base) (hc : ce ≤ MC) (hs : sl ≤ MS) (hq : Rr s.heap none H) : W p l e R s m args below meth c H locs ce sl (MQ below (z_QM G Rr) args s MC MS (z_A G)) (F0 m pc la []) := by
  refine W.widen hc hs ?_
  exact W.vret C.1 C.2.1 hr (fun t ht hW => ⟨_, rfl, C.2.2.2.2.2.2.1.moved hW.alike, by rw [ht]; exact hq⟩) hl0 hd hlk
theorem zj_aret (C : z_Cx p R s m args meth c G y cc nL d MC MS) {Rr : Heap → Option Value → Heap → Prop} {rt : FieldType} {v : Value} (hlk : meth.locks = false) (hr : meth.sig.returnType = some rt) (hrt : (∃ n, rt = .object n) ∨ ∃ t, rt = .array t) (hv : v = .null ∨ ∃ a, v = .ref a) (hd : decode cc pc = .ok (.areturn, 1)) (hl0 : ∀ x ∈ locs, gB G ≤ x.base) (hc : ce ≤ MC) (hs : sl ≤ MS) (hq : Rr s.heap (some v) H) : W p l e R s m args below meth c H locs ce sl (MQ below (z_QM G Rr) args s MC MS (z_A G)) (F0 m pc la [v]) := by
  refine W.widen hc hs ?_
  exact W.aret C.1 C.2.1 hr hrt hv (fun t ht hW => ⟨_, rfl, C.2.2.2.2.2.2.1.moved hW.alike, by rw [ht]; exact hq⟩) hl0 hd hlk
/-- a list object's fields -/
theorem zj_get (C : z_Cx p R s m args meth c G y cc nL d MC MS) {a k idx : Nat} {ref : String} {V : Nat → Value} (ht : t_OB a (gC G 1) 3 (gI G 1) H V) (hk : k < 3) (hlk : Cond.fieldLink y.cls idx ref (TJx4a65c k).2.1 (TJx4a65c k).2.2.1 ∈ z_tbl) (hsame : ∀ x, s.fieldFound? (TJx4a65c k).1 (TJx4a65c k).2.1 (TJx4a65c k).2.2.1 = some x → s.fieldFound? ref (TJx4a65c k).2.1 (TJx4a65c k).2.2.1 = some x) (hd : decode cc pc = .ok (.getfield idx, 3))
    (kk : W p l e R s m args below meth c H locs ce sl Qs (F0 m (pc + 3) la (V k :: rest))) : W p l e R s m args below meth c H locs ce sl Qs (F0 m pc la (.ref a :: rest)) := by
  have hts := C.2.2.2.2.2.1
  obtain ⟨cell, q1, q2, q3, q4⟩ := ht
  obtain ⟨hS, hfc, kC, hkC, hkind⟩ := C.2.2.2.2.2.2.1.1.1 1 (RJx4a65c, TJx4a65c, 3) rfl
  obtain ⟨cf, kf, fi, f', hi', hsl⟩ := hS k hk
  refine W.getf C.1 C.2.1 C.2.2.2.1 (hts _ hlk) (hsame _ hi') (u_facts hfc hkC (u_lays hts inzJL hk) hi').1 q1 (by rw [q3]; exact fun h => by cases h) (v := V k) ?_ rfl rfl hd kk
  rw [hsl]
  exact q4 k hk
theorem zj_put (C : z_Cx p R s m args meth c G y cc nL d MC MS) {a k idx : Nat} {ref : String} {V : Nat → Value} {v : Value} (ht : t_OB a (gC G 1) 3 (gI G 1) H V) (hk : k < 3) (hlk : Cond.fieldLink y.cls idx ref (TJx4a65c k).2.1 (TJx4a65c k).2.2.1 ∈ z_tbl) (hsame : ∀ x, s.fieldFound? (TJx4a65c k).1 (TJx4a65c k).2.1 (TJx4a65c k).2.2.1 = some x → s.fieldFound? ref (TJx4a65c k).2.1 (TJx4a65c k).2.2.1 = some x) (hfit : narrow (tyJx4a65c k) v = v ∧ fits (tyJx4a65c k) v = true) (hd : decode cc pc = .ok (.putfield idx, 3))
    (ha : gB G ≤ a) (hl0 : ∀ x ∈ locs, gB G ≤ x.base)
    (kk : ∀ (H' : Heap) (locs' : List Loc), t_OB a (gC G 1) 3 (gI G 1) H' (updV V k v) → H'.size = H.size → (∀ q, q ≠ a → H'[q]? = H[q]?) → (∀ x ∈ locs', gB G ≤ x.base) → W p l e R s m args below meth c H' locs' ce sl Qs (F0 m (pc + 3) la rest)) : W p l e R s m args below meth c H locs ce sl Qs (F0 m pc la (v :: .ref a :: rest)) := by
  have hts := C.2.2.2.2.2.1
  obtain ⟨cell, q1, q2, q3, q4⟩ := ht
  have hKn := C.2.2.2.2.2.2.1.1
  have hcl : vwCl[1]? = some (RJx4a65c, TJx4a65c, 3) := rfl
  obtain ⟨hS, hfc, kC, hkC, hkind⟩ := hKn.1 1 _ hcl
  obtain ⟨cf, kf, fi, f', hi', hsl⟩ := hS k hk
  have hap := va_apart (own := y.cls) hts inzJL tyJx4a65c tyJx4a65c_ok nmJx4a65c hKn hcl
  have hst := (u_facts hfc hkC (u_lays hts inzJL hk) hi').1
  have hlay := hts _ (inzJL _ (u_in_lay hk))
  unfold u_lay at hlay
  have hnf : ¬ (TJx4a65c k).2.2.2 = true := by
    rcases (show k = 0 ∨ k = 1 ∨ k = 2 by omega) with rfl | rfl | rfl <;> decide
  rw [if_neg hnf] at hlay
  have h6 := u_store hfc hkC hkind hlay hi' (tyJx4a65c_ok k hk) hfit.1 hfit.2
  refine W.putK C.1 C.2.1 (f := f') ⟨C.2.2.2.1, hts _ hlk, ⟨_, _, _, hsame _ hi'⟩, hst⟩ (by rw [q2]; exact h6) q1 q3 (by rw [hsl]; exact k2_hasslot (q4 k hk)) rfl rfl hd fun H' e1 e2 e3 => ?_
  rw [hsl] at e1
  exact kk H' _ ⟨_, e1, q2, q3, t_set q4 hap hk _⟩ e2 e3 (z_mem_locs hl0 ha)
/-- a stretch of one array into another (or itself) -/
theorem zj_cpy (C : z_Cx p R s m args meth c G y cc nL d MC MS) {idx : Nat} (hlk : Cond.methodLink y.cls idx arraycopyName ∈ z_tbl) {a0 a : Nat} {cA : ClassId} {n0 n1 : Nat} {f g : Nat → Value} {ty : FieldType} (hA : ArrOfT s cA ty) (h0 : H[a0]? = some (arrV cA n0 f)) (h1 : H[a]? = some (arrV cA n1 g)) {sp dp n : Int32} (g1 : ¬ sp < 0) (g2 : ¬ dp < 0) (g3 : ¬ n < 0) (g4 : sp.toNatClampNeg + n.toNatClampNeg ≤ n0) (g5 : dp.toNatClampNeg + n.toNatClampNeg ≤ n1)
    (hv : ∀ (T : State) (kd : Class) (dComp : ClassId), T.heap = H → s.vm.classes[cA]? = some kd → kd.kind = .array dComp ty → ∀ vm', s.vm.Alike vm' → ∀ i, i < n.toNatClampNeg → fits ty (f (sp.toNatClampNeg + i)) = true ∧ (T.setVm vm').takes dComp (f (sp.toNatClampNeg + i)))
    (hd1 : 1 ≤ d) (hl : la.size = nL) (hw : (rest.map fun v => v.category).sum ≤ 8) (hd : decode cc pc = .ok (.invokestatic idx, 3)) (ha : gB G ≤ a) (hl0 : ∀ x ∈ locs, gB G ≤ x.base)
    (kk : ∀ (H' : Heap) (locs' : List Loc), H'[a]? = some (arrV cA n1 (va_cpy f g sp.toNatClampNeg dp.toNatClampNeg n.toNatClampNeg)) → H'.size = H.size → (∀ q, q ≠ a → H'[q]? = H[q]?) → (∀ x ∈ locs', gB G ≤ x.base) → W p l e R s m args below meth c H' locs' ce sl Qs (F0 m (pc + 3) la rest)) : W p l e R s m args below meth c H locs ce sl Qs (F0 m pc la (.int n :: .int dp :: .ref a :: .int sp :: .ref a0 :: rest)) := by
  have hts := C.2.2.2.2.2.1
  have nn : ∀ z : Int32, ¬ z < 0 → z.toInt = (z.toNatClampNeg : Int) := by
    intro z hz
    have hz0 : (0 : Int) ≤ z.toInt := by
      have := Int32.not_lt.mp hz
      simpa using Int32.le_iff_toInt_le.mp this
    show z.toInt = ((z.toInt.toNat : Nat) : Int)
    omega
  intro T hT X
  obtain ⟨-, k0, hk0, cm0, hkk0⟩ := hA n0 f
  have hfr := C.2.2.2.2.2.2.2.1
  have hlo := C.2.2.2.2.2.2.2.2.1
  have hnw : nativeFrameWords "java/lang/System" "arraycopy" 5 ≤ 21 := by decide
  obtain ⟨vm', X', step⟩ := X.arraycopy C.1 C.2.2.2.1 (hts _ hlk) (hts _ jw_cpyN) (hts _ jw_cpyS) (hts _ jw_cpyI) (src := a0) (dst := a) (cs := arrV cA n0 f) (cd := arrV cA n1 g) (srcPos := sp) (destPos := dp) (n := n) (by rw [hT]; exact h0) (by rw [hT]; exact h1)
    (fun _ h => by cases h) (fun _ h => by cases h) (fun h => by cases h) (fun h => by cases h) hk0 hk0 hkk0 hkk0 (by simp) g1 g2 g3
    (by rw [nn sp g1, nn n g3, arrV_size]; omega) (by rw [nn dp g2, nn n g3, arrV_size]; omega)
    (fun vm₁ hal i hi => by
      have e : (arrV cA n0 f).slots.getD (sp.toNatClampNeg + i) .null = f (sp.toNatClampNeg + i) := by
        rw [Array.getD_eq_getD_getElem?, arrV_read _ _ (by omega)]
        rfl
      rw [e]
      exact hv T k0 cm0 hT hk0 hkk0 vm₁ hal i hi)
    (g := F0 m pc la (.int n :: .int dp :: .ref a :: .int sp :: .ref a0 :: rest)) rfl (by rw [C.2.2.1]; exact hl) (rest := rest) rfl (by rw [C.2.1]; exact hd) (by omega) (by show 2 * 0 + _ + _ ≤ _; omega)
  have e1 : copied (arrV cA n0 f) (arrV cA n1 g) sp dp n = arrV cA n1 (va_cpy f g sp.toNatClampNeg dp.toNatClampNeg n.toNatClampNeg) := va_copied (fun z => z) cA cA f g g4
  rw [e1] at X' step
  have hlt : a < H.size := (Array.getElem?_eq_some_iff.mp h1).1
  have hheap : ((T.setVm vm').setCell a (arrV cA n1 (va_cpy f g sp.toNatClampNeg dp.toNatClampNeg n.toNatClampNeg))).heap = H.setIfInBounds a (arrV cA n1 (va_cpy f g sp.toNatClampNeg dp.toNatClampNeg n.toNatClampNeg)) := by rw [← hT]; rfl
  obtain ⟨t, a1, b1⟩ := kk _ _ (show (H.setIfInBounds a _)[a]? = some _ by simp [Array.getElem?_setIfInBounds, hlt]) (by simp) (fun q hq => by simp [Array.getElem?_setIfInBounds, Ne.symm hq]) (fun x hx => by
    rcases List.mem_append.mp hx with hx | hx
    · exact hl0 x hx
    · obtain ⟨z, -, hz⟩ := List.mem_map.mp hx
      rw [← hz]
      exact ha) _ hheap X'
  exact ⟨t, step t a1, b1⟩
end ZJ
end
section
/-! ArrayList's and Integer's reads, constructors -/
section JD
variable (l : Launch) (G : z_G) (d : Nat)
theorem jd_ci3 {i n : Int32} (h1 : ¬ i < 0) (h2 : i < n) : z_RM l G d yJ3_checkIndex_8e157 cJ3_checkIndex_8e157 3 (some .int) [.int i, .int n, .null] 0 0 (fun _ _ => True) (fun H r H' => r = some (.int i) ∧ H' = H) := by
  refine zj_meth (by decide) (Nat.le_of_ble_eq_true rfl) (fun p e s m below meth c la C hlk hr hold _ hl => ?_)
  have hl : lv_has la 3 [(0, .int i), (1, .int n), (2, .null)] := hl
  refine lv_iload_n C.1 C.2.1 dJ3_checkIndex_8e157_0 rfl (lv_at hl 0 rfl) ?_
  refine lv_if_lt (tgt := 9) C.1 C.2.1 dJ3_checkIndex_8e157_1 (by decide) (fun q => absurd q h1) (fun _ => ?_)
  refine lv_iload_n C.1 C.2.1 dJ3_checkIndex_8e157_4 rfl (lv_at hl 0 rfl) ?_
  refine lv_iload_n C.1 C.2.1 dJ3_checkIndex_8e157_5 rfl (lv_at hl 1 rfl) ?_
  refine lv_icmp_lt (tgt := 16) C.1 C.2.1 dJ3_checkIndex_8e157_6 (by decide) (fun _ => ?_) (fun q => absurd h2 q)
  refine lv_iload_n C.1 C.2.1 dJ3_checkIndex_8e157_16 rfl (lv_at hl 0 rfl) ?_
  exact zj_iret C hlk hr dJ3_checkIndex_8e157_17 (fun _ h => by cases h) (Nat.le_refl _) (Nat.le_refl _) ⟨rfl, rfl⟩
theorem jd_ci15 (hd : 1 ≤ d) {i n : Int32} (h1 : ¬ i < 0) (h2 : i < n) : z_RM l G d yJ15_checkIndex_7cf53 cJ15_checkIndex_7cf53 2 (some .int) [.int i, .int n] 0 0 (fun _ _ => True) (fun H r H' => r = some (.int i) ∧ H' = H) := by
  refine zj_meth (by decide) (Nat.le_of_ble_eq_true rfl) (fun p e s m below meth c la C hlk hr hold _ hl => ?_)
  have hl : lv_has la 2 [(0, .int i), (1, .int n)] := hl
  refine lv_iload_n C.1 C.2.1 dJ15_checkIndex_7cf53_0 rfl (lv_at hl 0 rfl) ?_
  refine lv_iload_n C.1 C.2.1 dJ15_checkIndex_7cf53_1 rfl (lv_at hl 1 rfl) ?_
  refine lv_null C.1 C.2.1 dJ15_checkIndex_7cf53_2 ?_
  refine zj_callS (av := [.int i, .int n, .null]) C lk_J15_105 (jd_ci3 l G (d - 1) h1 h2) hd hold (fun _ _ => trivial) hl.1 (rest := []) (by decide) dJ15_checkIndex_7cf53_3 (Nat.le_refl _) (Nat.le_refl _) (fun _ h => by cases h) rfl (fun r H' locs' hq hl0 => ?_)
  obtain ⟨rfl, rfl⟩ := hq
  exact zj_iret C hlk hr dJ15_checkIndex_7cf53_6 hl0 (Nat.le_refl _) (Nat.le_refl _) ⟨rfl, rfl⟩
theorem jd_size {a : Nat} {V : Nat → Value} {z : Int32} (hz : V 2 = .int z) : z_RM l G d yJx4a65c_size_8abf5 cJx4a65c_size_8abf5 1 (some .int) [.ref a] 0 0 (fun _ H => t_OB a (gC G 1) 3 (gI G 1) H V) (fun H r H' => r = some (.int z) ∧ H' = H) := by
  refine zj_meth (by decide) (Nat.le_of_ble_eq_true rfl) (fun p e s m below meth c la C hlk hr hold hP hl => ?_)
  have hl : lv_has la 1 [(0, .ref a)] := hl
  refine lv_aload_n C.1 C.2.1 dJx4a65c_size_8abf5_0 rfl (lv_at hl 0 rfl) ?_
  refine zj_get C hP (k := 2) (by decide) jf_Jx4a65c_48 (fun _ q => q) dJx4a65c_size_8abf5_1 ?_
  rw [hz]
  exact zj_iret C hlk hr dJx4a65c_size_8abf5_4 (fun _ h => by cases h) (Nat.le_refl _) (Nat.le_refl _) ⟨rfl, rfl⟩
theorem z_refArr {G : z_G} {U : State} (h : z_KN G U) : ArrOfT U (gA G 3) (.object "java/lang/Object") ∧ va_RA U (gA G 3) (.object "java/lang/Object") := h.1.2 3 _ rfl
theorem jd_ed {a ea cp : Nat} {V f : Nat → Value} {j : Int32} (hV : V 1 = .ref ea) (hj : vp_in j cp) (hf : f j.toNatClampNeg = .null ∨ ∃ q, f j.toNatClampNeg = .ref q) : z_RM l G d yJx4a65c_elementData_915e3 cJx4a65c_elementData_915e3 2 (some (.object "java/lang/Object")) [.ref a, .int j] 0 0 (fun _ H => t_OB a (gC G 1) 3 (gI G 1) H V ∧ H[ea]? = some (arrV (gA G 3) cp f)) (fun H r H' => r = some (f j.toNatClampNeg) ∧ H' = H) := by
  refine zj_meth (by decide) (Nat.le_of_ble_eq_true rfl) (fun p e s m below meth c la C hlk hr hold hP hl => ?_)
  have hl : lv_has la 2 [(0, .ref a), (1, .int j)] := hl
  refine lv_aload_n C.1 C.2.1 dJx4a65c_elementData_915e3_0 rfl (lv_at hl 0 rfl) ?_
  refine zj_get C hP.1 (k := 1) (by decide) jf_Jx4a65c_9 (fun _ q => q) dJx4a65c_elementData_915e3_1 ?_
  rw [hV]
  refine lv_iload_n C.1 C.2.1 dJx4a65c_elementData_915e3_4 rfl (lv_at hl 1 rfl) ?_
  have hlt : j.toNatClampNeg < cp := Nat.lt_of_not_le (fun q => hj (Or.inr q))
  refine W.aald C.1 C.2.1 hP.2 ((z_refArr C.2.2.2.2.2.2.1).1 cp f) rfl (fun q => by cases q) (by rw [arrV_size]; exact hj) (by rw [arrV_read _ _ hlt]) rfl rfl dJx4a65c_elementData_915e3_5 ?_
  exact zj_aret C hlk hr (Or.inl ⟨_, rfl⟩) hf dJx4a65c_elementData_915e3_6 (fun _ h => by cases h) (Nat.le_refl _) (Nat.le_refl _) ⟨rfl, rfl⟩
theorem z_lrecv {G : z_G} {U : State} {H : Heap} {a : Nat} {V : Nat → Value} (hK : z_KN G U) (h : t_OB a (gC G 1) 3 (gI G 1) H V) : ∃ cell : Cell, H[a]? = some cell ∧ cell.vm.isStatics = false ∧ U.vm.findClass RJx4a65c = some cell.cls := by
  obtain ⟨cell, q1, q2, q3, -⟩ := h
  exact ⟨cell, q1, by rw [q3]; rfl, by rw [q2]; exact (hK.1.1 1 _ rfl).2.1⟩
theorem jd_get (hd : 2 ≤ d) {a ea cp z : Nat} {V f : Nat → Value} {j : Int32} (hV : V 1 = .ref ea) (hV2 : V 2 = .int (nI z)) (hz : z < 2 ^ 31) (hj : vp_in j z) (hcp : z ≤ cp) (hf : f j.toNatClampNeg = .null ∨ ∃ q, f j.toNatClampNeg = .ref q) : z_RM l G d yJx4a65c_get_915e3 cJx4a65c_get_915e3 2 (some (.object "java/lang/Object")) [.ref a, .int j] 0 0 (fun _ H => t_OB a (gC G 1) 3 (gI G 1) H V ∧ H[ea]? = some (arrV (gA G 3) cp f)) (fun H r H' => r = some (f j.toNatClampNeg) ∧ H' = H) := by
  refine zj_meth (by decide) (Nat.le_of_ble_eq_true rfl) (fun p e s m below meth c la C hlk hr hold hP hl => ?_)
  have hl : lv_has la 2 [(0, .ref a), (1, .int j)] := hl
  have hj0 : ¬ j < 0 := fun q => hj (Or.inl q)
  have hjz : j.toNatClampNeg < z := Nat.lt_of_not_le (fun q => hj (Or.inr q))
  have hj1 : j < nI z := by
    obtain ⟨k, hk, rfl⟩ := nI_of hj0
    rw [nI_clamp hk] at hjz
    exact nI_lt hjz hz
  refine lv_iload_n C.1 C.2.1 dJx4a65c_get_915e3_0 rfl (lv_at hl 1 rfl) ?_
  refine lv_aload_n C.1 C.2.1 dJx4a65c_get_915e3_1 rfl (lv_at hl 0 rfl) ?_
  refine zj_get C hP.1 (k := 2) (by decide) jf_Jx4a65c_48 (fun _ q => q) dJx4a65c_get_915e3_2 ?_
  rw [hV2]
  refine zj_callS (av := [.int j, .int (nI z)]) C lk_Jx4a65c_118 (jd_ci15 l G (d - 1) (by omega) hj0 hj1) (by omega) hold (fun _ _ => trivial) hl.1 (rest := []) (by decide) dJx4a65c_get_915e3_5 (Nat.le_refl _) (Nat.le_refl _) (fun _ h => by cases h) rfl (fun r H' locs' hq hl0 => ?_)
  obtain ⟨rfl, rfl⟩ := hq
  refine lv_pop C.1 C.2.1 dJx4a65c_get_915e3_8 rfl ?_
  refine lv_aload_n C.1 C.2.1 dJx4a65c_get_915e3_9 rfl (lv_at hl 0 rfl) ?_
  refine lv_iload_n C.1 C.2.1 dJx4a65c_get_915e3_10 rfl (lv_at hl 1 rfl) ?_
  refine zj_callV (a := a) (av := [.int j]) C lk_Jx4a65c_123 (jd_ed l G (d - 1) (a := a) (V := V) hV (j := j) (f := f) (cp := cp) (fun q => q.elim hj0 (fun q => by omega)) hf) (by omega) hold (fun _ _ => hP) (z_lrecv C.2.2.2.2.2.2.1 hP.1) hl.1 (rest := []) (by decide) dJx4a65c_get_915e3_11 (Nat.le_refl _) (Nat.le_refl _) hl0 rfl (fun r H' locs' hq hl0 => ?_)
  obtain ⟨rfl, rfl⟩ := hq
  exact zj_aret C hlk hr (Or.inl ⟨_, rfl⟩) hf dJx4a65c_get_915e3_14 hl0 (Nat.le_refl _) (Nat.le_refl _) ⟨rfl, rfl⟩
/-! constructors -/
theorem jd_obj {p : Program} {e : Env} {R : Room} {s : State} {m : MethodId} {args : Array Value} {below : List Frame} {meth : Method} {c : Code} {nL : Nat} {Qs : State → Prop} {y : MethodName} {cc : ByteArray} {MC MS pc : Nat} {H : Heap} {locs : List Loc} {la : Array Slot} {ce sl idx a : Nat} {l : Launch} {G : z_G} {d : Nat}
    (C : z_Cx p R s m args meth c G y cc nL d MC MS) (hd1 : 1 ≤ d) (hlk : Cond.methodLink y.cls idx Lib.objectInit ∈ z_tbl) (hl : la.size = nL) (hd : decode cc pc = .ok (.invokespecial idx, 3)) (kk : W p l e R s m args below meth c H locs ce sl Qs (F0 m (pc + 3) la [])) : W p l e R s m args below meth c H locs ce sl Qs (F0 m pc la [.ref a]) := by
  have hts := C.2.2.2.2.2.1
  refine W.objInit C.1 C.2.1 C.2.2.2.1 (hts _ hlk) (hts _ z_obj_ok.1) (hts _ z_obj_ok.2) rfl (by rw [C.2.2.1]; exact hl) rfl hd (by rw [C.2.2.2.2.2.2.2.1]; exact hd1) ?_ kk
  have := C.2.2.2.2.2.2.2.2.1
  show 2 * 0 + 0 + 12 ≤ R.locals
  omega
theorem jd_acol (hd : 1 ≤ d) {a : Nat} : z_RM l G d yJxa1e45_init_da8c8 cJxa1e45_init_da8c8 1 none [.ref a] 0 0 (fun _ _ => True) (fun H r H' => r = none ∧ H' = H) := by
  refine zj_meth (by decide) (Nat.le_of_ble_eq_true rfl) (fun p e s m below meth c la C hlk hr hold _ hl => ?_)
  have hl : lv_has la 1 [(0, .ref a)] := hl
  refine lv_aload_n C.1 C.2.1 dJxa1e45_init_da8c8_0 rfl (lv_at hl 0 rfl) ?_
  refine jd_obj C hd jo_Jxa1e45 hl.1 dJxa1e45_init_da8c8_1 ?_
  exact zj_vret C hlk hr dJxa1e45_init_da8c8_4 (fun _ h => by cases h) (Nat.le_refl _) (Nat.le_refl _) ⟨rfl, rfl⟩
theorem jd_num (hd : 1 ≤ d) {a : Nat} : z_RM l G d yJxd2413_init_da8c8 cJxd2413_init_da8c8 1 none [.ref a] 0 0 (fun _ _ => True) (fun H r H' => r = none ∧ H' = H) := by
  refine zj_meth (by decide) (Nat.le_of_ble_eq_true rfl) (fun p e s m below meth c la C hlk hr hold _ hl => ?_)
  have hl : lv_has la 1 [(0, .ref a)] := hl
  refine lv_aload_n C.1 C.2.1 dJxd2413_init_da8c8_0 rfl (lv_at hl 0 rfl) ?_
  refine jd_obj C hd jo_Jxd2413 hl.1 dJxd2413_init_da8c8_1 ?_
  exact zj_vret C hlk hr dJxd2413_init_da8c8_4 (fun _ h => by cases h) (Nat.le_refl _) (Nat.le_refl _) ⟨rfl, rfl⟩
theorem jd_alist (hd : 2 ≤ d) {a : Nat} {V : Nat → Value} (ha : gB G ≤ a) : z_RM l G d yJxc12de_init_da8c8 cJxc12de_init_da8c8 1 none [.ref a] 0 0 (fun _ H => t_OB a (gC G 1) 3 (gI G 1) H V) (fun H r H' => r = none ∧ t_OB a (gC G 1) 3 (gI G 1) H' (updV V 0 (.int 0)) ∧ H'.size = H.size ∧ ∀ q, q ≠ a → H'[q]? = H[q]?) := by
  refine zj_meth (by decide) (Nat.le_of_ble_eq_true rfl) (fun p e s m below meth c la C hlk hr hold hP hl => ?_)
  have hl : lv_has la 1 [(0, .ref a)] := hl
  refine lv_aload_n C.1 C.2.1 dJxc12de_init_da8c8_0 rfl (lv_at hl 0 rfl) ?_
  refine zj_callI (a := a) (av := []) C lk_Jxc12de_1 (jd_acol l G (d - 1) (by omega)) (by omega) hold (fun _ _ => trivial) hl.1 (rest := []) (by decide) dJxc12de_init_da8c8_1 (Nat.le_refl _) (Nat.le_refl _) (fun _ h => by cases h) rfl (fun r H' locs' hq hl0 => ?_)
  obtain ⟨rfl, rfl⟩ := hq
  refine lv_aload_n C.1 C.2.1 dJxc12de_init_da8c8_4 rfl (lv_at hl 0 rfl) ?_
  refine lv_iconst (v := 0) C.1 C.2.1 dJxc12de_init_da8c8_5 (by decide) ?_
  refine zj_put C hP (k := 0) (by decide) jf_Jxc12de_7 (fun _ q => q) ⟨rfl, rfl⟩ dJxc12de_init_da8c8_6 ha hl0 (fun H' locs' h1 h2 h3 hl0 => ?_)
  exact zj_vret C hlk hr dJxc12de_init_da8c8_9 hl0 (Nat.le_refl _) (Nat.le_refl _) ⟨rfl, h1, h2, h3⟩
theorem jd_linit (hd : 3 ≤ d) {a : Nat} {V : Nat → Value} (ha : gB G ≤ a) : z_RM l G d yJx4a65c_init_da8c8 cJx4a65c_init_da8c8 1 none [.ref a] 0 0 (fun _ H => t_OB a (gC G 1) 3 (gI G 1) H V) (fun H r H' => r = none ∧ t_OB a (gC G 1) 3 (gI G 1) H' (updV (updV V 0 (.int 0)) 1 (.ref (gE G))) ∧ H'.size = H.size ∧ ∀ q, q ≠ a → H'[q]? = H[q]?) := by
  refine zj_meth (by decide) (Nat.le_of_ble_eq_true rfl) (fun p e s m below meth c la C hlk hr hold hP hl => ?_)
  have hl : lv_has la 1 [(0, .ref a)] := hl
  refine lv_aload_n C.1 C.2.1 dJx4a65c_init_da8c8_0 rfl (lv_at hl 0 rfl) ?_
  refine zj_callI (a := a) (av := []) C lk_Jx4a65c_1 (jd_alist l G (d - 1) (by omega) (V := V) ha) (by omega) hold (fun _ _ => hP) hl.1 (rest := []) (by decide) dJx4a65c_init_da8c8_1 (Nat.le_refl _) (Nat.le_refl _) (fun _ h => by cases h) rfl (fun r H1 locs1 hq hl0 => ?_)
  obtain ⟨rfl, g1, g2, g3⟩ := hq
  have hold1 : z_OLD G s H1 := hold.kept (by omega) (fun q hq => g3 q (by omega))
  refine lv_aload_n C.1 C.2.1 dJx4a65c_init_da8c8_4 rfl (lv_at hl 0 rfl) ?_
  obtain ⟨cf, kf, fi, f, as, cell, e1, e2, e3, e4, e5, e6, e7, e8⟩ := hold1.2.2.2.1
  refine W.gets C.1 C.2.1 C.2.2.2.1 (C.2.2.2.2.2.1 _ jf_Jx4a65c_39) e1 e2 e3 e4 e5 (fun q => by rw [q] at e6; cases e6) e7 rfl dJx4a65c_init_da8c8_5 ?_
  refine zj_put C g1 (k := 1) (by decide) jf_Jx4a65c_9 (fun _ q => q) ⟨rfl, rfl⟩ dJx4a65c_init_da8c8_8 ha hl0 (fun H' locs' h1 h2 h3 hl0 => ?_)
  exact zj_vret C hlk hr dJx4a65c_init_da8c8_11 hl0 (Nat.le_refl _) (Nat.le_refl _) ⟨rfl, h1, h2.trans g2, fun q hq => (h3 q hq).trans (g3 q hq)⟩
end JD
end
section
/-! ArrayList's growth -/
section JG
variable (l : Launch) (G : z_G) (d : Nat)
/-- an object that an Object[] takes -/
def z_any (vm : Vm) (H : Heap) (q : Nat) : Prop := ∃ cell : Cell, H[q]? = some cell ∧ cell.vm.isStatics = false ∧ (∃ kC : Class, vm.classes[cell.cls]? = some kC) ∧ ∀ comp : ClassId, vm.findClass "java/lang/Object" = some comp → vm.assignable cell.cls comp = true
theorem z_any.moved {vm vm' : Vm} {H : Heap} {q : Nat} (hal : vm.Alike vm') (h : z_any vm H q) : z_any vm' H q := by
  obtain ⟨cell, h1, h2, ⟨kC, h3⟩, h4⟩ := h
  obtain ⟨k', hk', -⟩ := hal.2.2 _ _ h3
  exact ⟨cell, h1, h2, ⟨k', hk'⟩, fun comp hc => by rw [hal.assignable]; exact h4 comp (by rw [← hal.findClass]; exact hc)⟩
theorem z_any.kept {vm : Vm} {H H' : Heap} {q : Nat} (h : z_any vm H q) (e : H'[q]? = H[q]?) : z_any vm H' q := by
  obtain ⟨cell, h1, h2⟩ := h
  exact ⟨cell, by rw [e]; exact h1, h2⟩
def z_mir (vm : Vm) (mi : Nat) : Prop := ∃ (c : ClassId) (k : Class), vm.findClass "[Ljava/lang/Object;" = some c ∧ vm.classes[c]? = some k ∧ k.mirror = some mi
theorem jd_newLen (hd : 1 ≤ d) {n : Nat} (h2 : 2 ≤ n) (hn : n ≤ 1000000) : z_RM l G d yJ8_newLength_cabcc cJ8_newLength_cabcc 4 (some .int) [.int (nI n), .int 1, .int (nI (n / 2))] 0 0 (fun _ _ => True) (fun H r H' => r = some (.int (nI (n + n / 2))) ∧ H' = H) := by
  refine zj_meth (by decide) (Nat.le_of_ble_eq_true rfl) (fun p e s m below meth c la C hlk hr hold _ hl => ?_)
  have hl : lv_has la 4 [(0, .int (nI n)), (1, .int 1), (2, .int (nI (n / 2)))] := hl
  refine lv_iload_n C.1 C.2.1 dJ8_newLength_cabcc_0 rfl (lv_at hl 0 rfl) ?_
  refine lv_iload_n C.1 C.2.1 dJ8_newLength_cabcc_1 rfl (lv_at hl 1 rfl) ?_
  refine lv_iload_n C.1 C.2.1 dJ8_newLength_cabcc_2 rfl (lv_at hl 2 rfl) ?_
  have hl0 : ∀ x ∈ ([] : List Loc), gB G ≤ x.base := fun _ h => by cases h
  have hts := C.2.2.2.2.2.1
  refine va_mmax (x := 1) (y := nI (n / 2)) (rest := [.int (nI n)]) C.1 C.2.1 (by rw [C.2.2.1, hl.1]) C.2.2.2.1 (hts _ jm_J8_194) (hts _ jq_J9_max_7cf53.1) (hts _ jq_ini) (hts _ jq_J9_max_7cf53.2) hd (by show 1 + 13 ≤ 40 * d; omega) (Nat.le_refl _) (Nat.le_refl _) dJ8_newLength_cabcc_3 ?_
  have e1 : nI n + (if (1 : Int32) < nI (n / 2) then nI (n / 2) else 1) = nI (n + n / 2) := by
    by_cases hq : 1 < n / 2
    · rw [if_pos (show (1 : Int32) < nI (n / 2) from nI_lt hq (by omega)), nI_add]
    · have : n / 2 = 1 := by omega
      rw [if_neg (show ¬ (1 : Int32) < nI (n / 2) from nI_nlt (a := 1) (by omega) (by decide)), this]
      exact nI_add n 1
  refine lv_iadd C.1 C.2.1 dJ8_newLength_cabcc_6 ?_
  rw [e1]
  refine lv_istore_n C.1 C.2.1 dJ8_newLength_cabcc_7 rfl hl (by decide) rfl (fun la hl => ?_)
  have hl : lv_has la 4 [(3, .int (nI (n + n / 2))), (0, .int (nI n)), (1, .int 1), (2, .int (nI (n / 2)))] := hl
  refine lv_iconst (v := 0) C.1 C.2.1 dJ8_newLength_cabcc_8 (by decide) ?_
  refine lv_iload_n C.1 C.2.1 dJ8_newLength_cabcc_9 rfl (lv_at hl 0 rfl) ?_
  refine lv_icmp_ge (tgt := 21) C.1 C.2.1 dJ8_newLength_cabcc_10 (by decide) (fun q => absurd q (show ¬ nI (n + n / 2) ≤ 0 from nI_nle (by omega) (by omega))) (fun _ => ?_)
  refine lv_iload_n C.1 C.2.1 dJ8_newLength_cabcc_13 rfl (lv_at hl 0 rfl) ?_
  refine lv_ldc C.1 C.2.1 C.2.2.2.1 (C.2.2.2.2.2.1 _ jk_newLen) dJ8_newLength_cabcc_14 ?_
  refine lv_icmp_gt (tgt := 21) C.1 C.2.1 dJ8_newLength_cabcc_16 (by decide) (fun q => absurd q (show ¬ nI 2147483639 < nI (n + n / 2) from nI_nlt (by omega) (by decide))) (fun _ => ?_)
  refine lv_iload_n C.1 C.2.1 dJ8_newLength_cabcc_19 rfl (lv_at hl 0 rfl) ?_
  exact zj_iret C hlk hr dJ8_newLength_cabcc_20 hl0 (Nat.le_refl _) (Nat.le_refl _) ⟨rfl, rfl⟩
/-- an array of objects: its elements are null or objects -/
def z_els (vm : Vm) (H : Heap) (c0 : Nat) (f : Nat → Value) : Prop := ∀ j, j < c0 → f j = .null ∨ ∃ q, f j = .ref q ∧ z_any vm H q
theorem z_els.moved {vm vm' : Vm} {H : Heap} {c0 : Nat} {f : Nat → Value} (hal : vm.Alike vm') (h : z_els vm H c0 f) : z_els vm' H c0 f := fun j hj => (h j hj).imp id (fun ⟨q, h1, h2⟩ => ⟨q, h1, h2.moved hal⟩)
theorem z_els.kept {vm : Vm} {H H' : Heap} {c0 : Nat} {f : Nat → Value} (h : z_els vm H c0 f) (e : ∀ q, q < H.size → H'[q]? = H[q]?) : z_els vm H' c0 f := fun j hj => (h j hj).imp id (fun ⟨q, h1, h2⟩ => ⟨q, h1, h2.kept (e q (by obtain ⟨cell, g, -⟩ := h2; exact (Array.getElem?_eq_some_iff.mp g).1))⟩)
def z_grown (G : z_G) (n c0 : Nat) (f : Nat → Value) (H : Heap) (H' : Heap) : Prop := H'.size = H.size + 1 ∧ H'[H.size]? = some (arrV (gA G 3) n (fun j => if j < c0 then f j else .null)) ∧ ∀ q, q < H.size → H'[q]? = H[q]?
theorem z_AO_use {G : z_G} {U : State} {A : Array Value} (h : z_KN G U) : (Cond.arrayOver (.object "java/lang/Object")).before A U = true := h.2.2.2.1.use
theorem z_objcls {G : z_G} {U : State} (h : z_KN G U) {cA : ClassId} (hc : U.vm.findClass ("[" ++ (FieldType.object "java/lang/Object").toString) = some cA) : cA = gA G 3 := by
  obtain ⟨-, -, -, -, -, h4⟩ := (z_refArr h).2
  exact Option.some.inj (hc.symm.trans h4)
theorem jd_copy3 (hd : 1 ≤ d) {ea c0 n mi : Nat} {f : Nat → Value} (hc : c0 ≤ n) (hn : n ≤ 1000000) : z_RM l G d yJ7_copyOf_6403c cJ7_copyOf_6403c 4 (some (.array (.object "java/lang/Object"))) [.ref ea, .int (nI n), .ref mi] 1 n (fun vm H => H[ea]? = some (arrV (gA G 3) c0 f) ∧ z_mir vm mi ∧ z_els vm H c0 f) (fun H r H' => r = some (.ref H.size) ∧ z_grown G n c0 f H H') := by
  refine zj_meth (by decide) (Nat.le_of_ble_eq_true rfl) (fun p e s m below meth c la C hlk hr hold hP hl => ?_)
  obtain ⟨hP1, hP2, hP3⟩ := hP
  have hl : lv_has la 4 [(0, .ref ea), (1, .int (nI n)), (2, .ref mi)] := hl
  have hKN := C.2.2.2.2.2.2.1
  obtain ⟨mi', hM⟩ := hKN.2.1
  have hmi : mi = mi' := by
    obtain ⟨c1, k1, a1, a2, a3⟩ := hP2
    obtain ⟨c2, k2, b1, b2, b3⟩ := hM
    cases a1.symm.trans b1
    cases a2.symm.trans b2
    exact Option.some.inj (a3.symm.trans b3)
  subst hmi
  refine lv_aload_n C.1 C.2.1 dJ7_copyOf_6403c_0 rfl (lv_at hl 2 rfl) ?_
  refine va_ldcM C.1 C.2.1 C.2.2.2.1 (C.2.2.2.2.2.1 _ jc_J7_110) hM dJ7_copyOf_6403c_1 ?_
  refine lv_acmp_ne (rx := some mi) (ry := some mi) (tgt := 13) C.1 C.2.1 dJ7_copyOf_6403c_3 (by decide) (fun q => absurd rfl q) (fun _ => ?_)
  refine lv_iload_n C.1 C.2.1 dJ7_copyOf_6403c_6 rfl (lv_at hl 1 rfl) ?_
  have hcl : (nI n).toNatClampNeg = n := nI_clamp (by omega)
  refine W.anew C.1 C.2.1 C.2.2.2.1 (C.2.2.2.2.2.1 _ jc_J7_2) (z_AO_use hKN) rfl dJ7_copyOf_6403c_7 rfl (nI_pos (by omega)) (by rw [hcl]; omega) (Nat.le_refl _) (by rw [hcl]; show 0 + n ≤ n; omega) fun cA kA comp g1 g2 g3 g4 => ?_
  rw [z_objcls hKN g1, hcl, arrV_new]
  have hsz : (s.heap.push (arrV (gA G 3) n (fun _ => Value.null))).size = s.heap.size + 1 := by simp
  have hnew : (s.heap.push (arrV (gA G 3) n (fun _ => Value.null)))[s.heap.size]? = some (arrV (gA G 3) n (fun _ => Value.null)) := by simp
  have hoth : ∀ q, q < s.heap.size → (s.heap.push (arrV (gA G 3) n (fun _ => Value.null)))[q]? = s.heap[q]? := fun q hq => by rw [Array.getElem?_push, if_neg (Nat.ne_of_lt hq)]
  generalize s.heap.push (arrV (gA G 3) n (fun _ => Value.null)) = H1 at hsz hnew hoth ⊢
  refine W.eq (g2 := F0 m 10 la [.ref s.heap.size]) rfl ?_
  refine lv_goto (tgt := 24) C.1 C.2.1 dJ7_copyOf_6403c_10 (by decide) ?_
  refine lv_astore_n C.1 C.2.1 dJ7_copyOf_6403c_24 rfl hl (by decide) rfl (fun la hl => ?_)
  have hl : lv_has la 4 [(3, .ref s.heap.size), (0, .ref ea), (1, .int (nI n)), (2, .ref mi)] := hl
  have hea : ea < s.heap.size := (Array.getElem?_eq_some_iff.mp hP1).1
  refine lv_aload_n C.1 C.2.1 dJ7_copyOf_6403c_25 rfl (lv_at hl 1 rfl) ?_
  refine lv_iconst (v := 0) C.1 C.2.1 dJ7_copyOf_6403c_26 (by decide) ?_
  refine lv_aload_n C.1 C.2.1 dJ7_copyOf_6403c_27 rfl (lv_at hl 0 rfl) ?_
  refine lv_iconst (v := 0) C.1 C.2.1 dJ7_copyOf_6403c_28 (by decide) ?_
  refine lv_aload_n C.1 C.2.1 dJ7_copyOf_6403c_29 rfl (lv_at hl 1 rfl) ?_
  have hA := (z_refArr hKN).1
  refine W.alen C.1 C.2.1 (n := nI c0) ((hoth ea hea).trans hP1) (hA c0 f) (by rw [arrV_size]; rfl) rfl rfl dJ7_copyOf_6403c_30 ?_
  refine lv_iload_n C.1 C.2.1 dJ7_copyOf_6403c_31 rfl (lv_at hl 2 rfl) ?_
  have hold1 : z_OLD G s H1 := hold.kept (by omega) (fun q hq => hoth q (Nat.lt_of_lt_of_le hq hold.1))
  have hl0 : ∀ x ∈ ([] : List Loc), gB G ≤ x.base := fun _ h => by cases h
  have hts := C.2.2.2.2.2.1
  refine va_mmin (x := nI c0) (y := nI n) (rest := [.int 0, .ref s.heap.size, .int 0, .ref ea]) C.1 C.2.1 (by rw [C.2.2.1, hl.1]) C.2.2.2.1 (hts _ jm_J7_304) (hts _ jq_J9_min_7cf53.1) (hts _ jq_ini) (hts _ jq_J9_min_7cf53.2) hd (by show 4 + 13 ≤ 40 * d; omega) (Nat.le_refl _) (by show 0 + n ≤ n; omega) dJ7_copyOf_6403c_32 ?_
  have emin : (if nI n < nI c0 then nI n else nI c0) = nI c0 := if_neg (nI_nlt hc (by omega))
  have ec0 : (nI c0).toNatClampNeg = c0 := nI_clamp (by omega)
  have e00 : (0 : Int32).toNatClampNeg = 0 := rfl
  rw [emin]
  refine zj_cpy C jw_cpyL hA ((hoth ea hea).trans hP1) hnew (by decide) (by decide) (nI_pos (by omega)) (by rw [ec0, e00]; omega) (by rw [ec0, e00]; omega) (fun T kd dComp hT hk hkind vm' hal i hi => ?_) hd hl.1 (rest := []) (Nat.le_of_ble_eq_true rfl) dJ7_copyOf_6403c_35 (Nat.le_trans hold.1 (Nat.le_refl _)) hl0 (fun H2 locs2 q1 q2 q3 hl0 => ?_)
  · rw [e00, Nat.zero_add]
    rw [ec0] at hi
    rcases hP3 i hi with q | ⟨q, q1, q2⟩
    · rw [q]
      exact ⟨rfl, trivial⟩
    · rw [q1]
      obtain ⟨cellV, w1, w2, ⟨kC, w3⟩, w4⟩ := q2
      obtain ⟨kA', comp', r1, r2, r3, -⟩ := (z_refArr hKN).2
      cases hk.symm.trans r1
      cases hkind.symm.trans r2
      obtain ⟨kE, hkE, -⟩ := Vm.findClass_spec r3
      obtain ⟨kC', hkC', -⟩ := hal.2.2 _ _ w3
      obtain ⟨kE', hkE', -⟩ := hal.2.2 _ _ hkE
      have hqlt : q < s.heap.size := (Array.getElem?_eq_some_iff.mp w1).1
      refine ⟨rfl, cellV, (show T.heap[q]? = some cellV by rw [hT, hoth q hqlt]; exact w1), (fun z h => by rw [h] at w2; cases w2), ⟨kC', hkC'⟩, ⟨kE', hkE'⟩, ?_⟩
      show vm'.assignable _ _ = true
      rw [hal.assignable]
      exact w4 _ r3
  · refine lv_aload_n C.1 C.2.1 dJ7_copyOf_6403c_38 rfl (lv_at hl 0 rfl) ?_
    refine zj_aret C hlk hr (Or.inr ⟨_, rfl⟩) (Or.inr ⟨_, rfl⟩) dJ7_copyOf_6403c_39 hl0 (Nat.le_refl _) (by show 0 + n ≤ n; omega) ⟨rfl, q2.trans hsz, ?_, fun q hq => (q3 q (Nat.ne_of_lt hq)).trans (hoth q hq)⟩
    rw [q1, ec0, e00]
    congr 2
    funext j
    unfold va_cpy
    by_cases hj : j < c0
    · rw [if_pos ⟨Nat.zero_le _, by omega⟩, if_pos hj, Nat.zero_add, Nat.sub_zero]
    · rw [if_neg (fun z => hj (by omega)), if_neg hj]
theorem jd_copy2 (hd : 2 ≤ d) {ea c0 n : Nat} {f : Nat → Value} (hc : c0 ≤ n) (hn : n ≤ 1000000) : z_RM l G d yJ7_copyOf_1904c cJ7_copyOf_1904c 2 (some (.array (.object "java/lang/Object"))) [.ref ea, .int (nI n)] 1 n (fun vm H => H[ea]? = some (arrV (gA G 3) c0 f) ∧ z_els vm H c0 f) (fun H r H' => r = some (.ref H.size) ∧ z_grown G n c0 f H H') := by
  refine zj_meth (by decide) (Nat.le_of_ble_eq_true rfl) (fun p e s m below meth c la C hlk hr hold hP hl => ?_)
  obtain ⟨hP1, hP3⟩ := hP
  have hl : lv_has la 2 [(0, .ref ea), (1, .int (nI n))] := hl
  have hKN := C.2.2.2.2.2.2.1
  obtain ⟨mi, hM⟩ := hKN.2.1
  have hts := C.2.2.2.2.2.1
  refine lv_aload_n C.1 C.2.1 dJ7_copyOf_1904c_0 rfl (lv_at hl 0 rfl) ?_
  refine lv_iload_n C.1 C.2.1 dJ7_copyOf_1904c_1 rfl (lv_at hl 1 rfl) ?_
  refine lv_aload_n C.1 C.2.1 dJ7_copyOf_1904c_2 rfl (lv_at hl 0 rfl) ?_
  have hlo := C.2.2.2.2.2.2.2.2.1
  have hfr := C.2.2.2.2.2.2.2.1
  have hcls : s.vm.findClass "[Ljava/lang/Object;" = some (gA G 3) := va_nmO (z_refArr hKN).2 (by decide)
  refine va_getC C.1 C.2.1 (by rw [C.2.2.1, hl.1]) C.2.2.2.1 (hts _ jw_gcL) hKN.2.2.1.use (hts _ jw_gcS) (hts _ jw_gcI) (hts _ jw_gcN) hM ⟨_, hP1, rfl, hcls⟩ (by omega) (by show 2 + 14 ≤ 40 * d; omega) dJ7_copyOf_1904c_3 ?_
  refine zj_callS (av := [.ref ea, .int (nI n), .ref mi]) C lk_J7_300 (jd_copy3 l G (d - 1) (by omega) (mi := mi) (f := f) hc hn) (by omega) hold (fun vm hal => ⟨hP1, ?_, hP3.moved hal⟩) hl.1 (rest := []) (Nat.le_of_ble_eq_true rfl) dJ7_copyOf_1904c_6 (Nat.le_refl _) (by show 0 + n ≤ n; omega) (fun _ h => by cases h) rfl (fun r H' locs' hq hl0 => ?_)
  · obtain ⟨c1, k1, a1, a2, a3⟩ := hM
    obtain ⟨k', hk', he⟩ := hal.2.2 _ _ a2
    exact ⟨c1, k', by rw [hal.findClass]; exact a1, hk', by rw [he]; exact a3⟩
  · obtain ⟨rfl, hg⟩ := hq
    exact zj_aret C hlk hr (Or.inr ⟨_, rfl⟩) (Or.inr ⟨_, rfl⟩) dJ7_copyOf_1904c_9 hl0 (Nat.le_refl _) (by show 0 + n ≤ n; omega) ⟨rfl, hg⟩
end JG
end
section
/-! ArrayList.add -/
section JA
variable (l : Launch) (G : z_G) (d : Nat)
theorem z_cap_full : ∀ z, z_cap z = z → z = 0 ∨ 10 ≤ z := by
  have key : ∀ z, z = 0 ∨ (10 ≤ z_cap z ∧ z ≤ z_cap z) := by
    intro z
    induction z with
    | zero => exact Or.inl rfl
    | succ n ih =>
      refine Or.inr ?_
      show 10 ≤ (if z_cap n = n then (if n = 0 then 10 else n + n / 2) else z_cap n) ∧ n + 1 ≤ (if z_cap n = n then (if n = 0 then 10 else n + n / 2) else z_cap n)
      rcases ih with rfl | ⟨h1, h2⟩
      · decide
      · by_cases e : z_cap n = n
        · have hn : ¬ n = 0 := by omega
          rw [if_pos e, if_neg hn]
          omega
        · rw [if_neg e]
          omega
  intro z hz
  rcases key z with h | h
  · exact Or.inl h
  · omega
theorem z_cap_le : ∀ z, z ≤ z_cap z := by
  intro z
  induction z with
  | zero => exact Nat.zero_le _
  | succ n ih =>
    show n + 1 ≤ (if z_cap n = n then (if n = 0 then 10 else n + n / 2) else z_cap n)
    by_cases e : z_cap n = n
    · rw [if_pos e]
      rcases z_cap_full n e with rfl | h
      · decide
      · rw [if_neg (by omega)]
        omega
    · rw [if_neg e]
      omega
theorem z_cap_b : ∀ z, z_cap z ≤ 2 * z + 10 := by
  intro z
  induction z with
  | zero => exact Nat.zero_le _
  | succ n ih =>
    show (if z_cap n = n then (if n = 0 then 10 else n + n / 2) else z_cap n) ≤ _
    by_cases e : z_cap n = n
    · rw [if_pos e]
      split <;> omega
    · rw [if_neg e]
      omega
theorem z_cap_s (z : Nat) : z_cap (z + 1) = if z_cap z = z then (if z = 0 then 10 else z + z / 2) else z_cap z := rfl
def z_gw (G : z_G) (a z n : Nat) (f V : Nat → Value) (H H' : Heap) : Prop := H'.size = H.size + 1 ∧ H'[H.size]? = some (arrV (gA G 3) n (fun j => if j < z then f j else .null)) ∧ t_OB a (gC G 1) 3 (gI G 1) H' (updV V 1 (.ref H.size)) ∧ ∀ q, q < H.size → q ≠ a → H'[q]? = H[q]?
theorem jd_growE (hd : 1 ≤ d) {a : Nat} {V f : Nat → Value} (hV : V 1 = .ref (gE G)) (ha : gB G ≤ a) : z_RM l G d yJx4a65c_grow_92f84 cJx4a65c_grow_92f84 4 (some (.array (.object "java/lang/Object"))) [.ref a, .int (nI 1)] 1 10 (fun _ H => t_OB a (gC G 1) 3 (gI G 1) H V) (fun H r H' => r = some (.ref H.size) ∧ z_gw G a 0 10 f V H H') := by
  refine zj_meth (by decide) (Nat.le_of_ble_eq_true rfl) (fun p e s m below meth c la C hlk hr hold hP hl => ?_)
  have hl : lv_has la 4 [(0, .ref a), (1, .int (nI 1))] := hl
  have hKN := C.2.2.2.2.2.2.1
  have hts := C.2.2.2.2.2.1
  refine lv_aload_n C.1 C.2.1 dJx4a65c_grow_92f84_0 rfl (lv_at hl 0 rfl) ?_
  refine zj_get C hP (k := 1) (by decide) jf_Jx4a65c_9 (fun _ q => q) dJx4a65c_grow_92f84_1 ?_
  rw [hV]
  obtain ⟨ct, t1, t2, t3, t4, t5, t6, t7⟩ := hold.2.2.2.2.1
  refine W.alen C.1 C.2.1 (n := 0) t1 t2 t5 rfl rfl dJx4a65c_grow_92f84_4 ?_
  refine W.eq (g2 := F0 m 5 la [.int 0]) rfl ?_
  refine lv_istore_n C.1 C.2.1 dJx4a65c_grow_92f84_5 rfl hl (by decide) rfl (fun la hl => ?_)
  have hl : lv_has la 4 [(2, .int 0), (0, .ref a), (1, .int (nI 1))] := hl
  refine lv_iload_n C.1 C.2.1 dJx4a65c_grow_92f84_6 rfl (lv_at hl 0 rfl) ?_
  refine lv_if_gt (tgt := 20) C.1 C.2.1 dJx4a65c_grow_92f84_7 (by decide) (fun q => absurd q (by decide)) (fun _ => ?_)
  refine lv_aload_n C.1 C.2.1 dJx4a65c_grow_92f84_10 rfl (lv_at hl 1 rfl) ?_
  refine zj_get C hP (k := 1) (by decide) jf_Jx4a65c_9 (fun _ q => q) dJx4a65c_grow_92f84_11 ?_
  rw [hV]
  obtain ⟨cf, kf, fi, fd, as, cell, e1, e2, e3, e4, e5, e6, e7, e8⟩ := hold.2.2.2.1
  refine W.gets C.1 C.2.1 C.2.2.2.1 (hts _ jf_Jx4a65c_39) e1 e2 e3 e4 e5 (fun q => by rw [q] at e6; cases e6) e7 rfl dJx4a65c_grow_92f84_14 ?_
  refine W.eq (g2 := F0 m 17 la [.ref (gE G), .ref (gE G)]) rfl ?_
  refine lv_acmp_eq (rx := some (gE G)) (ry := some (gE G)) (tgt := 45) C.1 C.2.1 dJx4a65c_grow_92f84_17 (by decide) (fun _ => ?_) (fun q => absurd rfl q)
  refine lv_aload_n C.1 C.2.1 dJx4a65c_grow_92f84_45 rfl (lv_at hl 1 rfl) ?_
  refine lv_bipush (v := 10) C.1 C.2.1 dJx4a65c_grow_92f84_46 (by decide) ?_
  refine lv_iload_n C.1 C.2.1 dJx4a65c_grow_92f84_48 rfl (lv_at hl 2 rfl) ?_
  refine va_mmax (x := 10) (y := nI 1) (rest := [.ref a]) C.1 C.2.1 (by rw [C.2.2.1, hl.1]) C.2.2.2.1 (hts _ jm_Jx4a65c_79) (hts _ jq_J9_max_7cf53.1) (hts _ jq_ini) (hts _ jq_J9_max_7cf53.2) hd (by show 1 + 13 ≤ 40 * d; omega) (Nat.zero_le _) (Nat.zero_le _) dJx4a65c_grow_92f84_49 ?_
  rw [show (if (10 : Int32) < nI 1 then nI 1 else 10) = nI 10 from by decide]
  have hcl : (nI 10).toNatClampNeg = 10 := nI_clamp (by decide)
  refine W.anew C.1 C.2.1 C.2.2.2.1 (hts _ jc_Jx4a65c_7) (z_AO_use hKN) rfl dJx4a65c_grow_92f84_52 rfl (nI_pos (by decide)) (by rw [hcl]; decide) (Nat.le_refl _) (by rw [hcl]; exact Nat.le_refl _) fun cA kA comp g1 g2 g3 g4 => ?_
  rw [z_objcls hKN g1, hcl, arrV_new]
  have hsz : (s.heap.push (arrV (gA G 3) 10 (fun _ => Value.null))).size = s.heap.size + 1 := by simp
  have hnew : (s.heap.push (arrV (gA G 3) 10 (fun _ => Value.null)))[s.heap.size]? = some (arrV (gA G 3) 10 (fun _ => Value.null)) := by simp
  have hoth : ∀ q, q < s.heap.size → (s.heap.push (arrV (gA G 3) 10 (fun _ => Value.null)))[q]? = s.heap[q]? := fun q hq => by rw [Array.getElem?_push, if_neg (Nat.ne_of_lt hq)]
  generalize s.heap.push (arrV (gA G 3) 10 (fun _ => Value.null)) = H1 at hsz hnew hoth ⊢
  refine W.eq (g2 := F0 m 55 la [.ref s.heap.size, .ref a]) rfl ?_
  have hal : a < s.heap.size := by obtain ⟨cell, q, -⟩ := hP; exact (Array.getElem?_eq_some_iff.mp q).1
  refine lv_dup_x1 C.1 C.2.1 dJx4a65c_grow_92f84_55 rfl rfl ?_
  refine zj_put C (hP.kept (hoth a hal)) (k := 1) (by decide) jf_Jx4a65c_9 (fun _ q => q) ⟨rfl, rfl⟩ dJx4a65c_grow_92f84_56 ha (fun _ h => by cases h) (fun H' locs' h1 h2 h3 hl0 => ?_)
  exact zj_aret C hlk hr (Or.inr ⟨_, rfl⟩) (Or.inr ⟨_, rfl⟩) dJx4a65c_grow_92f84_59 hl0 (Nat.le_refl _) (Nat.le_refl _) ⟨rfl, h2.trans hsz, (h3 _ (Nat.ne_of_gt hal)).trans hnew, h1, fun q hq hne => (h3 q hne).trans (hoth q hq)⟩
theorem jd_growF (hd : 3 ≤ d) {a ea z : Nat} {V f : Nat → Value} (h2 : 2 ≤ z) (hz : z ≤ 200000) (hV : V 1 = .ref ea) (ha : gB G ≤ a) : z_RM l G d yJx4a65c_grow_92f84 cJx4a65c_grow_92f84 4 (some (.array (.object "java/lang/Object"))) [.ref a, .int (nI (z + 1))] 1 (z + z / 2) (fun vm H => t_OB a (gC G 1) 3 (gI G 1) H V ∧ H[ea]? = some (arrV (gA G 3) z f) ∧ z_els vm H z f) (fun H r H' => r = some (.ref H.size) ∧ z_gw G a z (z + z / 2) f V H H') := by
  refine zj_meth (by decide) (Nat.le_of_ble_eq_true rfl) (fun p e s m below meth c la C hlk hr hold hP hl => ?_)
  obtain ⟨hP1, hP2, hP3⟩ := hP
  have hl : lv_has la 4 [(0, .ref a), (1, .int (nI (z + 1)))] := hl
  have hKN := C.2.2.2.2.2.2.1
  have hts := C.2.2.2.2.2.1
  have hl0 : ∀ x ∈ ([] : List Loc), gB G ≤ x.base := fun _ h => by cases h
  refine lv_aload_n C.1 C.2.1 dJx4a65c_grow_92f84_0 rfl (lv_at hl 0 rfl) ?_
  refine zj_get C hP1 (k := 1) (by decide) jf_Jx4a65c_9 (fun _ q => q) dJx4a65c_grow_92f84_1 ?_
  rw [hV]
  refine W.alen C.1 C.2.1 (n := nI z) hP2 ((z_refArr hKN).1 z f) (by rw [arrV_size]; rfl) rfl rfl dJx4a65c_grow_92f84_4 ?_
  refine W.eq (g2 := F0 m 5 la [.int (nI z)]) rfl ?_
  refine lv_istore_n C.1 C.2.1 dJx4a65c_grow_92f84_5 rfl hl (by decide) rfl (fun la hl => ?_)
  have hl : lv_has la 4 [(2, .int (nI z)), (0, .ref a), (1, .int (nI (z + 1)))] := hl
  refine lv_iload_n C.1 C.2.1 dJx4a65c_grow_92f84_6 rfl (lv_at hl 0 rfl) ?_
  refine lv_if_gt (tgt := 20) C.1 C.2.1 dJx4a65c_grow_92f84_7 (by decide) (fun _ => ?_) (fun q => absurd (show nI 0 < nI z from nI_lt (by omega) (by omega)) q)
  refine lv_iload_n C.1 C.2.1 dJx4a65c_grow_92f84_20 rfl (lv_at hl 0 rfl) ?_
  refine lv_iload_n C.1 C.2.1 dJx4a65c_grow_92f84_21 rfl (lv_at hl 2 rfl) ?_
  refine lv_iload_n C.1 C.2.1 dJx4a65c_grow_92f84_22 rfl (lv_at hl 0 rfl) ?_
  refine lv_isub C.1 C.2.1 dJx4a65c_grow_92f84_23 ?_
  refine lv_iload_n C.1 C.2.1 dJx4a65c_grow_92f84_24 rfl (lv_at hl 0 rfl) ?_
  refine lv_iconst (v := 1) C.1 C.2.1 dJx4a65c_grow_92f84_25 (by decide) ?_
  refine lv_ishr C.1 C.2.1 dJx4a65c_grow_92f84_26 ?_
  have es : nI z >>> ((1 : Int32) &&& 31) = nI (z / 2) := by
    have k := pk_shrN (n := z) (by omega) ((1 : Int32) &&& 31) 1 (by decide)
    rw [Nat.pow_one] at k
    exact k
  have ed : nI (z + 1) - nI z = 1 := by
    rw [pk_sub (by omega), Nat.add_sub_cancel_left]
    rfl
  rw [es, ed]
  refine zj_callS (av := [.int (nI z), .int 1, .int (nI (z / 2))]) C lk_Jx4a65c_73 (jd_newLen l G (d - 1) (by omega) h2 (by omega)) (by omega) hold (fun _ _ => trivial) hl.1 (rest := []) (Nat.le_of_ble_eq_true rfl) dJx4a65c_grow_92f84_27 (Nat.zero_le _) (Nat.zero_le _) hl0 rfl (fun r H' locs' hq hl0 => ?_)
  obtain ⟨rfl, rfl⟩ := hq
  refine lv_istore_n C.1 C.2.1 dJx4a65c_grow_92f84_30 rfl hl (by decide) rfl (fun la hl => ?_)
  have hl : lv_has la 4 [(3, .int (nI (z + z / 2))), (2, .int (nI z)), (0, .ref a), (1, .int (nI (z + 1)))] := hl
  refine lv_aload_n C.1 C.2.1 dJx4a65c_grow_92f84_31 rfl (lv_at hl 2 rfl) ?_
  refine lv_aload_n C.1 C.2.1 dJx4a65c_grow_92f84_32 rfl (lv_at hl 2 rfl) ?_
  refine zj_get C hP1 (k := 1) (by decide) jf_Jx4a65c_9 (fun _ q => q) dJx4a65c_grow_92f84_33 ?_
  rw [hV]
  refine lv_iload_n C.1 C.2.1 dJx4a65c_grow_92f84_36 rfl (lv_at hl 0 rfl) ?_
  refine zj_callS (av := [.ref ea, .int (nI (z + z / 2))]) C lk_Jx4a65c_66 (jd_copy2 l G (d - 1) (by omega) (c0 := z) (f := f) (by omega) (by omega)) (by omega) hold (fun vm hal => ⟨hP2, hP3.moved hal⟩) hl.1 (rest := [.ref a]) (Nat.le_of_ble_eq_true rfl) dJx4a65c_grow_92f84_37 (Nat.le_refl _) (by show 0 + 0 + (z + z / 2) ≤ z + z / 2; omega) hl0 rfl (fun r H1 locs1 hq hl0 => ?_)
  obtain ⟨rfl, hsz, hnew, hoth⟩ := hq
  have hal : a < s.heap.size := by obtain ⟨cell, q, -⟩ := hP1; exact (Array.getElem?_eq_some_iff.mp q).1
  refine lv_dup_x1 C.1 C.2.1 dJx4a65c_grow_92f84_40 rfl rfl ?_
  refine zj_put C (hP1.kept (hoth a hal)) (k := 1) (by decide) jf_Jx4a65c_9 (fun _ q => q) ⟨rfl, rfl⟩ dJx4a65c_grow_92f84_41 ha hl0 (fun H' locs' h1 h2 h3 hl0 => ?_)
  exact zj_aret C hlk hr (Or.inr ⟨_, rfl⟩) (Or.inr ⟨_, rfl⟩) dJx4a65c_grow_92f84_44 hl0 (Nat.le_refl _) (by show 0 + 0 + (z + z / 2) ≤ z + z / 2; omega) ⟨rfl, h2.trans hsz, (h3 _ (Nat.ne_of_gt hal)).trans hnew, h1, fun q hq hne => (h3 q hne).trans (hoth q hq)⟩
theorem jd_grow0 (hd : 4 ≤ d) {a ea z : Nat} {V f : Nat → Value} (hcap : z_cap z = z) (hz : z ≤ 200000) (hV : V 1 = .ref (if z = 0 then gE G else ea)) (hV2 : V 2 = .int (nI z)) (ha : gB G ≤ a) : z_RM l G d yJx4a65c_grow_d5877 cJx4a65c_grow_d5877 1 (some (.array (.object "java/lang/Object"))) [.ref a] 1 (z_cap (z + 1)) (fun vm H => t_OB a (gC G 1) 3 (gI G 1) H V ∧ (z ≠ 0 → H[ea]? = some (arrV (gA G 3) z f) ∧ z_els vm H z f)) (fun H r H' => r = some (.ref H.size) ∧ z_gw G a z (z_cap (z + 1)) f V H H') := by
  refine zj_meth (by decide) (Nat.le_of_ble_eq_true rfl) (fun p e s m below meth c la C hlk hr hold hP hl => ?_)
  obtain ⟨hP1, hP2⟩ := hP
  have hl : lv_has la 1 [(0, .ref a)] := hl
  have hKN := C.2.2.2.2.2.2.1
  have hl0 : ∀ x ∈ ([] : List Loc), gB G ≤ x.base := fun _ h => by cases h
  refine lv_aload_n C.1 C.2.1 dJx4a65c_grow_d5877_0 rfl (lv_at hl 0 rfl) ?_
  refine lv_aload_n C.1 C.2.1 dJx4a65c_grow_d5877_1 rfl (lv_at hl 0 rfl) ?_
  refine zj_get C hP1 (k := 2) (by decide) jf_Jx4a65c_48 (fun _ q => q) dJx4a65c_grow_d5877_2 ?_
  rw [hV2]
  refine lv_iconst (v := 1) C.1 C.2.1 dJx4a65c_grow_d5877_5 (by decide) ?_
  refine lv_iadd C.1 C.2.1 dJx4a65c_grow_d5877_6 ?_
  rw [nI_1]
  by_cases e0 : z = 0
  · subst e0
    rw [if_pos rfl] at hV
    refine zj_callV (a := a) (av := [.int (nI 1)]) C lk_Jx4a65c_69 (jd_growE l G (d - 1) (by omega) (f := f) hV ha) (by omega) hold (fun _ _ => hP1) (z_lrecv hKN hP1) hl.1 (rest := []) (Nat.le_of_ble_eq_true rfl) dJx4a65c_grow_d5877_7 (Nat.le_refl _) (Nat.le_refl _) hl0 rfl (fun r H' locs' hq hl0 => ?_)
    obtain ⟨rfl, hg⟩ := hq
    exact zj_aret C hlk hr (Or.inr ⟨_, rfl⟩) (Or.inr ⟨_, rfl⟩) dJx4a65c_grow_d5877_10 hl0 (Nat.le_refl _) (Nat.le_refl _) ⟨rfl, hg⟩
  · rw [if_neg e0] at hV
    have e1 : z_cap (z + 1) = z + z / 2 := by rw [z_cap_s, if_pos hcap, if_neg e0]
    have h10 := z_cap_full z hcap
    refine zj_callV (a := a) (av := [.int (nI (z + 1))]) C lk_Jx4a65c_69 (jd_growF l G (d - 1) (by omega) (f := f) (by omega) hz hV ha) (by omega) hold (fun vm hal => ⟨hP1, (hP2 e0).1, (hP2 e0).2.moved hal⟩) (z_lrecv hKN hP1) hl.1 (rest := []) (Nat.le_of_ble_eq_true rfl) dJx4a65c_grow_d5877_7 (Nat.le_refl _) (by omega) hl0 rfl (fun r H' locs' hq hl0 => ?_)
    obtain ⟨rfl, hg⟩ := hq
    exact zj_aret C hlk hr (Or.inr ⟨_, rfl⟩) (Or.inr ⟨_, rfl⟩) dJx4a65c_grow_d5877_10 hl0 (Nat.le_refl _) (by omega) ⟨rfl, by rw [e1]; exact hg⟩
end JA
end
section
/-! ArrayList.add itself; Integers -/
section JB
variable (l : Launch) (G : z_G) (d : Nat)
def z_el (el : Nat → Nat) (z : Nat) : Nat → Value := fun j => if j < z then .ref (el j) else .null
/-- behind add: where the array is, what it holds, the list's object -/
def z_ad (G : z_G) (a ea z x : Nat) (el : Nat → Nat) (V : Nat → Value) (H H' : Heap) : Prop := ∃ e' : Nat, e' = (if z_cap z = z then H.size else ea) ∧ H'.size = H.size + z_gc z ∧ H'[e']? = some (arrV (gA G 3) (z_cap (z + 1)) (z_el (z_u1 el z x) (z + 1))) ∧
  t_OB a (gC G 1) 3 (gI G 1) H' (updV (updV V 1 (.ref e')) 2 (.int (nI (z + 1)))) ∧ ∀ q, q < H.size → q ≠ a → q ≠ e' → H'[q]? = H[q]?
theorem z_el_set {cA : ClassId} {el : Nat → Nat} {z n x : Nat} : (arrV cA n (z_el el z)).setSlot z (.ref x) = arrV cA n (z_el (z_u1 el z x) (z + 1)) := by
  rw [arrV_store]
  congr 1
  funext j
  unfold updV z_el z_u1
  by_cases e : j = z
  · rw [if_pos e, if_pos (by omega), if_pos e]
  · rw [if_neg e]
    by_cases e2 : j < z
    · rw [if_pos e2, if_pos (by omega), if_neg e]
    · rw [if_neg e2, if_neg (by omega)]
theorem jd_add3 (hd : 5 ≤ d) {a ea z x : Nat} {V : Nat → Value} {el : Nat → Nat} (hz : z ≤ 200000) (hV : V 1 = .ref (if z = 0 then gE G else ea)) (hV2 : V 2 = .int (nI z)) (ha : gB G ≤ a) (hea : z ≠ 0 → gB G ≤ ea ∧ ea ≠ a) :
    z_RM l G d yJx4a65c_add_72be8 cJx4a65c_add_72be8 4 none [.ref a, .ref x, .ref (if z = 0 then gE G else ea), .int (nI z)] (z_gc z) (z_gs z)
      (fun vm H => t_OB a (gC G 1) 3 (gI G 1) H V ∧ (z ≠ 0 → H[ea]? = some (arrV (gA G 3) (z_cap z) (z_el el z))) ∧ z_els vm H z (z_el el z) ∧ z_any vm H x) (fun H r H' => r = none ∧ z_ad G a ea z x el V H H') := by
  refine zj_meth (by decide) (Nat.le_of_ble_eq_true rfl) (fun p e s m below meth c la C hlk hr hold hP hl => ?_)
  obtain ⟨hP1, hP2, hP3, hP4⟩ := hP
  have hl : lv_has la 4 [(0, .ref a), (1, .ref x), (2, .ref (if z = 0 then gE G else ea)), (3, .int (nI z))] := hl
  have hKN := C.2.2.2.2.2.2.1
  have hl0 : ∀ x ∈ ([] : List Loc), gB G ≤ x.base := fun _ h => by cases h
  have hal : a < s.heap.size := by obtain ⟨cell, q, -⟩ := hP1; exact (Array.getElem?_eq_some_iff.mp q).1
  have hzb := z_cap_b z
  -- the end, from 11, with the array at e'
  have fin : ∀ (H1 : Heap) (locs1 : List Loc) (la : Array Slot) (e' ce sl : Nat) (V1 : Nat → Value), ce ≤ z_gc z → sl ≤ z_gs z → e' = (if z_cap z = z then s.heap.size else ea) → gB G ≤ e' → e' ≠ a → H1.size = s.heap.size + z_gc z → H1[e']? = some (arrV (gA G 3) (z_cap (z + 1)) (z_el el z)) → t_OB a (gC G 1) 3 (gI G 1) H1 (updV V 1 (.ref e')) → (∀ q, q < s.heap.size → q ≠ a → q ≠ e' → H1[q]? = s.heap[q]?) → z_any s.vm H1 x → (∀ x ∈ locs1, gB G ≤ x.base) →
      lv_has la 4 [(2, .ref e'), (0, .ref a), (1, .ref x), (3, .int (nI z))] → W p l e (z_rm d (z_gc z) (z_gs z)) s m [Value.ref a, .ref x, .ref (if z = 0 then gE G else ea), .int (nI z)].toArray below meth c H1 locs1 ce sl (MQ below (z_QM G (fun H r H' => r = none ∧ z_ad G a ea z x el V H H')) [Value.ref a, .ref x, .ref (if z = 0 then gE G else ea), .int (nI z)].toArray s (z_gc z) (z_gs z) (z_A G)) (F0 m 11 la []) := by
    intro H1 locs1 la e' ce sl V1 hce hsl he' hb' hne hsz hnew hob hoth hany hl0 hl
    refine lv_aload_n C.1 C.2.1 dJx4a65c_add_72be8_11 rfl (lv_at hl 0 rfl) ?_
    refine lv_iload_n C.1 C.2.1 dJx4a65c_add_72be8_12 rfl (lv_at hl 3 rfl) ?_
    refine lv_aload_n C.1 C.2.1 dJx4a65c_add_72be8_13 rfl (lv_at hl 2 rfl) ?_
    obtain ⟨cellV, w1, w2, ⟨kC, w3⟩, w4⟩ := hany
    obtain ⟨kA, comp, k1, k2, k3, -⟩ := (z_refArr hKN).2
    obtain ⟨kE, hkE, -⟩ := Vm.findClass_spec k3
    have hc1 := z_cap_le (z + 1)
    have ecl : (nI z).toNatClampNeg = z := nI_clamp (by omega)
    refine W.aast C.1 C.2.1 hnew (fun q h => by cases h) (fun h => by cases h) k1 k2 rfl hkE ⟨nI_pos (by omega), by rw [arrV_size, ecl]; omega⟩ w1 (fun q h => by rw [h] at w2; cases w2) w3 (w4 _ k3) rfl rfl dJx4a65c_add_72be8_14 fun H2 e1 e2 e3 => ?_
    rw [ecl, z_el_set] at e1
    refine W.eq (g2 := F0 m 15 la []) rfl ?_
    refine lv_aload_n C.1 C.2.1 dJx4a65c_add_72be8_15 rfl (lv_at hl 1 rfl) ?_
    refine lv_iload_n C.1 C.2.1 dJx4a65c_add_72be8_16 rfl (lv_at hl 3 rfl) ?_
    refine lv_iconst (v := 1) C.1 C.2.1 dJx4a65c_add_72be8_17 (by decide) ?_
    refine lv_iadd C.1 C.2.1 dJx4a65c_add_72be8_18 ?_
    rw [nI_1]
    refine zj_put C (hob.kept (e3 a (Ne.symm hne))) (k := 2) (by decide) jf_Jx4a65c_48 (fun _ q => q) ⟨rfl, rfl⟩ dJx4a65c_add_72be8_19 ha (z_mem_locs hl0 hb') (fun H3 locs3 h1 h2 h3 hl0 => ?_)
    exact zj_vret C hlk hr dJx4a65c_add_72be8_22 hl0 hce hsl ⟨rfl, e', he', h2.trans (e2.trans hsz), (h3 e' hne).trans e1, h1, fun q hq q1 q2 => (h3 q q1).trans ((e3 q q2).trans (hoth q hq q1 q2))⟩
  refine lv_iload_n C.1 C.2.1 dJx4a65c_add_72be8_0 rfl (lv_at hl 3 rfl) ?_
  refine lv_aload_n C.1 C.2.1 dJx4a65c_add_72be8_1 rfl (lv_at hl 2 rfl) ?_
  -- the array's length
  have hlen : ∀ (k : W p l e (z_rm d (z_gc z) (z_gs z)) s m [Value.ref a, .ref x, .ref (if z = 0 then gE G else ea), .int (nI z)].toArray below meth c s.heap [] 0 0 (MQ below (z_QM G (fun H r H' => r = none ∧ z_ad G a ea z x el V H H')) [Value.ref a, .ref x, .ref (if z = 0 then gE G else ea), .int (nI z)].toArray s (z_gc z) (z_gs z) (z_A G)) (F0 m 3 la [.int (nI (z_cap z)), .int (nI z)])),
      W p l e (z_rm d (z_gc z) (z_gs z)) s m [Value.ref a, .ref x, .ref (if z = 0 then gE G else ea), .int (nI z)].toArray below meth c s.heap [] 0 0 (MQ below (z_QM G (fun H r H' => r = none ∧ z_ad G a ea z x el V H H')) [Value.ref a, .ref x, .ref (if z = 0 then gE G else ea), .int (nI z)].toArray s (z_gc z) (z_gs z) (z_A G)) (F0 m 2 la [.ref (if z = 0 then gE G else ea), .int (nI z)]) := by
    intro k
    by_cases e0 : z = 0
    · subst e0
      obtain ⟨ct, t1, t2, t3, t4, t5, t6, t7⟩ := hold.2.2.2.2.1
      exact W.alen C.1 C.2.1 (n := nI 0) t1 t2 t5 rfl rfl dJx4a65c_add_72be8_2 k
    · have h1 := hP2 e0
      rw [if_neg e0]
      rw [if_neg e0] at k
      exact W.alen C.1 C.2.1 (n := nI (z_cap z)) h1 ((z_refArr hKN).1 _ _) (by rw [arrV_size]; rfl) rfl rfl dJx4a65c_add_72be8_2 k
  refine hlen ?_
  refine lv_icmp_ne (tgt := 11) C.1 C.2.1 dJx4a65c_add_72be8_3 (by decide) (fun q => ?_) (fun q => ?_)
  · have hne : ¬ z_cap z = z := fun z1 => q (by rw [z1])
    have e0 : z ≠ 0 := fun z1 => hne (by rw [z1]; rfl)
    have hs1 : z_cap (z + 1) = z_cap z := by rw [z_cap_s, if_neg hne]
    rw [if_neg e0] at hl hV
    refine fin s.heap [] la ea 0 0 V (Nat.zero_le _) (Nat.zero_le _) (by rw [if_neg hne]) (hea e0).1 (hea e0).2 (by unfold z_gc; rw [if_neg hne]; rfl) (by rw [hs1]; exact hP2 e0) (hP1.to (fun k hk => ?_)) (fun _ _ _ _ => rfl) hP4 hl0 (lv_sub hl [2, 0, 1, 3] rfl)
    unfold updV
    by_cases e1 : k = 1
    · rw [if_pos e1, e1, hV]
    · rw [if_neg e1]
  · have hcap : z_cap z = z := ((nI_eq (by omega) (by omega)).mp q).symm
    have hgc : z_gc z = 1 := if_pos hcap
    have hgs : z_gs z = z_cap (z + 1) := if_pos hcap
    refine lv_aload_n C.1 C.2.1 dJx4a65c_add_72be8_6 rfl (lv_at hl 0 rfl) ?_
    refine zj_callV (a := a) (av := []) C lk_Jx4a65c_129 (jd_grow0 l G (d - 1) (by omega) (f := z_el el z) hcap hz hV hV2 ha) (by omega) hold (fun vm hal2 => ⟨hP1, fun e0 => ⟨by have := hP2 e0; rw [hcap] at this; exact this, hP3.moved hal2⟩⟩) (z_lrecv hKN hP1) hl.1 (rest := []) (Nat.le_of_ble_eq_true rfl) dJx4a65c_add_72be8_7 (by omega) (by omega) hl0 rfl (fun r H1 locs1 hq hl0 => ?_)
    obtain ⟨rfl, hsz, hnew, hob, hoth⟩ := hq
    refine lv_astore_n C.1 C.2.1 dJx4a65c_add_72be8_10 rfl hl (by decide) rfl (fun la hl => ?_)
    have hl : lv_has la 4 [(2, .ref s.heap.size), (0, .ref a), (1, .ref x), (3, .int (nI z))] := hl
    have hxl : x < s.heap.size := by obtain ⟨cell, q, -⟩ := hP4; exact (Array.getElem?_eq_some_iff.mp q).1
    refine fin H1 locs1 la s.heap.size _ _ V (by omega) (by omega) (by rw [if_pos hcap]) hold.1 (Nat.ne_of_gt hal) (by rw [hgc]; exact hsz) ?_ hob (fun q hq q1 _ => hoth q hq q1) ?_ hl0 hl
    · rw [hnew]
      congr 2
      funext j
      unfold z_el
      by_cases hj : j < z
      · simp [hj]
      · simp [hj]
    · by_cases hxa : x = a
      · subst hxa
        obtain ⟨cellV, w1, w2, w3, w4⟩ := hP4
        obtain ⟨cell, q1, q2, q3, -⟩ := hP1
        obtain ⟨cell', r1, r2, r3, -⟩ := hob
        cases w1.symm.trans q1
        exact ⟨cell', r1, by rw [r3]; rfl, by rw [r2, ← q2]; exact w3, by rw [r2, ← q2]; exact w4⟩
      · exact hP4.kept (hoth x hxl hxa)
theorem jd_add (hd : 6 ≤ d) {a ea z x : Nat} {V : Nat → Value} {el : Nat → Nat} {mo : Int32} (hz : z ≤ 200000) (hV0 : V 0 = .int mo) (hV : V 1 = .ref (if z = 0 then gE G else ea)) (hV2 : V 2 = .int (nI z)) (ha : gB G ≤ a) (hea : z ≠ 0 → gB G ≤ ea ∧ ea ≠ a) :
    z_RM l G d yJx4a65c_add_9ea2d cJx4a65c_add_9ea2d 2 (some .boolean) [.ref a, .ref x] (z_gc z) (z_gs z)
      (fun vm H => t_OB a (gC G 1) 3 (gI G 1) H V ∧ (z ≠ 0 → H[ea]? = some (arrV (gA G 3) (z_cap z) (z_el el z))) ∧ z_els vm H z (z_el el z) ∧ z_any vm H x) (fun H r H' => r = some (.int 1) ∧ z_ad G a ea z x el (updV V 0 (.int (mo + 1))) H H') := by
  refine zj_meth (by decide) (Nat.le_of_ble_eq_true rfl) (fun p e s m below meth c la C hlk hr hold hP hl => ?_)
  obtain ⟨hP1, hP2, hP3, hP4⟩ := hP
  have hl : lv_has la 2 [(0, .ref a), (1, .ref x)] := hl
  have hKN := C.2.2.2.2.2.2.1
  have hl0 : ∀ x ∈ ([] : List Loc), gB G ≤ x.base := fun _ h => by cases h
  have hsf := u_same (C.2.2.2.2.2.1 _ jw_same)
  refine lv_aload_n C.1 C.2.1 dJx4a65c_add_9ea2d_0 rfl (lv_at hl 0 rfl) ?_
  refine lv_dup C.1 C.2.1 dJx4a65c_add_9ea2d_1 rfl ?_
  refine zj_get C hP1 (k := 0) (by decide) jf_Jx4a65c_63 hsf dJx4a65c_add_9ea2d_2 ?_
  rw [hV0]
  refine lv_iconst (v := 1) C.1 C.2.1 dJx4a65c_add_9ea2d_5 (by decide) ?_
  refine lv_iadd C.1 C.2.1 dJx4a65c_add_9ea2d_6 ?_
  refine zj_put C hP1 (k := 0) (by decide) jf_Jx4a65c_63 hsf ⟨rfl, rfl⟩ dJx4a65c_add_9ea2d_7 ha hl0 (fun H1 locs1 g1 g2 g3 hl0 => ?_)
  have hold1 : z_OLD G s H1 := hold.kept (by omega) (fun q hq => g3 q (by omega))
  refine lv_aload_n C.1 C.2.1 dJx4a65c_add_9ea2d_10 rfl (lv_at hl 0 rfl) ?_
  refine lv_aload_n C.1 C.2.1 dJx4a65c_add_9ea2d_11 rfl (lv_at hl 1 rfl) ?_
  refine lv_aload_n C.1 C.2.1 dJx4a65c_add_9ea2d_12 rfl (lv_at hl 0 rfl) ?_
  refine zj_get C g1 (k := 1) (by decide) jf_Jx4a65c_9 (fun _ q => q) dJx4a65c_add_9ea2d_13 ?_
  rw [show updV V 0 (.int (mo + 1)) 1 = V 1 from if_neg (by decide), hV]
  refine lv_aload_n C.1 C.2.1 dJx4a65c_add_9ea2d_16 rfl (lv_at hl 0 rfl) ?_
  refine zj_get C g1 (k := 2) (by decide) jf_Jx4a65c_48 (fun _ q => q) dJx4a65c_add_9ea2d_17 ?_
  rw [show updV V 0 (.int (mo + 1)) 2 = V 2 from if_neg (by decide), hV2]
  have hany : ∀ q, z_any s.vm s.heap q → z_any s.vm H1 q := by
    intro q hq
    by_cases hqa : q = a
    · subst hqa
      obtain ⟨cellV, w1, w2, w3, w4⟩ := hq
      obtain ⟨cell, q1, q2, q3, -⟩ := hP1
      obtain ⟨cell', r1, r2, r3, -⟩ := g1
      cases w1.symm.trans q1
      exact ⟨cell', r1, by rw [r3]; rfl, by rw [r2, ← q2]; exact w3, by rw [r2, ← q2]; exact w4⟩
    · exact hq.kept (g3 q hqa)
  refine zj_callV (a := a) (av := [.ref x, .ref (if z = 0 then gE G else ea), .int (nI z)]) C lk_Jx4a65c_131 (jd_add3 l G (d - 1) (by omega) (ea := ea) (x := x) (el := el) (V := updV V 0 (.int (mo + 1))) hz (by rw [show updV V 0 (.int (mo + 1)) 1 = V 1 from if_neg (by decide), hV]) (by rw [show updV V 0 (.int (mo + 1)) 2 = V 2 from if_neg (by decide), hV2]) ha hea) (by omega) hold1
    (fun vm hal => ⟨g1, fun e0 => (g3 _ (hea e0).2).trans (hP2 e0), fun j hj => (hP3 j hj).imp id (fun ⟨q, h1, h2⟩ => ⟨q, h1, (hany q h2).moved hal⟩), (hany x hP4).moved hal⟩) (z_lrecv hKN g1) hl.1 (rest := []) (Nat.le_of_ble_eq_true rfl) dJx4a65c_add_9ea2d_20 (by omega) (by omega) hl0 rfl (fun r H2 locs2 hq hl0 => ?_)
  obtain ⟨rfl, e', q1, q2, q3, q4, q5⟩ := hq
  refine lv_iconst (v := 1) C.1 C.2.1 dJx4a65c_add_9ea2d_23 (by decide) ?_
  exact zj_zret C hlk hr dJx4a65c_add_9ea2d_24 hl0 (by omega) (by omega) ⟨rfl, e', by rw [q1, g2], by rw [q2, g2], q3, q4, fun q hq h1 h2 => (q5 q (by omega) h1 h2).trans (g3 q h1)⟩
end JB
end
section
/-! Integers -/
section JI
variable (l : Launch) (G : z_G) (d : Nat)
theorem z_Kint {G : z_G} {U : State} (h : z_KN G U) : u_Kn U RJ6 TJ6 1 (gC G 0) (gI G 0) := h.1.1 0 (RJ6, TJ6, 1) rfl
theorem jd_iinit (hd : 2 ≤ d) {a : Nat} {v w : Int32} (ha : gB G ≤ a) : z_RM l G d yJ6_init_d00df cJ6_init_d00df 2 none [.ref a, .int v] 0 0 (fun _ H => t_OB a (gC G 0) 1 (gI G 0) H (fun _ => .int w)) (fun H r H' => r = none ∧ t_OB a (gC G 0) 1 (gI G 0) H' (fun _ => .int v) ∧ H'.size = H.size ∧ ∀ q, q ≠ a → H'[q]? = H[q]?) := by
  refine zj_meth (by decide) (Nat.le_of_ble_eq_true rfl) (fun p e s m below meth c la C hlk hr hold hP hl => ?_)
  have hl : lv_has la 2 [(0, .ref a), (1, .int v)] := hl
  have hts := C.2.2.2.2.2.1
  refine lv_aload_n C.1 C.2.1 dJ6_init_d00df_0 rfl (lv_at hl 0 rfl) ?_
  refine zj_callI (a := a) (av := []) C lk_J6_202 (jd_num l G (d - 1) (by omega)) (by omega) hold (fun _ _ => trivial) hl.1 (rest := []) (Nat.le_of_ble_eq_true rfl) dJ6_init_d00df_1 (Nat.le_refl _) (Nat.le_refl _) (fun _ h => by cases h) rfl (fun r H1 locs1 hq hl0 => ?_)
  obtain ⟨rfl, rfl⟩ := hq
  refine lv_aload_n C.1 C.2.1 dJ6_init_d00df_4 rfl (lv_at hl 0 rfl) ?_
  refine lv_iload_n C.1 C.2.1 dJ6_init_d00df_5 rfl (lv_at hl 1 rfl) ?_
  obtain ⟨cell, q1, q2, q3, q4⟩ := hP
  obtain ⟨hS, hfc, kC, hkC, hkind⟩ := z_Kint C.2.2.2.2.2.2.1
  obtain ⟨cf, kf, fi, f', hi', hsl⟩ := hS 0 (by decide)
  have hst := (u_facts hfc hkC (u_lays hts inzJ6 (by decide)) hi').1
  have hlay : (Cond.laysFinal RJ6 (TJ6 0).1 (TJ6 0).2.1 (TJ6 0).2.2.1).before [Value.ref a, Value.int v].toArray s = true := hts _ (inzJ6 _ (u_in_lay (k := 0) (by decide)))
  have hcf : m.cls = cf := by
    obtain ⟨_, _, c', _, _, _, -, -, hf', -, -, -, hown2, -⟩ := Cond.laysFinal_spec hlay
    have e1 : c' = cf := by have := hi'.symm.trans hf'; simp at this; exact this.1.symm
    rw [← e1]; exact Option.some.inj (C.2.2.2.1.symm.trans hown2)
  have h6 := u_fits (v := .int v) hfc hkC hkind (Or.inr hlay) hi' (tyJ6_ok 0 (by decide)) rfl rfl
  refine W.putFinK C.1 C.2.1 C.2.2.2.1 (hts _ jf_J6_205) hi' hst hcf C.2.2.2.2.1 (by rw [q2]; exact h6) q1 q3 (by rw [hsl]; exact k2_hasslot (q4 0 (by decide))) rfl rfl dJ6_init_d00df_6 fun H2 e1 e2 e3 => ?_
  rw [hsl] at e1
  refine W.eq (g2 := F0 m 9 la []) rfl ?_
  refine zj_vret C hlk hr dJ6_init_d00df_9 (z_mem_locs hl0 ha) (Nat.le_refl _) (Nat.le_refl _) ⟨rfl, ?_, e2, e3⟩
  refine t_OB.to (V := updV (fun _ => Value.int w) 0 (.int v)) ⟨_, e1, q2, q3, t_set q4 (fun x y hx hy hne => by omega) (by decide) _⟩ (fun j hj => ?_)
  have : j = 0 := by omega
  subst this
  rfl
/-- a boxed int: one of the cache, or made -/
def z_bq (G : z_G) (H : Heap) (a : Nat) (v : Int32) : Prop := (∃ k : Nat, k < 256 ∧ a = gX G k ∧ v = vb_c k) ∨ t_OB a (gC G 0) 1 (gI G 0) H (fun _ => .int v)
theorem jd_valueOf (hd : 3 ≤ d) {v : Int32} : z_RM l G d yJ6_valueOf_2dffe cJ6_valueOf_2dffe 1 (some (.object "java/lang/Integer")) [.int v] 1 1 (fun _ _ => True)
    (fun H r H' => (∃ k : Nat, k < 256 ∧ r = some (.ref (gX G k)) ∧ v = vb_c k ∧ H' = H) ∨ (r = some (.ref H.size) ∧ t_OB H.size (gC G 0) 1 (gI G 0) H' (fun _ => .int v) ∧ H'.size = H.size + 1 ∧ ∀ q, q < H.size → H'[q]? = H[q]?)) := by
  refine zj_meth (by decide) (Nat.le_of_ble_eq_true rfl) (fun p e s m below meth c la C hlk hr hold _ hl => ?_)
  have hl : lv_has la 1 [(0, .int v)] := hl
  have hts := C.2.2.2.2.2.1
  have hKN := C.2.2.2.2.2.2.1
  have hl0 : ∀ x ∈ ([] : List Loc), gB G ≤ x.base := fun _ h => by cases h
  have new : W p l e (z_rm d 1 1) s m [Value.int v].toArray below meth c s.heap [] 0 0 (MQ below (z_QM G (fun H r H' => (∃ k : Nat, k < 256 ∧ r = some (.ref (gX G k)) ∧ v = vb_c k ∧ H' = H) ∨ (r = some (.ref H.size) ∧ t_OB H.size (gC G 0) 1 (gI G 0) H' (fun _ => .int v) ∧ H'.size = H.size + 1 ∧ ∀ q, q < H.size → H'[q]? = H[q]?))) [Value.int v].toArray s 1 1 (z_A G)) (F0 m 23 la []) := by
    have hKn := z_Kint hKN
    refine W.newcK C.1 C.2.1 C.2.2.2.1 (hts _ jc_J6_1) (hts _ jn_int) (hts _ cq_J6_valueOf_2dffe.2.1) rfl dJ6_valueOf_2dffe_23 (Nat.le_refl _) (Nat.le_refl _) hKn.2.1 rfl fun H1 kC hkC e1 z1 o1 => ?_
    refine W.eq (g2 := F0 m 26 la [.ref s.heap.size]) rfl ?_
    have hob : t_OB s.heap.size (gC G 0) 1 (gI G 0) H1 (fun _ => .int 0) := (u_born tyJ6 hts inzJ6 hKn hkC e1 tyJ6_ok).to (fun j hj => rfl)
    have hold1 : z_OLD G s H1 := hold.kept (by omega) (fun q hq => o1 q (Nat.lt_of_lt_of_le hq hold.1))
    refine lv_dup C.1 C.2.1 dJ6_valueOf_2dffe_26 rfl ?_
    refine lv_iload_n C.1 C.2.1 dJ6_valueOf_2dffe_27 rfl (lv_at hl 0 rfl) ?_
    refine zj_callI (a := s.heap.size) (av := [.int v]) C lk_J6_199 (jd_iinit l G (d - 1) (by omega) (v := v) (w := 0) hold.1) (by omega) hold1 (fun _ _ => hob) hl.1 (rest := [.ref s.heap.size]) (Nat.le_of_ble_eq_true rfl) dJ6_valueOf_2dffe_28 (Nat.le_refl _) (Nat.le_refl _) hl0 rfl (fun r H2 locs2 hq hl0 => ?_)
    obtain ⟨rfl, g1, g2, g3⟩ := hq
    exact zj_aret C hlk hr (Or.inl ⟨_, rfl⟩) (Or.inr ⟨_, rfl⟩) dJ6_valueOf_2dffe_31 hl0 (Nat.le_refl _) (Nat.le_refl _) (Or.inr ⟨rfl, g1, g2.trans z1, fun q hq => (g3 q (Nat.ne_of_lt hq)).trans (o1 q hq)⟩)
  refine lv_iload_n C.1 C.2.1 dJ6_valueOf_2dffe_0 rfl (lv_at hl 0 rfl) ?_
  refine lv_bipush (v := -128) C.1 C.2.1 dJ6_valueOf_2dffe_1 (by decide) ?_
  refine lv_icmp_lt (tgt := 23) C.1 C.2.1 dJ6_valueOf_2dffe_3 (by decide) (fun _ => new) (fun h1 => ?_)
  refine lv_iload_n C.1 C.2.1 dJ6_valueOf_2dffe_6 rfl (lv_at hl 0 rfl) ?_
  obtain ⟨-, -, hhigh, hC, tc, hcache, hT⟩ := hold.2.2.2
  obtain ⟨cf, kf, fi, fd, as, cell, e1, e2, e3, e4, e5, e6, e7, e8⟩ := hhigh
  refine W.gets C.1 C.2.1 C.2.2.2.1 (hts _ jf_J6_191) e1 e2 e3 e4 e5 (fun q => by rw [q] at e6; cases e6) e7 rfl dJ6_valueOf_2dffe_7 ?_
  refine W.eq (g2 := F0 m 10 la [.int 127, .int v]) rfl ?_
  refine lv_icmp_gt (tgt := 23) C.1 C.2.1 dJ6_valueOf_2dffe_10 (by decide) (fun _ => new) (fun h2 => ?_)
  obtain ⟨k, hk, hk1, hk2⟩ := bx_small h1 h2
  obtain ⟨cf', kf', fi', fd', as', cell', e1', e2', e3', e4', e5', e6', e7', e8'⟩ := hcache
  refine W.gets C.1 C.2.1 C.2.2.2.1 (hts _ jf_J6_195) e1' e2' e3' e4' e5' (fun q => by rw [q] at e6'; cases e6') e7' rfl dJ6_valueOf_2dffe_13 ?_
  refine W.eq (g2 := F0 m 16 la [.ref tc]) rfl ?_
  refine lv_iload_n C.1 C.2.1 dJ6_valueOf_2dffe_16 rfl (lv_at hl 0 rfl) ?_
  refine lv_sipush (v := 128) C.1 C.2.1 dJ6_valueOf_2dffe_17 (by decide) ?_
  refine lv_iadd C.1 C.2.1 dJ6_valueOf_2dffe_20 ?_
  rw [hk1]
  obtain ⟨ct, t1, t2, t3, t4, t5, t6, t7⟩ := hT
  have ecl : (nI k).toNatClampNeg = k := nI_clamp (by omega)
  refine W.aald C.1 C.2.1 t1 t2 rfl t3 (fun q => q.elim (nI_pos (by omega)) (fun q => by rw [ecl] at q; omega)) (v := .ref (gX G k)) (by rw [ecl]; exact t6 k hk) rfl rfl dJ6_valueOf_2dffe_21 ?_
  refine W.eq (g2 := F0 m 22 la [.ref (gX G k)]) rfl ?_
  exact zj_aret C hlk hr (Or.inl ⟨_, rfl⟩) (Or.inr ⟨_, rfl⟩) dJ6_valueOf_2dffe_22 hl0 (Nat.zero_le _) (Nat.zero_le _) (Or.inl ⟨k, hk, rfl, hk2, rfl⟩)
theorem jd_intValue {a : Nat} {v : Int32} : z_RM l G d yJ6_intValue_8abf5 cJ6_intValue_8abf5 1 (some .int) [.ref a] 0 0 (fun _ H => z_bq G H a v) (fun H r H' => r = some (.int v) ∧ H' = H) := by
  refine zj_meth (by decide) (Nat.le_of_ble_eq_true rfl) (fun p e s m below meth c la C hlk hr hold hP hl => ?_)
  have hl : lv_has la 1 [(0, .ref a)] := hl
  have hts := C.2.2.2.2.2.1
  refine lv_aload_n C.1 C.2.1 dJ6_intValue_8abf5_0 rfl (lv_at hl 0 rfl) ?_
  obtain ⟨hS, hfc, kC, hkC, hkind⟩ := z_Kint C.2.2.2.2.2.2.1
  obtain ⟨cf, kf, fi, f', hi', hsl⟩ := hS 0 (by decide)
  have hst := (u_facts hfc hkC (u_lays hts inzJ6 (by decide)) hi').1
  rcases hP with ⟨k, hk, rfl, rfl⟩ | ⟨cell, q1, q2, q3, q4⟩
  · obtain ⟨cf2, k2, i2, f2, cell, g1, g2, g3, g4, g5, g6⟩ := hold.2.2.2.2.2.2.1.2 k hk
    refine W.getf C.1 C.2.1 C.2.2.2.1 (hts _ jf_J6_205) g1 g2 g3 g4 g5 rfl rfl dJ6_intValue_8abf5_1 ?_
    exact zj_iret C hlk hr dJ6_intValue_8abf5_4 (fun _ h => by cases h) (Nat.le_refl _) (Nat.le_refl _) ⟨rfl, rfl⟩
  · refine W.getf C.1 C.2.1 C.2.2.2.1 (hts _ jf_J6_205) hi' hst q1 (by rw [q3]; exact fun h => by cases h) (v := .int v) (by rw [hsl]; exact q4 0 (by decide)) rfl rfl dJ6_intValue_8abf5_1 ?_
    exact zj_iret C hlk hr dJ6_intValue_8abf5_4 (fun _ h => by cases h) (Nat.le_refl _) (Nat.le_refl _) ⟨rfl, rfl⟩
end JI
end
section
/-! lists in the small machine -/
theorem z_lst_no {K : Nat} (h : z_lst K = true) : z_obj K = false ∧ aLen K = 0 ∧ K < 1000 ∧ K ≠ 400 ∧ 200 ≤ K ∧ K ≤ 207 := by
  have h2 : 200 ≤ K ∧ K ≤ 207 := by simpa [z_lst] using h
  rcases (show K = 200 ∨ K = 201 ∨ K = 202 ∨ K = 203 ∨ K = 204 ∨ K = 205 ∨ K = 206 ∨ K = 207 by omega) with rfl | rfl | rfl | rfl | rfl | rfl | rfl | rfl <;> decide
theorem z_lT_cst {K : Nat} : z_obj (lT K) = true ∧ kR (lT K) ∈ z_cst := by
  unfold lT
  split <;> decide
theorem z_any_of {vm : Vm} {s : State} {H : Heap} {q : Nat} {C : String} {cell : Cell} (hvm : s.vm = vm) (hc : va_Nw (.castable C "java/lang/Object") s) (h1 : H[q]? = some cell) (h2 : cell.vm.isStatics = false) (h3 : s.vm.findClass C = some cell.cls) : z_any vm H q := by
  subst hvm
  obtain ⟨c0, t0, f1, f2, f3⟩ := Cond.castable_spec (va_Nw.use (A := #[]) rfl hc)
  cases h3.symm.trans f1
  obtain ⟨kC, hkC, -⟩ := Vm.findClass_spec h3
  exact ⟨cell, h1, h2, ⟨kC, hkC⟩, fun comp hcomp => by cases hcomp.symm.trans f2; exact f3⟩
theorem z_any_obj {G : z_G} {ad : Nat → Nat → Nat} {h : z_H} {s : State} {H : Heap} (hKN : z_KN G s) (hH : z_HR G ad h s H) {K i : Nat} (hK : z_obj K = true) (hc : kR K ∈ z_cst) (hi : i < hN h K) : z_any s.vm H (ad K i) := by
  obtain ⟨cell, q1, q2, q3, -⟩ := (hH.2.2.2.2.1 K i (z_obj_no hK).2.2.2.2 hi).1 hK
  exact z_any_of rfl (hKN.2.2.2.2 _ hc) q1 (by rw [q3]; rfl) (by rw [q2]; exact (hKN.1.1 K _ (z_cl hK)).2.1)
theorem z_any_box {G : z_G} {ad : Nat → Nat → Nat} {h : z_H} {s : State} {H : Heap} (hKN : z_KN G s) (hH : z_HR G ad h s H) {a : Nat} {v : Int32} (hb : z_box G ad h H a v) : z_any s.vm H a ∧ z_bq G H a v ∧ ∃ cell : Cell, H[a]? = some cell ∧ cell.vm.isStatics = false ∧ s.vm.findClass RJ6 = some cell.cls := by
  rcases hb with ⟨k, hk, rfl, rfl⟩ | ⟨b, hb, rfl, hob⟩
  · obtain ⟨cell, g1, g2, g3, -⟩ := hH.1.2.2.2.2.2.2.1.1 k hk
    exact ⟨z_any_of rfl (hKN.2.2.2.2 RJ6 (by decide)) g1 g2 g3, Or.inl ⟨k, hk, rfl, rfl⟩, cell, g1, g2, g3⟩
  · have hob' := hob
    obtain ⟨cell, q1, q2, q3, -⟩ := hob
    have hf : s.vm.findClass RJ6 = some cell.cls := by rw [q2]; exact (z_Kint hKN).2.1
    exact ⟨z_any_of rfl (hKN.2.2.2.2 RJ6 (by decide)) q1 (by rw [q3]; rfl) hf, Or.inr hob', cell, q1, by rw [q3]; rfl, hf⟩
theorem z_els_of {G : z_G} {ad : Nat → Nat → Nat} {h : z_H} {s : State} {H : Heap} (hKN : z_KN G s) (hH : z_HR G ad h s H) {K n : Nat} {el : Nat → Nat} (g3 : ∀ j : Nat, j < hZ h K n → z_LE G ad h H K n j (el j)) : z_els s.vm H (hZ h K n) (z_el el (hZ h K n)) := by
  intro j hj
  refine Or.inr ⟨el j, if_pos hj, ?_⟩
  by_cases h7 : K = 207
  · exact (z_any_box hKN hH ((g3 j hj).1 h7)).1
  · obtain ⟨q1, q2⟩ := (g3 j hj).2 h7
    rw [q1]
    exact z_any_obj hKN hH z_lT_cst.1 z_lT_cst.2 q2
/-- a list has one element more; its array may be a new one -/
theorem z_HR.app {G : z_G} {ad : Nat → Nat → Nat} {h h' : z_H} {U : State} {H H' : Heap} (hH : z_HR G ad h U H) {K n e' : Nat} (hK : z_lst K = true) (hi : n < hN h K) (he : e' = H.size ∨ (hZ h K n ≠ 0 ∧ e' = ad (K + 1000) n)) (hsz : H.size ≤ H'.size) (he' : e' < H'.size) (ho : ∀ q, q < H.size → q ≠ ad K n → q ≠ e' → H'[q]? = H[q]?)
    (hn : hN h' = hN h) (hz : hZ h' = z_u2 (hZ h) K n (hZ h K n + 1)) (f1 : ∀ K' i' k, ¬ (K' = K ∧ i' = n) → hI h' K' i' k = hI h K' i' k) (f2 : hL h' = hL h) (f3 : hR h' = hR h)
    (hown : z_LR G (z_u2 ad (K + 1000) n e') h' H' K n) : z_HR G (z_u2 ad (K + 1000) n e') h' U H' ∧ z_EX h ad h' (z_u2 ad (K + 1000) n e') := by
  obtain ⟨o1, o2, o3, o4, o5, o6⟩ := hH
  have hno := z_lst_no hK
  have hl : z_live h K n := z_live_of hno.2.2.1 hno.2.2.2.1 hi
  have zn : ∀ K' i', ¬ (K' = K ∧ i' = n) → hZ h' K' i' = hZ h K' i' := fun K' i' q => by rw [hz]; exact if_neg q
  have adn : ∀ K' i', ¬ (K' = K + 1000 ∧ i' = n) → z_u2 ad (K + 1000) n e' K' i' = ad K' i' := fun K' i' q => if_neg q
  have ads : z_u2 ad (K + 1000) n e' (K + 1000) n = e' := if_pos ⟨rfl, rfl⟩
  have hae : ad K n ≠ e' := by
    rcases he with rfl | ⟨hz0, rfl⟩
    · exact Nat.ne_of_lt (o3 K n hl).2
    · intro q
      have := o4 _ _ _ _ hl (Or.inr (Or.inl ⟨by omega, by omega, by simpa using hi, by simpa using hz0⟩)) q
      omega
  have lv : ∀ K' i', z_live h' K' i' → (K' = K + 1000 ∧ i' = n) ∨ (z_live h K' i' ∧ ¬ (K' = K + 1000 ∧ i' = n)) := by
    intro K' i' q
    by_cases e : K' = K + 1000 ∧ i' = n
    · exact Or.inl e
    · refine Or.inr ⟨?_, e⟩
      rcases q with ⟨q1, q2, q3⟩ | ⟨q1, q2, q3, q4⟩ | ⟨q1, q2⟩
      · rw [hn] at q3
        exact Or.inl ⟨q1, q2, q3⟩
      · rw [hn] at q3
        rw [zn _ _ (fun z => e ⟨by omega, z.2⟩)] at q4
        exact Or.inr (Or.inl ⟨q1, q2, q3, q4⟩)
      · rw [hn] at q2
        exact Or.inr (Or.inr ⟨q1, q2⟩)
  have eb : gB G ≤ e' := by
    rcases he with rfl | ⟨hz0, rfl⟩
    · exact o1.1
    · exact (o3 (K + 1000) n (Or.inr (Or.inl ⟨by omega, by omega, by simpa using hi, by simpa using hz0⟩))).1
  have ene : ∀ K' i', z_live h K' i' → ¬ (K' = K + 1000 ∧ i' = n) → ad K' i' ≠ e' := by
    intro K' i' q hne z
    rcases he with rfl | ⟨hz0, rfl⟩
    · have := (o3 K' i' q).2
      omega
    · exact hne (o4 _ _ _ _ q (Or.inr (Or.inl ⟨by omega, by omega, by simpa using hi, by simpa using hz0⟩)) z)
  have kp : ∀ K' i', z_live h K' i' → ¬ (K' = K + 1000 ∧ i' = n) → ¬ (K' = K ∧ i' = n) → H'[ad K' i']? = H[ad K' i']? := fun K' i' q n1 n2 => ho _ (o3 K' i' q).2 (fun z => n2 (o4 _ _ _ _ q hl z)) (ene K' i' q n1)
  refine ⟨⟨o1.kept hsz (fun q hq => ho q (by have := o1.1; omega) (fun z => by have := (o3 K n hl).1; omega) (fun z => by omega)), by rw [adn _ _ (fun z => by omega)]; exact o2, fun K' i' q => ?_, fun K1 i1 K2 i2 q1 q2 e => ?_, fun K' i' hK' hi' => ?_, fun K' i' k q hK' hi' hq => ?_⟩, fun K' => by rw [hn]; exact Nat.le_refl _, fun K' i' hK' _ => adn _ _ (fun z => by omega)⟩
  · rcases lv K' i' q with ⟨rfl, rfl⟩ | ⟨q, q'⟩
    · rw [ads]
      exact ⟨eb, he'⟩
    · rw [adn _ _ q']
      have := o3 K' i' q
      exact ⟨this.1, by omega⟩
  · rcases lv K1 i1 q1 with ⟨e1, e2⟩ | ⟨r1, r1'⟩ <;> rcases lv K2 i2 q2 with ⟨e3, e4⟩ | ⟨r2, r2'⟩
    · exact ⟨e1.trans e3.symm, e2.trans e4.symm⟩
    · rw [e1, e2, ads, adn _ _ r2'] at e
      exact absurd e.symm (ene K2 i2 r2 r2')
    · rw [e3, e4, ads, adn _ _ r1'] at e
      exact absurd e (ene K1 i1 r1 r1')
    · rw [adn _ _ r1', adn _ _ r2'] at e
      exact o4 K1 i1 K2 i2 r1 r2 e
  · rw [hn] at hi'
    by_cases hs : K' = K ∧ i' = n
    · rw [hs.1, hs.2]
      exact ⟨fun q => (by rw [hno.1] at q; cases q), fun q => absurd hno.2.1 q, fun _ => hown⟩
    · by_cases h4' : K' = 400
      · subst h4'
        exact ⟨fun q => absurd q (by decide), fun q => absurd rfl q, fun q => absurd q (by decide)⟩
      · have hl' := z_live_of hK' h4' hi'
        refine z_cell_kept (o5 K' i' hK' hi') (adn _ _ (fun z => by omega)) (kp K' i' hl' (fun z => by omega) hs) (fun hls hzz => ?_) (fun b hb => ?_) (fun K2 i2 q _ => adn _ _ (fun z => by omega)) (fun K' => by rw [hn]; exact Nat.le_refl _) (zn _ _ hs) (fun k => f1 _ _ _ hs) (fun k => by rw [f2]) (fun k => by rw [f3]) (fun k q hq => o6 _ _ _ _ hK' hi' hq)
        · have hls' := (z_lst_no hls).2.2.2.2
          have hq : ¬ (K' + 1000 = K + 1000 ∧ i' = n) := fun z => hs ⟨by omega, z.2⟩
          exact ⟨adn _ _ hq, kp _ _ (Or.inr (Or.inl ⟨by omega, by omega, by simpa using hi', by simpa using hzz⟩)) hq (fun z => by omega)⟩
        · exact ⟨adn _ _ (fun z => by omega), kp _ _ (Or.inr (Or.inr ⟨rfl, hb⟩)) (fun z => by omega) (fun z => by omega)⟩
  · rw [hn] at hi' ⊢
    rw [f3] at hq
    exact o6 _ _ _ _ hK' hi' hq
/-- a boxed int is made at the heap's end -/
theorem z_HR.box {G : z_G} {ad : Nat → Nat → Nat} {h : z_H} {U : State} {H H' : Heap} (hH : z_HR G ad h U H) (hsz : H'.size = H.size + 1) (ho : ∀ q : Nat, q < H.size → H'[q]? = H[q]?) : z_HR G (z_u2 ad 1300 (hN h 1300) H.size) (sN h 1300 (hN h 1300 + 1)) U H' ∧ z_EX h ad (sN h 1300 (hN h 1300 + 1)) (z_u2 ad 1300 (hN h 1300) H.size) := by
  obtain ⟨o1, o2, o3, o4, o5, o6⟩ := hH
  have hnn : ∀ K', hN (sN h 1300 (hN h 1300 + 1)) K' = if K' = 1300 then hN h 1300 + 1 else hN h K' := fun K' => rfl
  have hn : ∀ K', hN h K' ≤ hN (sN h 1300 (hN h 1300 + 1)) K' := fun K' => by
    rw [hnn]
    split
    · subst_vars; omega
    · exact Nat.le_refl _
  have adn : ∀ K' i', ¬ (K' = 1300 ∧ i' = hN h 1300) → z_u2 ad 1300 (hN h 1300) H.size K' i' = ad K' i' := fun K' i' q => if_neg q
  have ads : z_u2 ad 1300 (hN h 1300) H.size 1300 (hN h 1300) = H.size := if_pos ⟨rfl, rfl⟩
  have lv : ∀ K' i', z_live (sN h 1300 (hN h 1300 + 1)) K' i' → (K' = 1300 ∧ i' = hN h 1300) ∨ (z_live h K' i' ∧ ¬ (K' = 1300 ∧ i' = hN h 1300)) := by
    intro K' i' q
    rcases q with ⟨q1, q2, q3⟩ | ⟨q1, q2, q3, q4⟩ | ⟨q1, q2⟩
    · rw [hnn, if_neg (by omega)] at q3
      exact Or.inr ⟨Or.inl ⟨q1, q2, q3⟩, fun z => by omega⟩
    · rw [hnn, if_neg (by omega)] at q3
      exact Or.inr ⟨Or.inr (Or.inl ⟨q1, q2, q3, q4⟩), fun z => by omega⟩
    · subst q1
      rw [hnn, if_pos rfl] at q2
      by_cases e : i' = hN h 1300
      · exact Or.inl ⟨rfl, e⟩
      · exact Or.inr ⟨Or.inr (Or.inr ⟨rfl, by omega⟩), fun z => e z.2⟩
  refine ⟨⟨o1.kept (by omega) (fun q hq => ho q (Nat.lt_of_lt_of_le hq o1.1)), by rw [adn _ _ (fun z => by omega)]; exact o2, fun K' i' q => ?_, fun K1 i1 K2 i2 q1 q2 e => ?_, fun K' i' hK' hi' => ?_, fun K' i' k q hK' hi' hq => ?_⟩, hn, fun K' i' hK' _ => adn _ _ (fun z => by omega)⟩
  · rcases lv K' i' q with ⟨rfl, rfl⟩ | ⟨q, q'⟩
    · rw [ads]
      exact ⟨o1.1, by omega⟩
    · rw [adn _ _ q']
      have := o3 K' i' q
      exact ⟨this.1, by omega⟩
  · rcases lv K1 i1 q1 with ⟨e1, e2⟩ | ⟨r1, r1'⟩ <;> rcases lv K2 i2 q2 with ⟨e3, e4⟩ | ⟨r2, r2'⟩
    · exact ⟨e1.trans e3.symm, e2.trans e4.symm⟩
    · rw [e1, e2, ads, adn _ _ r2'] at e
      have := (o3 K2 i2 r2).2
      omega
    · rw [e3, e4, ads, adn _ _ r1'] at e
      have := (o3 K1 i1 r1).2
      omega
    · rw [adn _ _ r1', adn _ _ r2'] at e
      exact o4 K1 i1 K2 i2 r1 r2 e
  · rw [hnn, if_neg (by omega)] at hi'
    by_cases h4' : K' = 400
    · subst h4'
      exact ⟨fun q => absurd q (by decide), fun q => absurd rfl q, fun q => absurd q (by decide)⟩
    · have hl' := z_live_of hK' h4' hi'
      refine z_cell_kept (o5 K' i' hK' hi') (adn _ _ (fun z => by omega)) (ho _ (o3 K' i' hl').2) (fun hls hzz => ?_) (fun b hb => ?_) (fun K2 i2 q _ => adn _ _ (fun z => by omega)) hn rfl (fun k => rfl) (fun k => rfl) (fun k => rfl) (fun k q hq => o6 _ _ _ _ hK' hi' hq)
      · have hls' := (z_lst_no hls).2.2.2.2
        exact ⟨adn _ _ (fun z => by omega), ho _ (o3 (K' + 1000) i' (Or.inr (Or.inl ⟨by omega, by omega, by simpa using hi', by simpa using hzz⟩))).2⟩
      · exact ⟨adn _ _ (fun z => by omega), ho _ (o3 1300 b (Or.inr (Or.inr ⟨rfl, hb⟩))).2⟩
  · rw [hnn, if_neg (by omega)] at hi'
    have := o6 _ _ _ _ hK' hi' hq
    exact ⟨Nat.lt_of_lt_of_le this.1 (hn _), this.2⟩
end
section
/-! the list prims of the small machine -/
theorem z_LE_kept {G : z_G} {ad ad' : Nat → Nat → Nat} {h h' : z_H} {H H' : Heap} {K i j a : Nat} (hl : z_LE G ad h H K i j a) (eI : hI h' K i j = hI h K i j) (hn : hN h' = hN h) (e1 : ∀ b, b < hN h 1300 → ad' 1300 b = ad 1300 b ∧ H'[ad 1300 b]? = H[ad 1300 b]?) (e2 : ∀ K' i', K' < 1000 → ad' K' i' = ad K' i') : z_LE G ad' h' H' K i j a := by
  refine ⟨fun q => ?_, fun q => ?_⟩
  · rw [eI]
    rcases hl.1 q with g | ⟨b, b1, b2, cell, c1, c2, c3, c4⟩
    · exact Or.inl g
    · exact Or.inr ⟨b, by rw [hn]; exact b1, by rw [(e1 b b1).1]; exact b2, cell, by rw [b2, (e1 b b1).2, ← b2]; exact c1, c2, c3, c4⟩
  · obtain ⟨g1, g2⟩ := hl.2 q
    exact ⟨by rw [e2 _ _ (z_obj_no z_lT_cst.1).2.2.2.2]; exact g1, by rw [hn]; exact g2⟩
theorem z_HR.apw {G : z_G} {ad : Nat → Nat → Nat} {h h' : z_H} {U : State} {H H' : Heap} {K n x : Nat} {el : Nat → Nat} {m : Int32} (hH : z_HR G ad h U H) (hK : z_lst K = true) (hi : n < hN h K)
    (hn : hN h' = hN h) (hz : hZ h' = z_u2 (hZ h) K n (hZ h K n + 1)) (f1 : ∀ K' i' k, ¬ (K' = K ∧ i' = n) → hI h' K' i' k = hI h K' i' k) (f1' : ∀ k, k ≠ hZ h K n → hI h' K n k = hI h K n k) (f2 : hL h' = hL h) (f3 : hR h' = hR h)
    (g3 : ∀ j : Nat, j < hZ h K n → z_LE G ad h H K n j (el j)) (hx : z_LE G ad h' H K n (hZ h K n) x)
    (had : z_ad G (ad K n) (ad (K + 1000) n) (hZ h K n) x el (updV (z_LV G ad h K n m) 0 (.int (m + 1))) H H') : ∃ ad' : Nat → Nat → Nat, z_HR G ad' h' U H' ∧ z_EX h ad h' ad' := by
  obtain ⟨e', a1, a2, a3, a4, a5⟩ := had
  have hno := z_lst_no hK
  have he : e' = H.size ∨ (hZ h K n ≠ 0 ∧ e' = ad (K + 1000) n) := by
    by_cases q : z_cap (hZ h K n) = hZ h K n
    · rw [if_pos q] at a1
      exact Or.inl a1
    · rw [if_neg q] at a1
      exact Or.inr ⟨fun z => q (by rw [z]; rfl), a1⟩
  have hl : z_live h K n := z_live_of hno.2.2.1 hno.2.2.2.1 hi
  have hlt := hH.2.2.1 K n hl
  have zz : hZ h' K n = hZ h K n + 1 := by rw [hz]; exact if_pos ⟨rfl, rfl⟩
  have adn : ∀ K' i', ¬ (K' = K + 1000 ∧ i' = n) → z_u2 ad (K + 1000) n e' K' i' = ad K' i' := fun K' i' q => if_neg q
  have ads : z_u2 ad (K + 1000) n e' (K + 1000) n = e' := if_pos ⟨rfl, rfl⟩
  have kb : ∀ b, b < hN h 1300 → z_u2 ad (K + 1000) n e' 1300 b = ad 1300 b ∧ H'[ad 1300 b]? = H[ad 1300 b]? := by
    intro b hb
    have hlb : z_live h 1300 b := Or.inr (Or.inr ⟨rfl, hb⟩)
    refine ⟨adn _ _ (fun z => by omega), a5 _ (hH.2.2.1 _ _ hlb).2 (fun z => ?_) (fun z => ?_)⟩
    · have := hH.2.2.2.1 _ _ _ _ hlb hl z
      omega
    · rcases he with rfl | ⟨hz0, rfl⟩
      · have := (hH.2.2.1 _ _ hlb).2
        omega
      · have := hH.2.2.2.1 _ _ _ _ hlb (Or.inr (Or.inl ⟨by omega, by omega, by simpa using hi, by simpa using hz0⟩)) z
        omega
  refine ⟨_, hH.app (e' := e') (h' := h') hK hi he (by omega) ((Array.getElem?_eq_some_iff.mp a3).1) a5 hn hz f1 f2 f3 ⟨m + 1, z_u1 el (hZ h K n) x, ?_, fun _ => ?_, fun j hj => ?_⟩⟩
  · rw [adn _ _ (fun z => by omega)]
    refine a4.to (fun j hj => ?_)
    rcases (show j = 0 ∨ j = 1 ∨ j = 2 by omega) with rfl | rfl | rfl
    · rfl
    · show Value.ref e' = Value.ref _
      rw [zz, if_neg (by omega), ads]
    · show Value.int _ = Value.int _
      rw [zz]
  · rw [ads, zz]
    exact a3
  · rw [zz] at hj
    by_cases q : j = hZ h K n
    · subst q
      rw [show z_u1 el (hZ h K n) x (hZ h K n) = x from if_pos rfl]
      exact z_LE_kept (h := h') hx rfl rfl (fun b hb => kb b (by rw [hn] at hb; exact hb)) (fun K' i' q => adn _ _ (fun z => by omega))
    · rw [show z_u1 el (hZ h K n) x j = el j from if_neg q]
      exact z_LE_kept (g3 j (by omega)) (f1' j q) hn kb (fun K' i' q => adn _ _ (fun z => by omega))
section ZL
variable {p : Program} {l : Launch} {e : Env} {R : Room} {s : State} {m : MethodId} {args : Array Value} {below : List Frame} {meth : Method} {c : Code} {G : z_G} {ad0 : Nat → Nat → Nat} {h0 : z_H} {nL : Nat} {Qs : State → Prop} {y : MethodName} {cc : ByteArray} {d MC MS : Nat}
variable {pc : Nat} {ls : z_L} {st : z_S} {h : z_H} {ce sl : Nat}
theorem zs_lsize (C : z_Cx p R s m args meth c G y cc nL d MC MS) {i K n : Nat} (hd : decode cc pc = .ok (.invokevirtual i, 3)) (hK : z_lst K = true) (h1 : Cond.methodLink y.cls i yJx4a65c_size_8abf5 ∈ z_tbl) (hd1 : 1 ≤ d) (hw : z_w st ≤ 8) (hc : ce ≤ MC) (hs : sl ≤ MS)
    (k : z_At p l e R s m args below meth c G ad0 h0 nL Qs (pc + 3) ls (z_i (nI (hZ h K n)) :: st) h ce sl) : z_At p l e R s m args below meth c G ad0 h0 nL Qs pc ls (z_r K n :: st) h ce sl := by
  intro ad H locs la hH hE hO hl0 hl
  have hi := hO.top
  obtain ⟨m', el, g1, g2, g3⟩ := (hH.2.2.2.2.1 K n hi.2 hi.1).2.2 hK
  refine zj_callV (a := ad K n) (av := []) C ⟨cq_Jx4a65c_size_8abf5, h1⟩ (jd_size l G (d - 1) (a := ad K n) (V := z_LV G ad h K n m') rfl) hd1 hH.1 (fun _ _ => g1) (z_lrecv C.2.2.2.2.2.2.1 g1) hl.1 (rest := st.map (z_val ad)) (by rw [z_w_eq]; exact hw) hd hc hs hl0 rfl (fun r H' locs' hq hl0 => ?_)
  obtain ⟨rfl, rfl⟩ := hq
  exact k ad H' locs' la hH hE (hO.pop.push trivial) hl0 hl
theorem zs_lget (C : z_Cx p R s m args meth c G y cc nL d MC MS) {i K n : Nat} {j : Int32} (hd : decode cc pc = .ok (.invokevirtual i, 3)) (hK : z_lst K = true) (h7 : K ≠ 207) (h1 : Cond.methodLink y.cls i yJx4a65c_get_915e3 ∈ z_tbl) (hd1 : 4 ≤ d) (hw : z_w st ≤ 8) (hc : ce ≤ MC) (hs : sl ≤ MS) (hz : hZ h K n < 100000) (hj : vp_in j (hZ h K n))
    (k : z_At p l e R s m args below meth c G ad0 h0 nL Qs (pc + 3) ls (z_r (lT K) j.toNatClampNeg :: st) h ce sl) : z_At p l e R s m args below meth c G ad0 h0 nL Qs pc ls (z_i j :: z_r K n :: st) h ce sl := by
  intro ad H locs la hH hE hO hl0 hl
  have hi := hO.pop.top
  obtain ⟨m', el, g1, g2, g3⟩ := (hH.2.2.2.2.1 K n hi.2 hi.1).2.2 hK
  have hjl : j.toNatClampNeg < hZ h K n := Nat.lt_of_not_le (fun q => hj (Or.inr q))
  have hz0 : hZ h K n ≠ 0 := by omega
  have hf : (fun q => if q < hZ h K n then Value.ref (el q) else .null) j.toNatClampNeg = .ref (el j.toNatClampNeg) := if_pos hjl
  refine zj_callV (a := ad K n) (av := [.int j]) C ⟨cq_Jx4a65c_get_915e3, h1⟩ (jd_get l G (d - 1) (by omega) (a := ad K n) (V := z_LV G ad h K n m') (ea := ad (K + 1000) n) (cp := z_cap (hZ h K n)) (f := fun q => if q < hZ h K n then .ref (el q) else .null) (j := j) (congrArg Value.ref (if_neg hz0)) rfl (by omega) hj (z_cap_le _) (Or.inr ⟨_, hf⟩)) (by omega) hH.1 (fun _ _ => ⟨g1, g2 hz0⟩) (z_lrecv C.2.2.2.2.2.2.1 g1) hl.1 (rest := st.map (z_val ad)) (by rw [z_w_eq]; exact hw) hd hc hs hl0 rfl (fun r H' locs' hq hl0 => ?_)
  obtain ⟨rfl, rfl⟩ := hq
  obtain ⟨q1, q2⟩ := (g3 _ hjl).2 h7
  have hk := k ad H' locs' la hH hE (hO.pop.pop.push ⟨q2, (z_obj_no z_lT_cst.1).2.2.2.2⟩) hl0 hl
  rw [if_pos hjl, q1]
  exact hk
theorem zs_bget (C : z_Cx p R s m args meth c G y cc nL d MC MS) {i i2 i3 n : Nat} {j : Int32} (hd : decode cc pc = .ok (.invokevirtual i, 3)) (hd2 : decode cc (pc + 3) = .ok (.checkcast i2, 3)) (hd3 : decode cc (pc + 6) = .ok (.invokevirtual i3, 3)) (h1 : Cond.methodLink y.cls i yJx4a65c_get_915e3 ∈ z_tbl) (h2 : Cond.classLink y.cls i2 RJ6 ∈ z_tbl) (h3 : Cond.methodLink y.cls i3 yJ6_intValue_8abf5 ∈ z_tbl) (hd1 : 4 ≤ d) (hw : z_w st ≤ 8) (hc : ce ≤ MC) (hs : sl ≤ MS) (hz : hZ h 207 n < 100000) (hj : vp_in j (hZ h 207 n))
    (k : z_At p l e R s m args below meth c G ad0 h0 nL Qs (pc + 9) ls (z_i (hI h 207 n j.toNatClampNeg) :: st) h ce sl) : z_At p l e R s m args below meth c G ad0 h0 nL Qs pc ls (z_i j :: z_r 207 n :: st) h ce sl := by
  intro ad H locs la hH hE hO hl0 hl
  have hi := hO.pop.top
  have hKN := C.2.2.2.2.2.2.1
  obtain ⟨m', el, g1, g2, g3⟩ := (hH.2.2.2.2.1 207 n hi.2 hi.1).2.2 (by decide)
  have hjl : j.toNatClampNeg < hZ h 207 n := Nat.lt_of_not_le (fun q => hj (Or.inr q))
  have hz0 : hZ h 207 n ≠ 0 := by omega
  have hf : (fun q => if q < hZ h 207 n then Value.ref (el q) else .null) j.toNatClampNeg = .ref (el j.toNatClampNeg) := if_pos hjl
  refine zj_callV (a := ad 207 n) (av := [.int j]) C ⟨cq_Jx4a65c_get_915e3, h1⟩ (jd_get l G (d - 1) (by omega) (a := ad 207 n) (V := z_LV G ad h 207 n m') (ea := ad 1207 n) (cp := z_cap (hZ h 207 n)) (f := fun q => if q < hZ h 207 n then .ref (el q) else .null) (j := j) (congrArg Value.ref (if_neg hz0)) rfl (by omega) hj (z_cap_le _) (Or.inr ⟨_, hf⟩)) (by omega) hH.1 (fun _ _ => ⟨g1, g2 hz0⟩) (z_lrecv hKN g1) hl.1 (rest := st.map (z_val ad)) (by rw [z_w_eq]; exact hw) hd hc hs hl0 rfl (fun r H' locs' hq hl0 => ?_)
  obtain ⟨rfl, rfl⟩ := hq
  rw [if_pos hjl]
  obtain ⟨q1, q2, cell, q3⟩ := z_any_box hKN hH ((g3 _ hjl).1 rfl)
  refine va_castS C.1 C.2.1 C.2.2.2.1 (C.2.2.2.2.2.1 _ h2) (z_Kint hKN).2 ⟨cell, q3⟩ hd2 ?_
  refine zj_callV (a := el j.toNatClampNeg) (av := []) C ⟨cq_J6_intValue_8abf5, h3⟩ (jd_intValue l G (d - 1)) (by omega) hH.1 (fun _ _ => q2) ⟨cell, q3⟩ hl.1 (rest := st.map (z_val ad)) (by rw [z_w_eq]; exact hw) hd3 hc hs hl0 rfl (fun r H' locs' hq hl0 => ?_)
  obtain ⟨rfl, rfl⟩ := hq
  exact k ad H' locs' la hH hE (hO.pop.pop.push trivial) hl0 hl
theorem zs_lnew (C : z_Cx p R s m args meth c G y cc nL d MC MS) {i j K : Nat} (hd : decode cc pc = .ok (.new i, 3)) (hd2 : decode cc (pc + 3) = .ok (.dup, 1)) (hd3 : decode cc (pc + 4) = .ok (.invokespecial j, 3)) (hK : z_lst K = true) (h1 : Cond.classLink y.cls i RJx4a65c ∈ z_tbl) (h2 : Cond.methodLink y.cls j yJx4a65c_init_da8c8 ∈ z_tbl) (hd5 : 5 ≤ d) (hw : z_w st ≤ 6) (hc : ce + 1 ≤ MC) (hs : sl + 3 ≤ MS)
    (k : z_At p l e R s m args below meth c G ad0 h0 nL Qs (pc + 7) ls (z_r K (hN h K) :: st) (z_nw h K) (ce + 1) (sl + 3)) : z_At p l e R s m args below meth c G ad0 h0 nL Qs pc ls st h ce sl := by
  intro ad H locs la hH hE hO hl0 hl
  have hts := C.2.2.2.2.2.1
  have hKN := C.2.2.2.2.2.2.1
  have hKn : u_Kn s RJx4a65c TJx4a65c 3 (gC G 1) (gI G 1) := hKN.1.1 1 (RJx4a65c, TJx4a65c, 3) rfl
  have hno := z_lst_no hK
  refine W.newcK C.1 C.2.1 C.2.2.2.1 (hts _ h1) (hts _ jn_list) (hts _ cq_Jx4a65c_init_da8c8.2.1) rfl hd (by rw [C.2.2.2.2.2.2.2.2.2.1]; exact hc) (by rw [C.2.2.2.2.2.2.2.2.2.2]; exact hs) hKn.2.1 rfl fun H1 kC hkC e1 z1 o1 => ?_
  refine W.eq (g2 := F0 m (pc + 3) la (.ref H.size :: st.map (z_val ad))) rfl ?_
  have hob : t_OB H.size (gC G 1) 3 (gI G 1) H1 (fun j => defaultValue (tyJx4a65c j)) := u_born tyJx4a65c hts inzJL hKn hkC e1 tyJx4a65c_ok
  have hold1 : z_OLD G s H1 := hH.1.kept (by omega) (fun q hq => o1 q (Nat.lt_of_lt_of_le hq hH.1.1))
  refine lv_dup C.1 C.2.1 hd2 rfl ?_
  refine zj_callI (a := H.size) (av := []) C ⟨cq_Jx4a65c_init_da8c8, h2⟩ (jd_linit l G (d - 1) (by omega) (V := fun j => defaultValue (tyJx4a65c j)) hH.1.1) (by omega) hold1 (fun _ _ => hob) hl.1 (rest := .ref H.size :: st.map (z_val ad)) (by rw [List.map_cons, List.sum_cons, z_w_eq]; show 1 + z_w st ≤ 8; omega) hd3 hc hs hl0 rfl (fun r H2 locs2 hq hl0 => ?_)
  obtain ⟨rfl, g1, g2, g3⟩ := hq
  have ads : z_u2 ad K (hN h K) H.size K (hN h K) = H.size := if_pos ⟨rfl, rfl⟩
  have hzz : hZ (z_nw h K) K (hN h K) = 0 := if_pos ⟨rfl, rfl⟩
  obtain ⟨hH', hE'⟩ := hH.new (H' := H2) hno.2.2.1 hno.2.2.2.1 (g2.trans z1) (fun q hq => (g3 q (Nat.ne_of_lt hq)).trans (o1 q hq)) ⟨fun q => (by rw [hno.1] at q; cases q), fun q => absurd hno.2.1 q, fun _ => ⟨0, fun _ => 0, (by
    rw [ads]
    refine g1.to (fun j hj => ?_)
    rcases (show j = 0 ∨ j = 1 ∨ j = 2 by omega) with rfl | rfl | rfl
    · rfl
    · show Value.ref (gE G) = Value.ref _
      rw [if_pos hzz]
    · show Value.int 0 = Value.int _
      rw [hzz]
      rfl), fun q => absurd hzz q, fun j hj => (by omega)⟩⟩
  have hO' : z_OK (z_nw h K) ls (z_r K (hN h K) :: st) := (hO.mono hE'.1).push ⟨by show hN h K < z_u1 h.1 K (h.1 K + 1) K; unfold z_u1; rw [if_pos rfl]; exact Nat.lt_succ_self _, hno.2.2.1⟩
  have hk := k _ H2 locs2 la hH' (hE.tr hE') hO' hl0 (by rw [z_lm_ex hE' hO]; exact hl)
  rw [List.map_cons, z_sm_ex hE' hO] at hk
  have e : z_val (z_u2 ad K (hN h K) H.size) (z_r K (hN h K)) = Value.ref H.size := congrArg Value.ref ads
  rw [e] at hk
  exact hk
theorem zs_lapp (C : z_Cx p R s m args meth c G y cc nL d MC MS) {i K n : Nat} (hd : decode cc pc = .ok (.invokevirtual i, 3)) (hK : z_lst K = true) (h7 : K ≠ 207) (h1 : Cond.methodLink y.cls i z_yAdd ∈ z_tbl) (hd1 : 8 ≤ d) (hw : z_w st ≤ 8) (hz : hZ h K n < 100000) (hc : ce + z_gc (hZ h K n) ≤ MC) (hs : sl + z_gs (hZ h K n) ≤ MS)
    (k : z_At p l e R s m args below meth c G ad0 h0 nL Qs (pc + 3) ls (z_i 1 :: st) (sZ h K n (hZ h K n + 1)) (ce + z_gc (hZ h K n)) (sl + z_gs (hZ h K n))) : z_At p l e R s m args below meth c G ad0 h0 nL Qs pc ls (z_r (lT K) (hZ h K n) :: z_r K n :: st) h ce sl := by
  intro ad H locs la hH hE hO hl0 hl
  have hi := hO.pop.top
  have hx := hO.top
  have hKN := C.2.2.2.2.2.2.1
  have hno := z_lst_no hK
  obtain ⟨m', el, g1, g2, g3⟩ := (hH.2.2.2.2.1 K n hi.2 hi.1).2.2 hK
  have hlv : z_live h K n := z_live_of hno.2.2.1 hno.2.2.2.1 hi.1
  have hea : hZ h K n ≠ 0 → gB G ≤ ad (K + 1000) n ∧ ad (K + 1000) n ≠ ad K n := by
    intro hz0
    have hle : z_live h (K + 1000) n := Or.inr (Or.inl ⟨by omega, by omega, by simpa using hi.1, by simpa using hz0⟩)
    refine ⟨(hH.2.2.1 _ _ hle).1, fun z => ?_⟩
    have := hH.2.2.2.1 _ _ _ _ hle hlv z
    omega
  refine zj_callV (a := ad K n) (av := [.ref (ad (lT K) (hZ h K n))]) C ⟨cq_Jx4a65c_add_9ea2d, h1⟩ (jd_add l G (d - 1) (by omega) (a := ad K n) (V := z_LV G ad h K n m') (ea := ad (K + 1000) n) (z := hZ h K n) (x := ad (lT K) (hZ h K n)) (el := el) (mo := m') (by omega) rfl rfl rfl (hH.2.2.1 _ _ hlv).1 hea) (by omega) hH.1 (fun _ hal => ⟨g1, g2, (z_els_of hKN hH g3).moved hal, (z_any_obj hKN hH z_lT_cst.1 z_lT_cst.2 hx.1).moved hal⟩) (z_lrecv hKN g1) hl.1 (rest := st.map (z_val ad)) (by rw [z_w_eq]; exact hw) hd hc hs hl0 rfl (fun r H' locs' hq hl0 => ?_)
  obtain ⟨rfl, had⟩ := hq
  obtain ⟨ad', hH', hE'⟩ := hH.apw (h' := sZ h K n (hZ h K n + 1)) hK hi.1 rfl rfl (fun _ _ _ _ => rfl) (fun _ _ => rfl) rfl rfl g3 ⟨fun q => absurd q h7, fun _ => ⟨rfl, hx.1⟩⟩ had
  have hk := k ad' H' locs' la hH' (hE.tr hE') ((hO.pop.pop.mono hE'.1).push trivial) hl0 (by rw [z_lm_ex hE' hO]; exact hl)
  rw [List.map_cons, z_sm_ex hE' hO.pop.pop] at hk
  exact hk
theorem zs_badd (C : z_Cx p R s m args meth c G y cc nL d MC MS) {i i2 n : Nat} {x : Int32} (hd : decode cc pc = .ok (.invokestatic i, 3)) (hd2 : decode cc (pc + 3) = .ok (.invokevirtual i2, 3)) (h1 : Cond.methodLink y.cls i yJ6_valueOf_2dffe ∈ z_tbl) (h2 : Cond.methodLink y.cls i2 z_yAdd ∈ z_tbl) (hd1 : 8 ≤ d) (hw : z_w st ≤ 7) (hz : hZ h 207 n < 100000) (hc : ce + 1 + z_gc (hZ h 207 n) ≤ MC) (hs : sl + 1 + z_gs (hZ h 207 n) ≤ MS)
    (k : ∀ nb, z_At p l e R s m args below meth c G ad0 h0 nL Qs (pc + 6) ls (z_i 1 :: st) (sN (sI (sZ h 207 n (hZ h 207 n + 1)) 207 n (hZ h 207 n) x) 1300 nb) (ce + 1 + z_gc (hZ h 207 n)) (sl + 1 + z_gs (hZ h 207 n))) : z_At p l e R s m args below meth c G ad0 h0 nL Qs pc ls (z_i x :: z_r 207 n :: st) h ce sl := by
  intro ad H locs la hH hE hO hl0 hl
  have hi := hO.pop.top
  have hKN := C.2.2.2.2.2.2.1
  have hK : z_lst 207 = true := by decide
  -- behind valueOf: a world h1 that has the box
  have core : ∀ (ad1 : Nat → Nat → Nat) (h1 : z_H) (H1 : Heap) (a nb : Nat) (locs1 : List Loc), z_HR G ad1 h1 s H1 → z_EX h ad h1 ad1 → h1 = sN h 1300 nb → z_box G ad1 h1 H1 a x → (∀ x ∈ locs1, gB G ≤ x.base) → W p l e R s m args below meth c H1 locs1 (ce + 1) (sl + 1) Qs (F0 m (pc + 3) la (.ref a :: .ref (ad 207 n) :: st.map (z_val ad))) := by
    intro ad1 h1 H1 a nb locs1 hH1 hE1 hh hb hl1
    have e207 : hN h1 207 = hN h 207 := by rw [hh]; rfl
    have hi1 : n < hN h1 207 := by rw [e207]; exact hi.1
    have had1 : ad1 207 n = ad 207 n := hE1.2 207 n (by decide) hi.1
    have ez : hZ h1 207 n = hZ h 207 n := by rw [hh]; rfl
    obtain ⟨m', el, g1, g2, g3⟩ := (hH1.2.2.2.2.1 207 n (by decide) hi1).2.2 hK
    have hlv : z_live h1 207 n := z_live_of (by decide) (by decide) hi1
    have hea : hZ h1 207 n ≠ 0 → gB G ≤ ad1 1207 n ∧ ad1 1207 n ≠ ad1 207 n := by
      intro hz0
      have hle : z_live h1 1207 n := Or.inr (Or.inl ⟨by omega, by omega, hi1, hz0⟩)
      refine ⟨(hH1.2.2.1 _ _ hle).1, fun z => ?_⟩
      have := hH1.2.2.2.1 _ _ _ _ hle hlv z
      omega
    rw [← had1]
    have hbb := z_any_box hKN hH1 hb
    refine zj_callV (a := ad1 207 n) (av := [.ref a]) C ⟨cq_Jx4a65c_add_9ea2d, h2⟩ (jd_add l G (d - 1) (by omega) (a := ad1 207 n) (V := z_LV G ad1 h1 207 n m') (ea := ad1 1207 n) (z := hZ h1 207 n) (x := a) (el := el) (mo := m') (by omega) rfl rfl rfl (hH1.2.2.1 _ _ hlv).1 hea) (by omega) hH1.1 (fun _ hal => ⟨g1, g2, (z_els_of hKN hH1 g3).moved hal, hbb.1.moved hal⟩) (z_lrecv hKN g1) hl.1 (rest := st.map (z_val ad)) (by rw [z_w_eq]; omega) hd2 (by rw [ez]; exact hc) (by rw [ez]; exact hs) hl1 rfl (fun r H' locs' hq hl0 => ?_)
    obtain ⟨rfl, had⟩ := hq
    have ht : hI (sI (sZ h1 207 n (hZ h1 207 n + 1)) 207 n (hZ h1 207 n) x) 207 n (hZ h1 207 n) = x := if_pos ⟨rfl, rfl, rfl⟩
    obtain ⟨ad', hH', hE'⟩ := hH1.apw (h' := sI (sZ h1 207 n (hZ h1 207 n + 1)) 207 n (hZ h1 207 n) x) hK hi1 rfl rfl (fun _ _ _ q => if_neg (fun z => q ⟨z.1, z.2.1⟩)) (fun _ q => if_neg (fun z => q z.2.2)) rfl rfl g3 ⟨fun _ => (by rw [ht]; exact hb), fun q => absurd rfl q⟩ had
    have e4 : sI (sZ h1 207 n (hZ h1 207 n + 1)) 207 n (hZ h1 207 n) x = sN (sI (sZ h 207 n (hZ h 207 n + 1)) 207 n (hZ h 207 n) x) 1300 nb := by rw [ez, hh]; rfl
    have hE2 := hE1.tr hE'
    rw [e4] at hH' hE2
    have hk := k nb ad' H' locs' la hH' (hE.tr hE2) ((hO.pop.pop.mono hE2.1).push trivial) hl0 (by rw [z_lm_ex hE2 hO]; exact hl)
    rw [List.map_cons, z_sm_ex hE2 hO.pop.pop, ← ez] at hk
    exact hk
  refine zj_callS (av := [.int x]) C ⟨cq_J6_valueOf_2dffe, h1⟩ (jd_valueOf l G (d - 1) (by omega)) (by omega) hH.1 (fun _ _ => trivial) hl.1 (rest := .ref (ad 207 n) :: st.map (z_val ad)) (by rw [List.map_cons, List.sum_cons, z_w_eq]; show 1 + z_w st ≤ 8; omega) hd (by omega) (by omega) hl0 rfl (fun r H' locs' hq hl0 => ?_)
  rcases hq with ⟨q, hq, rfl, hv, rfl⟩ | ⟨rfl, b1, b2, b3⟩
  · have e1 : h = sN h 1300 (hN h 1300) := by
      unfold sN
      have : z_u1 h.1 1300 (hN h 1300) = h.1 := by
        funext K'
        unfold z_u1
        split
        · subst_vars; rfl
        · rfl
      rw [this]
    exact core ad h H' _ _ locs' hH z_EX.rf e1 (Or.inl ⟨q, hq, rfl, hv⟩) hl0
  · obtain ⟨hH1, hE1⟩ := hH.box b2 b3
    refine core _ _ H' H.size _ locs' hH1 hE1 rfl (Or.inr ⟨hN h 1300, ?_, (if_pos ⟨rfl, rfl⟩ : z_u2 ad 1300 (hN h 1300) H.size 1300 (hN h 1300) = H.size).symm, b1⟩) hl0
    show hN h 1300 < z_u1 h.1 1300 (hN h 1300 + 1) 1300
    unfold z_u1
    rw [if_pos rfl]
    exact Nat.lt_succ_self _
theorem zs_acopy (C : z_Cx p R s m args meth c G y cc nL d MC MS) {i i1 i2 : Nat} {sp dp n : Int32} (hd : decode cc pc = .ok (.invokestatic i, 3)) (h1 : Cond.methodLink y.cls i z_yCpy ∈ z_tbl) (hd1 : 1 ≤ d) (hw : z_w st ≤ 8) (g1 : ¬ sp < 0) (g2 : ¬ dp < 0) (g3 : ¬ n < 0) (g4 : sp.toNatClampNeg + n.toNatClampNeg ≤ 60) (g5 : dp.toNatClampNeg + n.toNatClampNeg ≤ 60)
    (k : z_At p l e R s m args below meth c G ad0 h0 nL Qs (pc + 3) ls st (z_cpy h i1 sp.toNatClampNeg i2 dp.toNatClampNeg n.toNatClampNeg) ce sl) : z_At p l e R s m args below meth c G ad0 h0 nL Qs pc ls (z_i n :: z_i dp :: z_r 100 i2 :: z_i sp :: z_r 100 i1 :: st) h ce sl := by
  intro ad H locs la hH hE hO hl0 hl
  have hi2 := hO.pop.pop.top
  have hi1 := hO.pop.pop.pop.pop.top
  have hKN := C.2.2.2.2.2.2.1
  have c1 := (hH.2.2.2.2.1 100 i1 hi1.2 hi1.1).2.1 (by decide)
  have c2 := (hH.2.2.2.2.1 100 i2 hi2.2 hi2.1).2.1 (by decide)
  have hlv := hH.2.2.1 100 i2 (z_live_of (by decide) (by decide) hi2.1)
  refine zj_cpy C h1 (a0 := ad 100 i1) (a := ad 100 i2) (cA := gA G 1) (n0 := 60) (n1 := 60) (f := aVal h 100 i1) (g := aVal h 100 i2) (ty := .long) ((z_arrT hKN (z_aCod3 100)).1) c1 c2 g1 g2 g3 g4 g5 (fun T kd dc _ _ _ vm' _ j _ => ⟨rfl, trivial⟩) hd1 hl.1 (rest := st.map (z_val ad)) (by rw [z_w_eq]; exact hw) hd hlv.1 hl0 (fun H' locs' a1 a2 a3 hl0 => ?_)
  have hn : hN (z_cpy h i1 sp.toNatClampNeg i2 dp.toNatClampNeg n.toNatClampNeg) = hN h := rfl
  refine k ad H' locs' la (hH.set (K := 100) (i := i2) (by decide) (by decide) hi2.1 a2 a3 rfl rfl (fun _ _ _ _ => rfl) (fun K' i' k' q => if_neg (fun z => q ⟨z.1, z.2.1⟩)) (fun _ _ _ _ => rfl) ⟨fun q => absurd q (by decide), fun _ => ?_, fun q => absurd q (by decide)⟩ (fun k q hq => hH.2.2.2.2.2 100 i2 k q (by decide) hi2.1 hq)) ⟨hE.1, hE.2⟩ hO.pop.pop.pop.pop.pop hl0 hl
  rw [a1]
  congr 2
  funext j
  show va_cpy _ _ _ _ _ j = Value.long (if (100 : Nat) = 100 ∧ i2 = i2 ∧ dp.toNatClampNeg ≤ j ∧ j < dp.toNatClampNeg + n.toNatClampNeg then h.2.2.1 100 i1 (sp.toNatClampNeg + (j - dp.toNatClampNeg)) else h.2.2.1 100 i2 j)
  unfold va_cpy
  by_cases q : dp.toNatClampNeg ≤ j ∧ j < dp.toNatClampNeg + n.toNatClampNeg
  · rw [if_pos q, if_pos ⟨rfl, rfl, q.1, q.2⟩]
    rfl
  · rw [if_neg q, if_neg (fun z => q ⟨z.2.2.1, z.2.2.2⟩)]
    rfl
end ZL
end
section
section ZL
variable {p : Program} {l : Launch} {e : Env} {R : Room} {s : State} {m : MethodId} {args : Array Value} {below : List Frame} {meth : Method} {c : Code} {G : z_G} {ad0 : Nat → Nat → Nat} {h0 : z_H} {nL : Nat} {Qs : State → Prop} {y : MethodName} {cc : ByteArray} {d MC MS : Nat}
variable {pc : Nat} {ls : z_L} {st : z_S} {h : z_H} {ce sl : Nat}
/-! lists and copies -/
end ZL
theorem z_decl {K f : Nat} (h1 : z_obj K = true) (h2 : f < kF K) (h : (kT K f).2.2.2 = true) : (kT K f).1 = kO K := by
  have h3 : ∀ K, K < 15 → 2 ≤ K → ∀ f, f < kF K → (kT K f).1 = kO K := by decide +kernel
  simp only [z_obj, Bool.and_eq_true, decide_eq_true_eq] at h1
  exact h3 K (by omega) h1.1 f h2
section ZT
variable {p : Program} {l : Launch} {e : Env} {R : Room} {s : State} {m : MethodId} {args : Array Value} {below : List Frame} {meth : Method} {c : Code} {G : z_G} {ad0 : Nat → Nat → Nat} {h0 : z_H} {nL : Nat} {Qs : State → Prop} {y : MethodName} {cc : ByteArray} {d MC MS : Nat}
variable {pc : Nat} {ls : z_L} {st : z_S} {h : z_H} {ce sl : Nat}
theorem pA_e {n : Nat} {st acc : List z_V} {f : List z_V → z_S → Prop} (h : pA n st acc f) : ∃ as r, as.reverse ++ r = st ∧ f (as ++ acc) r := by
  induction n generalizing st acc with
  | zero => exact ⟨[], st, rfl, h⟩
  | succ n ih =>
    cases st with
    | nil => exact h.elim
    | cons v r =>
      obtain ⟨as, q, e1, e2⟩ := ih (show pA n r (v :: acc) f from h)
      exact ⟨as ++ [v], q, by simp [← e1], by simpa using e2⟩
/-- the method's ends -/
def z_RT (A : Nat → z_K) (T : Option z_V → z_H → Nat → Nat → Prop) (cc : ByteArray) : Prop :=
  (∀ pc ls h ce sl x, decode cc pc = .ok (.ireturn, 1) → T (some (z_i x)) h ce sl → A pc ls [z_i x] h ce sl) ∧ (∀ pc ls h ce sl x, decode cc pc = .ok (.lreturn, 1) → T (some (z_l x)) h ce sl → A pc ls [z_l x] h ce sl) ∧
  (∀ pc ls h ce sl x, decode cc pc = .ok (.areturn, 1) → T (some (z_q x)) h ce sl → A pc ls [z_q x] h ce sl) ∧ (∀ pc ls h ce sl, decode cc pc = .ok (.return_, 1) → T none h ce sl → A pc ls [] h ce sl)
set_option maxHeartbeats 4000000 in
set_option maxRecDepth 100000 in
theorem z_step (C : z_Cx p R s m args meth c G y cc nL d MC MS) {T : Option z_V → z_H → Nat → Nat → Prop} (hT : z_RT (z_At p l e R s m args below meth c G ad0 h0 nL Qs) T cc) {e1 : z_E} (hd : decode cc pc = .ok (e1.1, z_dl e1)) {yk : Nat} {ini : Bool} (hyk : y.cls = kO yk) (hini : ini = true → y.name = "<init>") (hex : z_exB yk ini cc nL pc e1 = true) {k : z_K} (hk : ∀ ls st h ce sl, k ls st h ce sl → z_At p l e R s m args below meth c G ad0 h0 nL Qs (pc + e1.2.1) ls st h ce sl)
    (hst : z_stp l G d MC MS y.cls (z_At p l e R s m args below meth c G ad0 h0 nL Qs) T e1 ls st h ce sl k) : z_At p l e R s m args below meth c G ad0 h0 nL Qs pc ls st h ce sl := by
  obtain ⟨i, n, a, b, z⟩ := e1
  cases i with
  | aconst_null =>
    have hn : n = 1 := eq_of_beq hex
    subst hn
    exact zs_aconst_null C hd (hk _ _ _ _ _ hst)
  | iconst v =>
    have hn : n = 1 := eq_of_beq hex
    subst hn
    exact zs_iconst C hd (hk _ _ _ _ _ hst)
  | lconst v =>
    have hn : n = 1 := eq_of_beq hex
    subst hn
    exact zs_lconst C hd (hk _ _ _ _ _ hst)
  | bipush v =>
    simp only [z_exB, Bool.and_eq_true, decide_eq_true_eq, beq_iff_eq] at hex
    obtain ⟨hn, h1⟩ := hex
    subst hn
    exact zs_bipush C hd (by rw [h1]; exact hk _ _ _ _ _ hst)
  | sipush v =>
    simp only [z_exB, Bool.and_eq_true, decide_eq_true_eq, beq_iff_eq] at hex
    obtain ⟨hn, h1⟩ := hex
    subst hn
    exact zs_sipush C hd (by rw [h1]; exact hk _ _ _ _ _ hst)
  | ldc v =>
    simp [z_exB] at hex
  | ldc2_w v =>
    simp only [z_exB, Bool.and_eq_true, decide_eq_true_eq, beq_iff_eq] at hex
    obtain ⟨hn, h1⟩ := hex
    subst hn
    exact zs_ldc2_w C hd (by rw [hyk]; exact z_Lk_ok h1) (hk _ _ _ _ _ hst)
  | iload v =>
    have hn : n = 2 := eq_of_beq hex
    subst hn
    obtain ⟨x, hg, h1⟩ := eI_e hst
    exact zs_iload C hd hg (hk _ _ _ _ _ h1)
  | iload_n v =>
    have hn : n = 1 := eq_of_beq hex
    subst hn
    obtain ⟨x, hg, h1⟩ := eI_e hst
    exact zs_iload_n C hd hg (hk _ _ _ _ _ h1)
  | lload v =>
    have hn : n = 2 := eq_of_beq hex
    subst hn
    obtain ⟨x, hg, h1⟩ := eL_e hst
    exact zs_lload C hd hg (hk _ _ _ _ _ h1)
  | lload_n v =>
    have hn : n = 1 := eq_of_beq hex
    subst hn
    obtain ⟨x, hg, h1⟩ := eL_e hst
    exact zs_lload_n C hd hg (hk _ _ _ _ _ h1)
  | aload v =>
    have hn : n = 2 := eq_of_beq hex
    subst hn
    obtain ⟨x, hg, h1⟩ := eR_e hst
    exact zs_aload C hd hg (hk _ _ _ _ _ h1)
  | aload_n v =>
    have hn : n = 1 := eq_of_beq hex
    subst hn
    obtain ⟨x, hg, h1⟩ := eR_e hst
    exact zs_aload_n C hd hg (hk _ _ _ _ _ h1)
  | istore v =>
    simp only [z_exB, Bool.and_eq_true, decide_eq_true_eq, beq_iff_eq] at hex
    obtain ⟨hn, h1⟩ := hex
    subst hn
    obtain ⟨x, r, rfl, h2⟩ := pI_e hst
    exact zs_istore C hd h1 (hk _ _ _ _ _ h2)
  | istore_n v =>
    simp only [z_exB, Bool.and_eq_true, decide_eq_true_eq, beq_iff_eq] at hex
    obtain ⟨hn, h1⟩ := hex
    subst hn
    obtain ⟨x, r, rfl, h2⟩ := pI_e hst
    exact zs_istore_n C hd h1 (hk _ _ _ _ _ h2)
  | lstore v =>
    simp only [z_exB, Bool.and_eq_true, decide_eq_true_eq, beq_iff_eq] at hex
    obtain ⟨hn, h1⟩ := hex
    subst hn
    obtain ⟨x, r, rfl, h2⟩ := pL_e hst
    exact zs_lstore C hd h1 (hk _ _ _ _ _ h2)
  | lstore_n v =>
    simp only [z_exB, Bool.and_eq_true, decide_eq_true_eq, beq_iff_eq] at hex
    obtain ⟨hn, h1⟩ := hex
    subst hn
    obtain ⟨x, r, rfl, h2⟩ := pL_e hst
    exact zs_lstore_n C hd h1 (hk _ _ _ _ _ h2)
  | astore v =>
    simp only [z_exB, Bool.and_eq_true, decide_eq_true_eq, beq_iff_eq] at hex
    obtain ⟨hn, h1⟩ := hex
    subst hn
    obtain ⟨x, r, rfl, h2⟩ := pR_e hst
    exact zs_astore C hd h1 (hk _ _ _ _ _ h2)
  | astore_n v =>
    simp only [z_exB, Bool.and_eq_true, decide_eq_true_eq, beq_iff_eq] at hex
    obtain ⟨hn, h1⟩ := hex
    subst hn
    obtain ⟨x, r, rfl, h2⟩ := pR_e hst
    exact zs_astore_n C hd h1 (hk _ _ _ _ _ h2)
  | iinc v q =>
    simp only [z_exB, Bool.and_eq_true, decide_eq_true_eq, beq_iff_eq] at hex
    obtain ⟨hn, h1⟩ := hex
    subst hn
    obtain ⟨x, hg, h2⟩ := eI_e hst
    exact zs_iinc C hd h1 hg (hk _ _ _ _ _ h2)
  | dup =>
    have hn : n = 1 := eq_of_beq hex
    subst hn
    obtain ⟨x, r, rfl, h1, h2⟩ := pV_e hst
    exact zs_dup C hd h1 (hk _ _ _ _ _ h2)
  | pop =>
    have hn : n = 1 := eq_of_beq hex
    subst hn
    obtain ⟨x, r, rfl, h1, h2⟩ := pV_e hst
    exact zs_pop C hd h1 (hk _ _ _ _ _ h2)
  | dup2 =>
    have hn : n = 1 := eq_of_beq hex
    subst hn
    obtain ⟨x, r, rfl, h1⟩ := pV_e hst
    obtain ⟨x2, r2, rfl, h2, h3, h4⟩ := pV_e h1
    exact zs_dup2 C hd h2 h3 (hk _ _ _ _ _ h4)
  | iadd =>
    have hn : n = 1 := eq_of_beq hex
    subst hn
    obtain ⟨v, r, rfl, h1⟩ := pI_e hst
    obtain ⟨x, r2, rfl, h2⟩ := pI_e h1
    exact zs_iadd C hd (hk _ _ _ _ _ h2)
  | isub =>
    have hn : n = 1 := eq_of_beq hex
    subst hn
    obtain ⟨v, r, rfl, h1⟩ := pI_e hst
    obtain ⟨x, r2, rfl, h2⟩ := pI_e h1
    exact zs_isub C hd (hk _ _ _ _ _ h2)
  | imul =>
    have hn : n = 1 := eq_of_beq hex
    subst hn
    obtain ⟨v, r, rfl, h1⟩ := pI_e hst
    obtain ⟨x, r2, rfl, h2⟩ := pI_e h1
    exact zs_imul C hd (hk _ _ _ _ _ h2)
  | iand =>
    have hn : n = 1 := eq_of_beq hex
    subst hn
    obtain ⟨v, r, rfl, h1⟩ := pI_e hst
    obtain ⟨x, r2, rfl, h2⟩ := pI_e h1
    exact zs_iand C hd (hk _ _ _ _ _ h2)
  | iushr =>
    have hn : n = 1 := eq_of_beq hex
    subst hn
    obtain ⟨v, r, rfl, h1⟩ := pI_e hst
    obtain ⟨x, r2, rfl, h2⟩ := pI_e h1
    exact zs_iushr C hd (hk _ _ _ _ _ h2)
  | ladd =>
    have hn : n = 1 := eq_of_beq hex
    subst hn
    obtain ⟨v, r, rfl, h1⟩ := pL_e hst
    obtain ⟨x, r2, rfl, h2⟩ := pL_e h1
    exact zs_ladd C hd (hk _ _ _ _ _ h2)
  | lsub =>
    have hn : n = 1 := eq_of_beq hex
    subst hn
    obtain ⟨v, r, rfl, h1⟩ := pL_e hst
    obtain ⟨x, r2, rfl, h2⟩ := pL_e h1
    exact zs_lsub C hd (hk _ _ _ _ _ h2)
  | lmul =>
    have hn : n = 1 := eq_of_beq hex
    subst hn
    obtain ⟨v, r, rfl, h1⟩ := pL_e hst
    obtain ⟨x, r2, rfl, h2⟩ := pL_e h1
    exact zs_lmul C hd (hk _ _ _ _ _ h2)
  | land =>
    have hn : n = 1 := eq_of_beq hex
    subst hn
    obtain ⟨v, r, rfl, h1⟩ := pL_e hst
    obtain ⟨x, r2, rfl, h2⟩ := pL_e h1
    exact zs_land C hd (hk _ _ _ _ _ h2)
  | lor =>
    have hn : n = 1 := eq_of_beq hex
    subst hn
    obtain ⟨v, r, rfl, h1⟩ := pL_e hst
    obtain ⟨x, r2, rfl, h2⟩ := pL_e h1
    exact zs_lor C hd (hk _ _ _ _ _ h2)
  | lcmp =>
    have hn : n = 1 := eq_of_beq hex
    subst hn
    obtain ⟨v, r, rfl, h1⟩ := pL_e hst
    obtain ⟨x, r2, rfl, h2⟩ := pL_e h1
    exact zs_lcmp C hd (hk _ _ _ _ _ h2)
  | ldiv =>
    have hn : n = 1 := eq_of_beq hex
    subst hn
    obtain ⟨v, r, rfl, h1⟩ := pL_e hst
    obtain ⟨x, r2, rfl, h2, h3⟩ := pL_e h1
    exact zs_ldiv C hd h2 (hk _ _ _ _ _ h3)
  | lrem =>
    have hn : n = 1 := eq_of_beq hex
    subst hn
    obtain ⟨v, r, rfl, h1⟩ := pL_e hst
    obtain ⟨x, r2, rfl, h2, h3⟩ := pL_e h1
    exact zs_lrem C hd h2 (hk _ _ _ _ _ h3)
  | lshl =>
    have hn : n = 1 := eq_of_beq hex
    subst hn
    obtain ⟨v, r, rfl, h1⟩ := pI_e hst
    obtain ⟨x, r2, rfl, h2⟩ := pL_e h1
    exact zs_lshl C hd (hk _ _ _ _ _ h2)
  | ineg =>
    have hn : n = 1 := eq_of_beq hex
    subst hn
    obtain ⟨x, r, rfl, h1⟩ := pI_e hst
    exact zs_ineg C hd (hk _ _ _ _ _ h1)
  | lneg =>
    have hn : n = 1 := eq_of_beq hex
    subst hn
    obtain ⟨x, r, rfl, h1⟩ := pL_e hst
    exact zs_lneg C hd (hk _ _ _ _ _ h1)
  | i2l =>
    have hn : n = 1 := eq_of_beq hex
    subst hn
    obtain ⟨x, r, rfl, h1⟩ := pI_e hst
    exact zs_i2l C hd (hk _ _ _ _ _ h1)
  | l2i =>
    have hn : n = 1 := eq_of_beq hex
    subst hn
    obtain ⟨x, r, rfl, h1⟩ := pL_e hst
    exact zs_l2i C hd (hk _ _ _ _ _ h1)
  | i2b =>
    have hn : n = 1 := eq_of_beq hex
    subst hn
    obtain ⟨x, r, rfl, h1⟩ := pI_e hst
    exact zs_i2b C hd (hk _ _ _ _ _ h1)
  | i2s =>
    have hn : n = 1 := eq_of_beq hex
    subst hn
    obtain ⟨x, r, rfl, h1⟩ := pI_e hst
    exact zs_i2s C hd (hk _ _ _ _ _ h1)
  | if_icmp cd off =>
    simp only [z_exB, Bool.and_eq_true, decide_eq_true_eq, beq_iff_eq] at hex
    obtain ⟨hn, h1⟩ := hex
    subst hn
    obtain ⟨v, r, rfl, h2⟩ := pI_e hst
    obtain ⟨x, r2, rfl, h3, h4⟩ := pI_e h2
    exact zs_if_icmp C hd h1 h3 (fun q => hk _ _ _ _ _ (h4 q))
  | ifCond cd off =>
    simp only [z_exB, Bool.and_eq_true, decide_eq_true_eq, beq_iff_eq] at hex
    obtain ⟨hn, h1⟩ := hex
    subst hn
    obtain ⟨x, r2, rfl, h3, h4⟩ := pI_e hst
    exact zs_ifCond C hd h1 h3 (fun q => hk _ _ _ _ _ (h4 q))
  | ifnull off =>
    simp only [z_exB, Bool.and_eq_true, decide_eq_true_eq, beq_iff_eq] at hex
    obtain ⟨hn, h1⟩ := hex
    subst hn
    obtain ⟨x, r2, rfl, h3, h4⟩ := pR_e hst
    exact zs_ifnull C hd h1 h3 (fun q hq => hk _ _ _ _ _ (h4 q hq))
  | ifnonnull off =>
    simp only [z_exB, Bool.and_eq_true, decide_eq_true_eq, beq_iff_eq] at hex
    obtain ⟨hn, h1⟩ := hex
    subst hn
    obtain ⟨x, r2, rfl, h3, h4⟩ := pR_e hst
    exact zs_ifnonnull C hd h1 (fun q => hk _ _ _ _ _ (h3 q)) h4
  | goto off =>
    simp only [z_exB, Bool.and_eq_true, decide_eq_true_eq, beq_iff_eq] at hex
    exact zs_goto C (by rw [← hex.1]; exact hd) hex.2 hst
  | tableswitch dflt lo hi offs =>
    simp only [z_exB, Bool.and_eq_true, decide_eq_true_eq, beq_iff_eq] at hex
    obtain ⟨⟨⟨hn, h1⟩, h2⟩, h3⟩ := hex
    subst hn
    obtain ⟨x, r2, rfl, h4⟩ := pI_e hst
    exact zs_tableswitch C hd h1 (fun o ho => of_decide_eq_true (List.all_eq_true.mp h2 o ho)) h3 h4
  | lookupswitch dflt ps =>
    simp only [z_exB, Bool.and_eq_true, decide_eq_true_eq, beq_iff_eq] at hex
    obtain ⟨⟨⟨hn, h1⟩, h2⟩, h3⟩ := hex
    subst hn
    obtain ⟨x, r2, rfl, h4⟩ := pI_e hst
    refine zs_lookupswitch C hd h3 (fun v => ?_) h4
    have h2' : ∀ o ∈ ps.toList, 0 ≤ (a : Int) + o.2 := fun o ho => of_decide_eq_true (List.all_eq_true.mp h2 o ho)
    clear hd h2 h3 h4 hst
    generalize ps.toList = L at h2'
    induction L with
    | nil => exact h1
    | cons q L ih =>
      rw [show q = (q.1, q.2) from rfl, Op.lookupswitch.offset_cons]
      split
      · exact h2' q List.mem_cons_self
      · exact ih (fun o ho => h2' o (List.mem_cons_of_mem _ ho))
  | getfield v =>
    simp only [z_exB, Bool.and_eq_true, decide_eq_true_eq, beq_iff_eq] at hex
    obtain ⟨⟨⟨⟨hn, h1⟩, h2⟩, h3⟩, h4⟩ := hex
    subst hn
    have hlt := z_fc4 a (z_obj_no h1).2.2.1 b h2
    have hfv : ∀ j, z_fv h a j b = (match z_fc (kY a b) with | 1 => z_l (hL h a j b) | 2 => z_q (hR h a j b) | _ => z_i (hI h a j b)) := fun j => rfl
    generalize z_fc (kY a b) = q at h3 hlt hfv
    subst h3
    rcases q with _ | _ | _ | _ | q
    · have hst : pO st (fun K' i st => K' = a ∧ k ls (z_i (hI h a i b) :: st) h ce sl) := hst
      obtain ⟨K, j, r, rfl, rfl, h5⟩ := pO_e hst
      exact zs_getfield C hd h1 h2 (by rw [hyk]; exact z_Fk_ok h4) (by rw [hfv j]; exact hk _ _ _ _ _ h5)
    · have hst : pO st (fun K' i st => K' = a ∧ k ls (z_l (hL h a i b) :: st) h ce sl) := hst
      obtain ⟨K, j, r, rfl, rfl, h5⟩ := pO_e hst
      exact zs_getfield C hd h1 h2 (by rw [hyk]; exact z_Fk_ok h4) (by rw [hfv j]; exact hk _ _ _ _ _ h5)
    · have hst : pO st (fun K' i st => K' = a ∧ k ls (z_q (hR h a i b) :: st) h ce sl) := hst
      obtain ⟨K, j, r, rfl, rfl, h5⟩ := pO_e hst
      exact zs_getfield C hd h1 h2 (by rw [hyk]; exact z_Fk_ok h4) (by rw [hfv j]; exact hk _ _ _ _ _ h5)
    · have hst : pO st (fun K' i st => K' = a ∧ k ls (z_i (hI h a i b) :: st) h ce sl) := hst
      obtain ⟨K, j, r, rfl, rfl, h5⟩ := pO_e hst
      exact zs_getfield C hd h1 h2 (by rw [hyk]; exact z_Fk_ok h4) (by rw [hfv j]; exact hk _ _ _ _ _ h5)
    · omega
  | putfield v =>
    simp only [z_exB, Bool.and_eq_true, decide_eq_true_eq, beq_iff_eq] at hex
    obtain ⟨⟨⟨⟨⟨hn, h1⟩, h2⟩, h3⟩, h4⟩, h6⟩ := hex
    subst hn
    have hlt := z_fc4 a (z_obj_no h1).2.2.1 b h2
    have hfin : (kT a b).2.2.2 = true → y.name = "<init>" ∧ (kT a b).1 = y.cls := by
      intro q
      rw [q] at h6
      simp only [Bool.not_true, Bool.false_or, Bool.and_eq_true, beq_iff_eq] at h6
      refine ⟨hini h6.1, ?_⟩
      rw [hyk, h6.2]
      exact z_decl h1 h2 q
    generalize hq : z_fc (kY a b) = q at h3 hlt
    subst h3
    rcases q with _ | _ | _ | _ | q
    · obtain ⟨x, r0, rfl, h5⟩ := pI_e hst
      obtain ⟨K, j, r, rfl, rfl, h7⟩ := pO_e h5
      exact zs_putI C hd h1 h2 (by rw [hyk]; exact z_Fk_ok h4) hfin (Or.inl (by revert hq; cases kY K b <;> intro hq <;> first | rfl | (exact absurd hq (by simp [z_fc])))) (hk _ _ _ _ _ h7)
    · obtain ⟨x, r0, rfl, h5⟩ := pL_e hst
      obtain ⟨K, j, r, rfl, rfl, h7⟩ := pO_e h5
      exact zs_putL C hd h1 h2 (by rw [hyk]; exact z_Fk_ok h4) hfin (by revert hq; cases kY K b <;> intro hq <;> first | rfl | (exact absurd hq (by simp [z_fc]))) (hk _ _ _ _ _ h7)
    · obtain ⟨x, r0, rfl, h5⟩ := pR_e hst
      obtain ⟨K, j, r, rfl, rfl, h7⟩ := pO_e h5
      exact zs_putR C hd h1 h2 (by rw [hyk]; exact z_Fk_ok h4) hfin hq (hk _ _ _ _ _ h7)
    · obtain ⟨x, r0, rfl, h5⟩ := pI_e hst
      obtain ⟨K, j, r, rfl, rfl, hx, h7⟩ := pO_e h5
      exact zs_putI C hd h1 h2 (by rw [hyk]; exact z_Fk_ok h4) hfin (Or.inr ⟨by revert hq; cases kY K b <;> intro hq <;> first | rfl | (exact absurd hq (by simp [z_fc])), hx⟩) (hk _ _ _ _ _ h7)
    · omega
  | new v =>
    rcases b with _ | _ | b
    · simp only [z_exB, Bool.and_eq_true, decide_eq_true_eq, beq_iff_eq] at hex
      obtain ⟨⟨hn, h1⟩, h2⟩ := hex
      subst hn
      obtain ⟨g1, g2, g3⟩ := hst
      exact zs_new C hd h1 (by rw [hyk]; exact z_Nk_ok h2) (z_new_ok h1).1 (z_new_ok h1).2 g1 g2 (hk _ _ _ _ _ g3)
    · simp only [z_exB, Bool.and_eq_true, decide_eq_true_eq, beq_iff_eq] at hex
      obtain ⟨⟨⟨⟨⟨hn, h1⟩, h2⟩, h3⟩, h4⟩, h5⟩ := hex
      subst hn
      obtain ⟨g1, g2, g3, g4, g5⟩ := hst
      exact zs_lnew C hd (z_at_e h3) (z_at_e h4) h1 (by rw [hyk]; exact z_Pk_ok h2) (by rw [hyk]; exact z_Pk_ok h5) g1 g2 g3 g4 (hk _ _ _ _ _ g5)
    · exact (hst : False).elim
  | newarray t =>
    simp only [z_exB, Bool.and_eq_true, decide_eq_true_eq, beq_iff_eq] at hex
    obtain ⟨⟨hn, h1⟩, h2⟩ := hex
    subst hn
    obtain ⟨x, r, rfl, g1, g2, g3, g4⟩ := pI_e hst
    exact zs_newarray C hd h1 h2 (by rw [h2]; exact z_arrc_ok _) g1 g2 g3 (hk _ _ _ _ _ g4)
  | arraylength =>
    have hn : n = 1 := eq_of_beq hex
    subst hn
    delta z_stp at hst
    dsimp only at hst
    obtain ⟨K, j, r, rfl, rfl, rfl, h1⟩ := pO_e hst
    exact zs_slen C hd (hk _ _ _ _ _ h1)
  | iaload =>
    have hn : n = 1 := eq_of_beq hex
    subst hn
    rcases b with _ | _ | b
    · obtain ⟨x, r, rfl, h1⟩ := pI_e hst
      obtain ⟨K, j, r2, rfl, h2, h3, h4⟩ := pO_e h1
      exact zs_iaload C hd h2 h3 (hk _ _ _ _ _ h4)
    · obtain ⟨x, r, rfl, h1⟩ := pI_e hst
      obtain ⟨K, j, r2, rfl, rfl, rfl, h3, h4⟩ := pO_e h1
      exact zs_sld C hd h3 (hk _ _ _ _ _ h4)
    · obtain ⟨x, r, rfl, h1⟩ := pI_e hst
      obtain ⟨K, j, r2, rfl, h2, h3, h4⟩ := pO_e h1
      exact zs_iaload C hd h2 h3 (hk _ _ _ _ _ h4)
  | baload =>
    have hn : n = 1 := eq_of_beq hex
    subst hn
    obtain ⟨x, r, rfl, h1⟩ := pI_e hst
    obtain ⟨K, j, r2, rfl, h2, h3, h4⟩ := pO_e h1
    exact zs_baload C hd h2 h3 (hk _ _ _ _ _ h4)
  | laload =>
    have hn : n = 1 := eq_of_beq hex
    subst hn
    obtain ⟨x, r, rfl, h1⟩ := pI_e hst
    obtain ⟨K, j, r2, rfl, h2, h3, h4⟩ := pO_e h1
    exact zs_laload C hd h2 h3 (hk _ _ _ _ _ h4)
  | iastore =>
    have hn : n = 1 := eq_of_beq hex
    subst hn
    obtain ⟨x, r, rfl, h1⟩ := pI_e hst
    obtain ⟨j, r1, rfl, h2⟩ := pI_e h1
    obtain ⟨K, q, r2, rfl, h3, h4, h5⟩ := pO_e h2
    exact zs_iastore C hd h3 h4 (hk _ _ _ _ _ h5)
  | bastore =>
    have hn : n = 1 := eq_of_beq hex
    subst hn
    obtain ⟨x, r, rfl, h1⟩ := pI_e hst
    obtain ⟨j, r1, rfl, h2⟩ := pI_e h1
    obtain ⟨K, q, r2, rfl, h3, h4, h5, h6⟩ := pO_e h2
    exact zs_bastore C hd h3 h4 h5 (hk _ _ _ _ _ h6)
  | lastore =>
    have hn : n = 1 := eq_of_beq hex
    subst hn
    obtain ⟨x, r, rfl, h1⟩ := pL_e hst
    obtain ⟨j, r1, rfl, h2⟩ := pI_e h1
    obtain ⟨K, q, r2, rfl, h3, h4, h5⟩ := pO_e h2
    exact zs_lastore C hd h3 h4 (hk _ _ _ _ _ h5)
  | checkcast v =>
    simp only [z_exB, Bool.and_eq_true, decide_eq_true_eq, beq_iff_eq] at hex
    obtain ⟨⟨hn, h1⟩, h2⟩ := hex
    subst hn
    delta z_stp at hst
    dsimp only at hst
    obtain ⟨K, j, r2, rfl, rfl, h4⟩ := pO_e hst
    exact zs_checkcast C hd h1 (by rw [hyk]; exact z_Nk_ok h2) (hk _ _ _ _ _ h4)
  | ireturn =>
    have hn : n = 1 := eq_of_beq hex
    subst hn
    obtain ⟨x, r, rfl, rfl, h1⟩ := pI_e hst
    exact hT.1 _ _ _ _ _ _ hd h1
  | lreturn =>
    have hn : n = 1 := eq_of_beq hex
    subst hn
    obtain ⟨x, r, rfl, rfl, h1⟩ := pL_e hst
    exact hT.2.1 _ _ _ _ _ _ hd h1
  | areturn =>
    have hn : n = 1 := eq_of_beq hex
    subst hn
    obtain ⟨x, r, rfl, rfl, h1⟩ := pR_e hst
    exact hT.2.2.1 _ _ _ _ _ _ hd h1
  | return_ =>
    have hn : n = 1 := eq_of_beq hex
    subst hn
    obtain ⟨rfl, h1⟩ := hst
    exact hT.2.2.2 _ _ _ _ _ hd h1
  | invokevirtual v =>
    rcases b with _ | _ | _ | _ | _ | _ | _ | _ | _ | _ | _ | _ | b
    · have hn : n = 3 := eq_of_beq hex
      subst hn
      obtain ⟨as, r, rfl, h1, h2⟩ := pA_e hst
      rw [List.append_nil] at h2
      exact zs_callV C hd h1 (z_CP_mono (fun _ _ _ _ q => hk _ _ _ _ _ q) h2)
    · simp only [z_exB, Bool.and_eq_true, decide_eq_true_eq, beq_iff_eq] at hex
      obtain ⟨hn, h1⟩ := hex
      subst hn
      have hst : pO st (fun K i st => 1 ≤ d ∧ z_w st ≤ 8 ∧ ce ≤ MC ∧ sl ≤ MS ∧ z_lst K = true ∧ k ls (z_i (nI (hZ h K i)) :: st) h ce sl) := hst
      obtain ⟨K, j, r2, rfl, g1, g2, g3, g4, g5, g6⟩ := pO_e hst
      exact zs_lsize C hd g5 (by rw [hyk]; exact z_Pk_ok h1) g1 g2 g3 g4 (hk _ _ _ _ _ g6)
    · simp only [z_exB, Bool.and_eq_true, decide_eq_true_eq, beq_iff_eq] at hex
      obtain ⟨hn, h1⟩ := hex
      subst hn
      obtain ⟨x, r, rfl, h2⟩ := pI_e hst
      obtain ⟨K, j, r2, rfl, g1, g2, g3, g4, g5, g6, g7, g8, g9⟩ := pO_e h2
      exact zs_lget C hd g5 g6 (by rw [hyk]; exact z_Pk_ok h1) g1 g2 g3 g4 g7 g8 (hk _ _ _ _ _ g9)
    · simp only [z_exB, Bool.and_eq_true, decide_eq_true_eq, beq_iff_eq] at hex
      obtain ⟨hn, h1⟩ := hex
      subst hn
      have hst : pO st (fun K' i' st => pO st fun K i st => 8 ≤ d ∧ z_w st ≤ 8 ∧ z_lst K = true ∧ K ≠ 207 ∧ K' = lT K ∧ i' = hZ h K i ∧ hZ h K i < 100000 ∧ ce + z_gc (hZ h K i) ≤ MC ∧ sl + z_gs (hZ h K i) ≤ MS ∧ k ls (z_i 1 :: st) (sZ h K i (hZ h K i + 1)) (ce + z_gc (hZ h K i)) (sl + z_gs (hZ h K i))) := hst
      obtain ⟨K', j', r, rfl, h2⟩ := pO_e hst
      obtain ⟨K, j, r2, rfl, g1, g2, g3, g4, g5, g6, g7, g8, g9, g10⟩ := pO_e h2
      subst g5
      subst g6
      exact zs_lapp C hd g3 g4 (by rw [hyk]; exact z_Pk_ok h1) g1 g2 g7 g8 g9 (hk _ _ _ _ _ g10)
    · exact (hst : False).elim
    · exact (hst : False).elim
    · exact (hst : False).elim
    · exact (hst : False).elim
    · exact (hst : False).elim
    · exact (hst : False).elim
    · exact (hst : False).elim
    · simp only [z_exB, Bool.and_eq_true, decide_eq_true_eq, beq_iff_eq] at hex
      obtain ⟨⟨⟨⟨⟨hn, h1⟩, h2⟩, h3⟩, h4⟩, h5⟩ := hex
      subst hn
      obtain ⟨x, r, rfl, h6⟩ := pI_e hst
      obtain ⟨K, j, r2, rfl, g1, g2, g3, g4, rfl, g5, g6, g7⟩ := pO_e h6
      exact zs_bget C hd (z_at_e h2) (z_at_e h4) (by rw [hyk]; exact z_Pk_ok h1) (by rw [hyk]; exact z_Pk_ok h3) (by rw [hyk]; exact z_Pk_ok h5) g1 g2 g3 g4 g5 g6 (hk _ _ _ _ _ g7)
    · exact (hst : False).elim
  | invokestatic v =>
    rcases b with _ | _ | _ | _ | _ | _ | _ | _ | _ | _ | _ | b
    · have hn : n = 3 := eq_of_beq hex
      subst hn
      obtain ⟨as, r, rfl, h1, h2⟩ := pA_e hst
      rw [List.append_nil] at h2
      exact zs_callS C hd h1 (z_CP_mono (fun _ _ _ _ q => hk _ _ _ _ _ q) h2)
    · exact (hst : False).elim
    · exact (hst : False).elim
    · exact (hst : False).elim
    · exact (hst : False).elim
    · exact (hst : False).elim
    · simp only [z_exB, Bool.and_eq_true, decide_eq_true_eq, beq_iff_eq] at hex
      obtain ⟨hn, h1⟩ := hex
      subst hn
      obtain ⟨x, r, rfl, h2⟩ := pI_e hst
      obtain ⟨x2, r2, rfl, h3⟩ := pI_e h2
      obtain ⟨K2, j2, r3, rfl, h4⟩ := pO_e h3
      obtain ⟨x3, r4, rfl, h5⟩ := pI_e h4
      obtain ⟨K1, j1, r5, rfl, g1, g2, rfl, rfl, g5, g6, g7, g8, g9, g10⟩ := pO_e h5
      exact zs_acopy C hd (by rw [hyk]; exact z_Pk_ok h1) g1 g2 g5 g6 g7 g8 g9 (hk _ _ _ _ _ g10)
    · exact (hst : False).elim
    · exact (hst : False).elim
    · exact (hst : False).elim
    · simp only [z_exB, Bool.and_eq_true, decide_eq_true_eq, beq_iff_eq] at hex
      obtain ⟨⟨⟨hn, h1⟩, h2⟩, h3⟩ := hex
      subst hn
      obtain ⟨x, r, rfl, h4⟩ := pI_e hst
      obtain ⟨K, j, r2, rfl, g1, g2, rfl, g4, g5, g6, g7⟩ := pO_e h4
      exact zs_badd C hd (z_at_e h2) (by rw [hyk]; exact z_Pk_ok h1) (by rw [hyk]; exact z_Pk_ok h3) g1 g2 g4 g5 g6 (fun nb => hk _ _ _ _ _ (g7 nb))
    · exact (hst : False).elim
  | invokespecial v =>
    rcases b with _ | _ | _ | _ | _ | _ | _ | _ | b
    · have hn : n = 3 := eq_of_beq hex
      subst hn
      obtain ⟨as, r, rfl, h1, h2⟩ := pA_e hst
      rw [List.append_nil] at h2
      exact zs_callI C hd h1 (z_CP_mono (fun _ _ _ _ q => hk _ _ _ _ _ q) h2)
    · exact (hst : False).elim
    · exact (hst : False).elim
    · exact (hst : False).elim
    · exact (hst : False).elim
    · exact (hst : False).elim
    · exact (hst : False).elim
    · simp only [z_exB, Bool.and_eq_true, decide_eq_true_eq, beq_iff_eq] at hex
      obtain ⟨hn, h1⟩ := hex
      subst hn
      have hst : pO st (fun _ _ st => 1 ≤ d ∧ z_w st ≤ 8 ∧ k ls st h ce sl) := hst
      obtain ⟨K, j, r2, rfl, g1, g2, g3⟩ := pO_e hst
      exact zs_objInit C hd (by rw [hyk]; exact z_Pk_ok h1) z_obj_ok.1 z_obj_ok.2 g1 g2 (hk _ _ _ _ _ g3)
    · exact (hst : False).elim
  | _ => exact (hst : False).elim
/-- A STRETCH: what it asks is enough -/
theorem z_blk (C : z_Cx p R s m args meth c G y cc nL d MC MS) {T : Option z_V → z_H → Nat → Nat → Prop} (hT : z_RT (z_At p l e R s m args below meth c G ad0 h0 nL Qs) T cc) {yk : Nat} {ini : Bool} (hyk : y.cls = kO yk) (hini : ini = true → y.name = "<init>") : ∀ (es : List z_E) (pc ep : Nat), z_chk yk ini cc nL pc es ep = true → ∀ ls st h ce sl, z_wp l G d MC MS y.cls (z_At p l e R s m args below meth c G ad0 h0 nL Qs) T ep es ls st h ce sl → z_At p l e R s m args below meth c G ad0 h0 nL Qs pc ls st h ce sl := by
  intro es
  induction es with
  | nil =>
    intro pc ep hc ls st h ce sl hw
    have : pc = ep := eq_of_beq hc
    subst this
    exact hw
  | cons e1 r ih =>
    intro pc ep hc ls st h ce sl hw
    unfold z_chk at hc
    simp only [Bool.and_eq_true] at hc
    obtain ⟨⟨h1, h2⟩, h3⟩ := hc
    exact z_step C hT (z_at_e h1) hyk hini h2 (fun ls st h ce sl q => ih _ _ h3 ls st h ce sl q) hw
end ZT
end
section
/-! A METHOD, by its stretches: what is shown of every judgement A that the stretches support holds of the machine -/
def z_rt (rt : Option FieldType) (r : Option z_V) : Prop := match rt, r with
  | some .int, some (.inl _) => True
  | some .boolean, some (.inl x) => x = 0 ∨ x = 1
  | some .long, some (.inr (.inl _)) => True
  | some (.object _), some (.inr (.inr _)) => True
  | none, none => True
  | _, _ => False
def z_T (rt : Option FieldType) (MC MS : Nat) (Q : Option z_V → z_H → Prop) : Option z_V → z_H → Nat → Nat → Prop := fun r h ce sl => ce ≤ MC ∧ sl ≤ MS ∧ z_rt rt r ∧ Q r h
def z_args : Nat → List z_V → z_L
  | _, [] => []
  | n, v :: r => (n, v) :: z_args (n + z_cat v) r
theorem z_args_lm (ad : Nat → Nat → Nat) (as : List z_V) : ∀ n, z_lm ad (z_args n as) = lv_args n (as.map (z_val ad)) := by
  induction as with
  | nil => intro n; rfl
  | cons v r ih =>
    intro n
    show (n, z_val ad v) :: z_lm ad (z_args (n + z_cat v) r) = lv_args n (z_val ad v :: r.map (z_val ad))
    rw [ih]
    simp only [lv_args, z_val_cat]
    rcases v with x | x | x <;> rfl
theorem z_sl_len (ad : Nat → Nat → Nat) (as : List z_V) : (lg_sl (as.map (z_val ad))).length = z_w as := by
  induction as with
  | nil => rfl
  | cons v r ih =>
    have : lg_sl ((v :: r).map (z_val ad)) = (if (z_val ad v).category = 2 then [.val (z_val ad v), .second] else [.val (z_val ad v)]) ++ lg_sl (r.map (z_val ad)) := rfl
    rw [this, List.length_append, ih, z_val_cat]
    rcases v with x | x | x <;> simp [z_w, z_cat]
theorem z_args_ok {h : z_H} {as : List z_V} (ha : ∀ x ∈ as, z_ok h x) : ∀ n, ∀ q ∈ z_args n as, z_ok h q.2 := by
  induction as with
  | nil => intro n q hq; cases hq
  | cons v r ih =>
    intro n q hq
    rcases List.mem_cons.mp hq with rfl | hq
    · exact ha v List.mem_cons_self
    · exact ih (fun x hx => ha x (List.mem_cons_of_mem _ hx)) _ q hq
theorem z_meth {l : Launch} {G : z_G} {d : Nat} {y : MethodName} {cc : ByteArray} {mL : Nat} {rt : Option FieldType} {as : List z_V} {h : z_H} {mc ms : Nat} {Q : Option z_V → z_H → Prop} (yk : Nat) (ini : Bool) (hy : plainName y.cls = true ∧ y.cls = kO yk ∧ (ini = true → y.name = "<init>")) (hw : z_w as ≤ mL)
    (HA : ∀ A : Nat → z_K, (∀ (es : List z_E) (pc ep : Nat), z_chk yk ini cc mL pc es ep = true → ∀ ls st h' ce sl, z_wp l G d mc ms y.cls A (z_T rt mc ms Q) ep es ls st h' ce sl → A pc ls st h' ce sl) → A 0 (z_args 0 as) [] h 0 0) : z_MT l G d y cc mL rt as h mc ms Q := by
  intro ad
  refine Met.ofW (cc := cc) (maxL := mL) (ret := rt) hy.1 rfl ?_
  intro p e s m args below meth c s₁ B hml hv
  obtain ⟨rfl, ⟨hKN, hHR⟩, hok⟩ := hv
  have hts := atoms_spec (ws := Cond.code y cc mL rt :: z_tbl) B.pre
  have hlk := B.notSynchronized
  have C : z_Cx p (z_rm d mc ms) s m (as.map (z_val ad)).toArray meth c G y cc mL d mc ms := ⟨B.exec, B.bytes, hml, findClass_of_methodNamed B.named, (name_of_methodNamed B.named B.method).1, fun w hw => hts w (List.mem_cons_of_mem _ hw), hKN, rfl, Nat.le_refl _, rfl, rfl⟩
  have hr := B.returns
  have hRT : z_RT (z_At p l e (z_rm d mc ms) s m (as.map (z_val ad)).toArray below meth c G ad h mL (MQ below (z_Qc G ad h Q) (as.map (z_val ad)).toArray s mc ms (z_A G))) (z_T rt mc ms Q) cc := by
    refine ⟨fun pc ls h ce sl x hd hq => ?_, fun pc ls h ce sl x hd hq => ?_, fun pc ls h ce sl x hd hq => ?_, fun pc ls h ce sl hd hq => ?_⟩
    · obtain ⟨q1, q2, q3, q4⟩ := hq
      unfold z_rt at q3
      split at q3
      · exact zs_ireturn C hlk hd hr (Or.inl rfl) q1 q2 q4
      · rename_i hq; cases hq; exact zs_ireturn C hlk hd hr (Or.inr ⟨rfl, q3⟩) q1 q2 q4
      · rename_i hq; cases hq
      · rename_i hq; cases hq
      · rename_i hq; cases hq
      · exact q3.elim
    · obtain ⟨q1, q2, q3, q4⟩ := hq
      unfold z_rt at q3
      split at q3
      · rename_i hq; cases hq
      · rename_i hq; cases hq
      · exact zs_lreturn C hlk hd hr q1 q2 q4
      · rename_i hq; cases hq
      · rename_i hq; cases hq
      · exact q3.elim
    · obtain ⟨q1, q2, q3, q4⟩ := hq
      unfold z_rt at q3
      split at q3
      · rename_i hq; cases hq
      · rename_i hq; cases hq
      · rename_i hq; cases hq
      · exact zs_areturn C hlk hd hr (Or.inl ⟨_, rfl⟩) q1 q2 q4
      · rename_i hq; cases hq
      · exact q3.elim
    · obtain ⟨q1, q2, q3, q4⟩ := hq
      unfold z_rt at q3
      split at q3
      · rename_i hq; cases hq
      · rename_i hq; cases hq
      · rename_i hq; cases hq
      · rename_i hq; cases hq
      · exact zs_return C hlk hd hr q1 q2 q4
      · exact q3.elim
  have hA := HA _ (z_blk C hRT hy.2.1 hy.2.2)
  have hl := lv_entry (as.map (z_val ad)) (n := mL) (by rw [z_sl_len]; exact hw)
  rw [lg_entry_eq]
  refine hA ad s.heap [] _ hHR z_EX.rf ⟨z_args_ok hok 0, fun v hv => by cases hv⟩ (fun x hx => by cases hx) ?_
  rw [z_args_lm]
  exact hl
end
section
/-! rules by which a stretch is read (all by rfl) -/
section ZR
variable {l : Launch} {G : z_G} {d MC MS : Nat} {own : String} {A : Nat → z_K} {T : Option z_V → z_H → Nat → Nat → Prop} {ls : z_L} {st : z_S} {h : z_H} {ce sl : Nat} {k : z_K} {n a b ep : Nat} {z : Int} {e : z_E} {es : List z_E}
theorem zr_nil : z_wp l G d MC MS own A T ep [] ls st h ce sl = A ep ls st h ce sl := rfl
theorem zr_cons : z_wp l G d MC MS own A T ep (e :: es) ls st h ce sl = z_stp l G d MC MS own A T e ls st h ce sl (z_wp l G d MC MS own A T ep es) := rfl
theorem zr_aconst_null : z_stp l G d MC MS own A T (.aconst_null, n, a, b, z) ls st h ce sl k = k ls (z_n :: st) h ce sl := rfl
theorem zr_iconst {v : Int} : z_stp l G d MC MS own A T (.iconst v, n, a, b, z) ls st h ce sl k = k ls (z_i (Int32.ofInt v) :: st) h ce sl := rfl
theorem zr_bipush {v : Int} : z_stp l G d MC MS own A T (.bipush v, n, a, b, z) ls st h ce sl k = k ls (z_i (Int32.ofInt v) :: st) h ce sl := rfl
theorem zr_sipush {v : Int} : z_stp l G d MC MS own A T (.sipush v, n, a, b, z) ls st h ce sl k = k ls (z_i (Int32.ofInt v) :: st) h ce sl := rfl
theorem zr_lconst {v : Fin 2} : z_stp l G d MC MS own A T (.lconst v, n, a, b, z) ls st h ce sl k = k ls (z_l (Int64.ofNat v) :: st) h ce sl := rfl
theorem zr_ldc {v : Nat} : z_stp l G d MC MS own A T (.ldc v, n, a, b, z) ls st h ce sl k = k ls (z_i (Int32.ofInt z) :: st) h ce sl := rfl
theorem zr_ldc2 {v : Nat} : z_stp l G d MC MS own A T (.ldc2_w v, n, a, b, z) ls st h ce sl k = k ls (z_l (Int64.ofInt z) :: st) h ce sl := rfl
theorem zr_iload {v : Nat} : z_stp l G d MC MS own A T (.iload v, n, a, b, z) ls st h ce sl k = eI (z_get ls v) fun x => k ls (z_i x :: st) h ce sl := rfl
theorem zr_iload_n {v : Fin 4} : z_stp l G d MC MS own A T (.iload_n v, n, a, b, z) ls st h ce sl k = eI (z_get ls v) fun x => k ls (z_i x :: st) h ce sl := rfl
theorem zr_lload {v : Nat} : z_stp l G d MC MS own A T (.lload v, n, a, b, z) ls st h ce sl k = eL (z_get ls v) fun x => k ls (z_l x :: st) h ce sl := rfl
theorem zr_lload_n {v : Fin 4} : z_stp l G d MC MS own A T (.lload_n v, n, a, b, z) ls st h ce sl k = eL (z_get ls v) fun x => k ls (z_l x :: st) h ce sl := rfl
theorem zr_aload {v : Nat} : z_stp l G d MC MS own A T (.aload v, n, a, b, z) ls st h ce sl k = eR (z_get ls v) fun x => k ls (z_q x :: st) h ce sl := rfl
theorem zr_aload_n {v : Fin 4} : z_stp l G d MC MS own A T (.aload_n v, n, a, b, z) ls st h ce sl k = eR (z_get ls v) fun x => k ls (z_q x :: st) h ce sl := rfl
theorem zr_istore {v : Nat} : z_stp l G d MC MS own A T (.istore v, n, a, b, z) ls st h ce sl k = pI st fun x st => k (z_put ls v (z_i x)) st h ce sl := rfl
theorem zr_istore_n {v : Fin 4} : z_stp l G d MC MS own A T (.istore_n v, n, a, b, z) ls st h ce sl k = pI st fun x st => k (z_put ls v (z_i x)) st h ce sl := rfl
theorem zr_lstore {v : Nat} : z_stp l G d MC MS own A T (.lstore v, n, a, b, z) ls st h ce sl k = pL st fun x st => k (z_put ls v (z_l x)) st h ce sl := rfl
theorem zr_lstore_n {v : Fin 4} : z_stp l G d MC MS own A T (.lstore_n v, n, a, b, z) ls st h ce sl k = pL st fun x st => k (z_put ls v (z_l x)) st h ce sl := rfl
theorem zr_astore {v : Nat} : z_stp l G d MC MS own A T (.astore v, n, a, b, z) ls st h ce sl k = pR st fun x st => k (z_put ls v (z_q x)) st h ce sl := rfl
theorem zr_astore_n {v : Fin 4} : z_stp l G d MC MS own A T (.astore_n v, n, a, b, z) ls st h ce sl k = pR st fun x st => k (z_put ls v (z_q x)) st h ce sl := rfl
theorem zr_iinc {v : Nat} {q : Int} : z_stp l G d MC MS own A T (.iinc v q, n, a, b, z) ls st h ce sl k = eI (z_get ls v) fun x => k (z_put ls v (z_i (x + Int32.ofInt q))) st h ce sl := rfl
theorem zr_dup : z_stp l G d MC MS own A T (.dup, n, a, b, z) ls st h ce sl k = pV st fun v st => z_cat v = 1 ∧ k ls (v :: v :: st) h ce sl := rfl
theorem zr_pop : z_stp l G d MC MS own A T (.pop, n, a, b, z) ls st h ce sl k = pV st fun v st => z_cat v = 1 ∧ k ls st h ce sl := rfl
theorem zr_dup2 : z_stp l G d MC MS own A T (.dup2, n, a, b, z) ls st h ce sl k = pV st fun v st => pV st fun w st => z_cat v = 1 ∧ z_cat w = 1 ∧ k ls (v :: w :: v :: w :: st) h ce sl := rfl
theorem zr_iadd : z_stp l G d MC MS own A T (.iadd, n, a, b, z) ls st h ce sl k = pI st fun y st => pI st fun x st => k ls (z_i (x + y) :: st) h ce sl := rfl
theorem zr_isub : z_stp l G d MC MS own A T (.isub, n, a, b, z) ls st h ce sl k = pI st fun y st => pI st fun x st => k ls (z_i (x - y) :: st) h ce sl := rfl
theorem zr_imul : z_stp l G d MC MS own A T (.imul, n, a, b, z) ls st h ce sl k = pI st fun y st => pI st fun x st => k ls (z_i (x * y) :: st) h ce sl := rfl
theorem zr_iand : z_stp l G d MC MS own A T (.iand, n, a, b, z) ls st h ce sl k = pI st fun y st => pI st fun x st => k ls (z_i (x &&& y) :: st) h ce sl := rfl
theorem zr_iushr : z_stp l G d MC MS own A T (.iushr, n, a, b, z) ls st h ce sl k = pI st fun y st => pI st fun x st => k ls (z_i ((x.toUInt32 >>> (y.toUInt32 &&& Int32.toUInt32 31)).toInt32) :: st) h ce sl := rfl
theorem zr_ladd : z_stp l G d MC MS own A T (.ladd, n, a, b, z) ls st h ce sl k = pL st fun y st => pL st fun x st => k ls (z_l (x + y) :: st) h ce sl := rfl
theorem zr_lsub : z_stp l G d MC MS own A T (.lsub, n, a, b, z) ls st h ce sl k = pL st fun y st => pL st fun x st => k ls (z_l (x - y) :: st) h ce sl := rfl
theorem zr_lmul : z_stp l G d MC MS own A T (.lmul, n, a, b, z) ls st h ce sl k = pL st fun y st => pL st fun x st => k ls (z_l (x * y) :: st) h ce sl := rfl
theorem zr_land : z_stp l G d MC MS own A T (.land, n, a, b, z) ls st h ce sl k = pL st fun y st => pL st fun x st => k ls (z_l (x &&& y) :: st) h ce sl := rfl
theorem zr_lor : z_stp l G d MC MS own A T (.lor, n, a, b, z) ls st h ce sl k = pL st fun y st => pL st fun x st => k ls (z_l (x ||| y) :: st) h ce sl := rfl
theorem zr_ldiv : z_stp l G d MC MS own A T (.ldiv, n, a, b, z) ls st h ce sl k = pL st fun y st => pL st fun x st => ¬ y = 0 ∧ k ls (z_l (x / y) :: st) h ce sl := rfl
theorem zr_lrem : z_stp l G d MC MS own A T (.lrem, n, a, b, z) ls st h ce sl k = pL st fun y st => pL st fun x st => ¬ y = 0 ∧ k ls (z_l (x - x / y * y) :: st) h ce sl := rfl
theorem zr_lshl : z_stp l G d MC MS own A T (.lshl, n, a, b, z) ls st h ce sl k = pI st fun y st => pL st fun x st => k ls (z_l (x <<< (y.toInt64 &&& 63)) :: st) h ce sl := rfl
theorem zr_lcmp : z_stp l G d MC MS own A T (.lcmp, n, a, b, z) ls st h ce sl k = pL st fun y st => pL st fun x st => k ls (z_i (lg_cmp x y) :: st) h ce sl := rfl
theorem zr_ineg : z_stp l G d MC MS own A T (.ineg, n, a, b, z) ls st h ce sl k = pI st fun x st => k ls (z_i (-x) :: st) h ce sl := rfl
theorem zr_lneg : z_stp l G d MC MS own A T (.lneg, n, a, b, z) ls st h ce sl k = pL st fun x st => k ls (z_l (-x) :: st) h ce sl := rfl
theorem zr_i2l : z_stp l G d MC MS own A T (.i2l, n, a, b, z) ls st h ce sl k = pI st fun x st => k ls (z_l (x.toInt64) :: st) h ce sl := rfl
theorem zr_l2i : z_stp l G d MC MS own A T (.l2i, n, a, b, z) ls st h ce sl k = pL st fun x st => k ls (z_i (x.toInt32) :: st) h ce sl := rfl
theorem zr_i2b : z_stp l G d MC MS own A T (.i2b, n, a, b, z) ls st h ce sl k = pI st fun x st => k ls (z_i (x.toInt8.toInt32) :: st) h ce sl := rfl
theorem zr_i2s : z_stp l G d MC MS own A T (.i2s, n, a, b, z) ls st h ce sl k = pI st fun x st => k ls (z_i (x.toInt16.toInt32) :: st) h ce sl := rfl
theorem zr_icmp {c : ClassFile.Cond} {v : Int} : z_stp l G d MC MS own A T (.if_icmp c v, n, a, b, z) ls st h ce sl k = pI st fun y st => pI st fun x st => (z_cP c x y → A a ls st h ce sl) ∧ (¬ z_cP c x y → k ls st h ce sl) := rfl
theorem zr_ifc {c : ClassFile.Cond} {v : Int} : z_stp l G d MC MS own A T (.ifCond c v, n, a, b, z) ls st h ce sl k = pI st fun x st => (z_cP c x 0 → A a ls st h ce sl) ∧ (¬ z_cP c x 0 → k ls st h ce sl) := rfl
theorem zr_ifnull {v : Int} : z_stp l G d MC MS own A T (.ifnull v, n, a, b, z) ls st h ce sl k = pR st fun r st => (r = none → A a ls st h ce sl) ∧ (∀ q, r = some q → k ls st h ce sl) := rfl
theorem zr_ifnonnull {v : Int} : z_stp l G d MC MS own A T (.ifnonnull v, n, a, b, z) ls st h ce sl k = pR st fun r st => (r = none → k ls st h ce sl) ∧ (∀ q, r = some q → A a ls st h ce sl) := rfl
theorem zr_goto {v : Int} : z_stp l G d MC MS own A T (.goto v, n, a, b, z) ls st h ce sl k = A a ls st h ce sl := rfl
theorem zr_tsw {d1 lo hi : Int} {offs : Array Int} : z_stp l G d MC MS own A T (.tableswitch d1 lo hi offs, n, a, b, z) ls st h ce sl k = pI st fun x st => A (z_sw a d1 lo hi offs.toList x.toInt) ls st h ce sl := rfl
theorem zr_lsw {d1 : Int} {ps : Array (Int × Int)} : z_stp l G d MC MS own A T (.lookupswitch d1 ps, n, a, b, z) ls st h ce sl k = pI st fun x st => A (z_lk a d1 ps.toList x.toInt) ls st h ce sl := rfl
theorem zr_get0 {v : Nat} : z_stp l G d MC MS own A T (.getfield v, n, a, b, 0) ls st h ce sl k = pO st fun K i st => K = a ∧ k ls (z_i (hI h a i b) :: st) h ce sl := rfl
theorem zr_get3 {v : Nat} : z_stp l G d MC MS own A T (.getfield v, n, a, b, 3) ls st h ce sl k = pO st fun K i st => K = a ∧ k ls (z_i (hI h a i b) :: st) h ce sl := rfl
theorem zr_get1 {v : Nat} : z_stp l G d MC MS own A T (.getfield v, n, a, b, 1) ls st h ce sl k = pO st fun K i st => K = a ∧ k ls (z_l (hL h a i b) :: st) h ce sl := rfl
theorem zr_get2 {v : Nat} : z_stp l G d MC MS own A T (.getfield v, n, a, b, 2) ls st h ce sl k = pO st fun K i st => K = a ∧ k ls (z_q (hR h a i b) :: st) h ce sl := rfl
theorem zr_put0 {v : Nat} : z_stp l G d MC MS own A T (.putfield v, n, a, b, 0) ls st h ce sl k = pI st fun x st => pO st fun K i st => K = a ∧ k ls st (sI h a i b x) ce sl := rfl
theorem zr_put3 {v : Nat} : z_stp l G d MC MS own A T (.putfield v, n, a, b, 3) ls st h ce sl k = pI st fun x st => pO st fun K i st => K = a ∧ (x = 0 ∨ x = 1) ∧ k ls st (sI h a i b x) ce sl := rfl
theorem zr_put1 {v : Nat} : z_stp l G d MC MS own A T (.putfield v, n, a, b, 1) ls st h ce sl k = pL st fun x st => pO st fun K i st => K = a ∧ k ls st (sL h a i b x) ce sl := rfl
theorem zr_put2 {v : Nat} : z_stp l G d MC MS own A T (.putfield v, n, a, b, 2) ls st h ce sl k = pR st fun x st => pO st fun K i st => K = a ∧ k ls st (sR h a i b x) ce sl := rfl
theorem zr_new {v : Nat} : z_stp l G d MC MS own A T (.new v, n, a, 0, z) ls st h ce sl k = (ce + 1 ≤ MC ∧ sl + kF a ≤ MS ∧ k ls (z_r a (hN h a) :: st) (z_nw h a) (ce + 1) (sl + kF a)) := rfl
theorem zr_newl {v : Nat} : z_stp l G d MC MS own A T (.new v, n, a, 1, z) ls st h ce sl k = (5 ≤ d ∧ z_w st ≤ 6 ∧ ce + 1 ≤ MC ∧ sl + 3 ≤ MS ∧ k ls (z_r a (hN h a) :: st) (z_nw h a) (ce + 1) (sl + 3)) := rfl
theorem zr_newa {t : ArrayType} : z_stp l G d MC MS own A T (.newarray t, n, a, b, z) ls st h ce sl k = pI st fun n st => n = nI (aLen a) ∧ ce + 1 ≤ MC ∧ sl + aLen a ≤ MS ∧ k ls (z_r a (hN h a) :: st) (z_nw h a) (ce + 1) (sl + aLen a) := rfl
theorem zr_alen : z_stp l G d MC MS own A T (.arraylength, n, a, b, z) ls st h ce sl k = pO st fun K i st => K = 400 ∧ i = 0 ∧ k ls (z_i (nI (gL G)) :: st) h ce sl := rfl
theorem zr_iald1 : z_stp l G d MC MS own A T (.iaload, n, a, 1, z) ls st h ce sl k = pI st fun j st => pO st fun K i st => K = 400 ∧ i = 0 ∧ vp_in j (gL G) ∧ k ls (z_i (gV G j.toNatClampNeg) :: st) h ce sl := rfl
theorem zr_iald : z_stp l G d MC MS own A T (.iaload, n, a, 0, z) ls st h ce sl k = pI st fun j st => pO st fun K i st => aCod K = 0 ∧ vp_in j (aLen K) ∧ k ls (z_i (hI h K i j.toNatClampNeg) :: st) h ce sl := rfl
theorem zr_bald : z_stp l G d MC MS own A T (.baload, n, a, b, z) ls st h ce sl k = pI st fun j st => pO st fun K i st => aCod K = 2 ∧ vp_in j (aLen K) ∧ k ls (z_i (hI h K i j.toNatClampNeg) :: st) h ce sl := rfl
theorem zr_lald : z_stp l G d MC MS own A T (.laload, n, a, b, z) ls st h ce sl k = pI st fun j st => pO st fun K i st => aCod K = 1 ∧ vp_in j (aLen K) ∧ k ls (z_l (hL h K i j.toNatClampNeg) :: st) h ce sl := rfl
theorem zr_iast : z_stp l G d MC MS own A T (.iastore, n, a, b, z) ls st h ce sl k = pI st fun x st => pI st fun j st => pO st fun K i st => aCod K = 0 ∧ vp_in j (aLen K) ∧ k ls st (sI h K i j.toNatClampNeg x) ce sl := rfl
theorem zr_bast : z_stp l G d MC MS own A T (.bastore, n, a, b, z) ls st h ce sl k = pI st fun x st => pI st fun j st => pO st fun K i st => aCod K = 2 ∧ vp_in j (aLen K) ∧ (x = 0 ∨ x = 1) ∧ k ls st (sI h K i j.toNatClampNeg x) ce sl := rfl
theorem zr_last : z_stp l G d MC MS own A T (.lastore, n, a, b, z) ls st h ce sl k = pL st fun x st => pI st fun j st => pO st fun K i st => aCod K = 1 ∧ vp_in j (aLen K) ∧ k ls st (sL h K i j.toNatClampNeg x) ce sl := rfl
theorem zr_cast {v : Nat} : z_stp l G d MC MS own A T (.checkcast v, n, a, b, z) ls st h ce sl k = pO st fun K i st => K = a ∧ k ls (z_r K i :: st) h ce sl := rfl
theorem zr_iret : z_stp l G d MC MS own A T (.ireturn, n, a, b, z) ls st h ce sl k = pI st fun x st => st = [] ∧ T (some (z_i x)) h ce sl := rfl
theorem zr_lret : z_stp l G d MC MS own A T (.lreturn, n, a, b, z) ls st h ce sl k = pL st fun x st => st = [] ∧ T (some (z_l x)) h ce sl := rfl
theorem zr_aret : z_stp l G d MC MS own A T (.areturn, n, a, b, z) ls st h ce sl k = pR st fun x st => st = [] ∧ T (some (z_q x)) h ce sl := rfl
theorem zr_ret : z_stp l G d MC MS own A T (.return_, n, a, b, z) ls st h ce sl k = (st = [] ∧ T none h ce sl) := rfl
theorem zr_call0 {v : Nat} : z_stp l G d MC MS own A T (.invokevirtual v, n, a, 0, z) ls st h ce sl k = pA a st [] fun as st => z_w st ≤ 8 ∧ z_CP l G d MC MS own v 0 as h ce sl fun r h ce sl => k ls (r.toList ++ st) h ce sl := rfl
theorem zr_call1 {v : Nat} : z_stp l G d MC MS own A T (.invokestatic v, n, a, 0, z) ls st h ce sl k = pA a st [] fun as st => z_w st ≤ 8 ∧ z_CP l G d MC MS own v 1 as h ce sl fun r h ce sl => k ls (r.toList ++ st) h ce sl := rfl
theorem zr_call2 {v : Nat} : z_stp l G d MC MS own A T (.invokespecial v, n, a, 0, z) ls st h ce sl k = pA a st [] fun as st => z_w st ≤ 8 ∧ z_CP l G d MC MS own v 2 as h ce sl fun r h ce sl => k ls (r.toList ++ st) h ce sl := rfl
theorem zr_obj {v : Nat} : z_stp l G d MC MS own A T (.invokespecial v, n, a, 7, z) ls st h ce sl k = pO st fun _ _ st => 1 ≤ d ∧ z_w st ≤ 8 ∧ k ls st h ce sl := rfl
theorem zr_lsize {v : Nat} : z_stp l G d MC MS own A T (.invokevirtual v, n, a, 1, z) ls st h ce sl k = pO st fun K i st => 1 ≤ d ∧ z_w st ≤ 8 ∧ ce ≤ MC ∧ sl ≤ MS ∧ z_lst K = true ∧ k ls (z_i (nI (hZ h K i)) :: st) h ce sl := rfl
theorem zr_lget {v : Nat} : z_stp l G d MC MS own A T (.invokevirtual v, n, a, 2, z) ls st h ce sl k = pI st fun j st => pO st fun K i st => 4 ≤ d ∧ z_w st ≤ 8 ∧ ce ≤ MC ∧ sl ≤ MS ∧ z_lst K = true ∧ K ≠ 207 ∧ hZ h K i < 100000 ∧ vp_in j (hZ h K i) ∧ k ls (z_r (lT K) j.toNatClampNeg :: st) h ce sl := rfl
theorem zr_lapp {v : Nat} : z_stp l G d MC MS own A T (.invokevirtual v, n, a, 3, z) ls st h ce sl k = pO st fun K' i' st => pO st fun K i st => 8 ≤ d ∧ z_w st ≤ 8 ∧ z_lst K = true ∧ K ≠ 207 ∧ K' = lT K ∧ i' = hZ h K i ∧ hZ h K i < 100000 ∧ ce + z_gc (hZ h K i) ≤ MC ∧ sl + z_gs (hZ h K i) ≤ MS ∧ k ls (z_i 1 :: st) (sZ h K i (hZ h K i + 1)) (ce + z_gc (hZ h K i)) (sl + z_gs (hZ h K i)) := rfl
theorem zr_bget {v : Nat} : z_stp l G d MC MS own A T (.invokevirtual v, n, a, 11, z) ls st h ce sl k = pI st fun j st => pO st fun K i st => 4 ≤ d ∧ z_w st ≤ 8 ∧ ce ≤ MC ∧ sl ≤ MS ∧ K = 207 ∧ hZ h 207 i < 100000 ∧ vp_in j (hZ h 207 i) ∧ k ls (z_i (hI h 207 i j.toNatClampNeg) :: st) h ce sl := rfl
theorem zr_badd {v : Nat} : z_stp l G d MC MS own A T (.invokestatic v, n, a, 10, z) ls st h ce sl k = pI st fun x st => pO st fun K i st => 8 ≤ d ∧ z_w st ≤ 7 ∧ K = 207 ∧ hZ h 207 i < 100000 ∧ ce + 1 + z_gc (hZ h 207 i) ≤ MC ∧ sl + 1 + z_gs (hZ h 207 i) ≤ MS ∧ ∀ nb, k ls (z_i 1 :: st) (sN (sI (sZ h 207 i (hZ h 207 i + 1)) 207 i (hZ h 207 i) x) 1300 nb) (ce + 1 + z_gc (hZ h 207 i)) (sl + 1 + z_gs (hZ h 207 i)) := rfl
theorem zr_acpy {v : Nat} : z_stp l G d MC MS own A T (.invokestatic v, n, a, 6, z) ls st h ce sl k = pI st fun n st => pI st fun dp st => pO st fun K2 i2 st => pI st fun sp st => pO st fun K1 i1 st => 1 ≤ d ∧ z_w st ≤ 8 ∧ K1 = 100 ∧ K2 = 100 ∧ ¬ sp < 0 ∧ ¬ dp < 0 ∧ ¬ n < 0 ∧ sp.toNatClampNeg + n.toNatClampNeg ≤ 60 ∧ dp.toNatClampNeg + n.toNatClampNeg ≤ 60 ∧ k ls st (z_cpy h i1 sp.toNatClampNeg i2 dp.toNatClampNeg n.toNatClampNeg) ce sl := rfl
theorem zr_eI {x : Int32} {f : Int32 → Prop} : eI (some (z_i x)) f = f x := rfl
theorem zr_eL {x : Int64} {f : Int64 → Prop} : eL (some (z_l x)) f = f x := rfl
theorem zr_eR {x : Option (Nat × Nat)} {f : Option (Nat × Nat) → Prop} : eR (some (z_q x)) f = f x := rfl
theorem zr_pI {x : Int32} {f : Int32 → z_S → Prop} : pI (z_i x :: st) f = f x st := rfl
theorem zr_pL {x : Int64} {f : Int64 → z_S → Prop} : pL (z_l x :: st) f = f x st := rfl
theorem zr_pR {x : Option (Nat × Nat)} {f : Option (Nat × Nat) → z_S → Prop} : pR (z_q x :: st) f = f x st := rfl
theorem zr_pO {K i : Nat} {f : Nat → Nat → z_S → Prop} : pO (z_r K i :: st) f = f K i st := rfl
theorem zr_pV {x : z_V} {f : z_V → z_S → Prop} : pV (x :: st) f = f x st := rfl
theorem zr_pA0 {as : List z_V} {f : List z_V → z_S → Prop} : pA 0 st as f = f as st := rfl
theorem zr_pA {x : z_V} {as : List z_V} {f : List z_V → z_S → Prop} : pA (n + 1) (x :: st) as f = pA n st (x :: as) f := rfl
theorem zr_get {q : Nat × z_V} {i : Nat} : z_get (q :: ls) i = (if q.1 = i then some q.2 else z_get ls i) := rfl
theorem zr_put_n {i : Nat} {v : z_V} : z_put [] i v = [(i, v)] := rfl
theorem zr_put {q : Nat × z_V} {i : Nat} {v : z_V} : z_put (q :: ls) i v = (if q.1 = i then (i, v) :: z_rem ls i (z_cat v) else if (z_cat v = 2 ∧ q.1 = i + 1) ∨ (q.1 + 1 = i ∧ z_cat q.2 = 2) then z_put ls i v else q :: z_put ls i v) := rfl
theorem zr_rem_n {i c : Nat} : z_rem [] i c = [] := rfl
theorem zr_rem {q : Nat × z_V} {i c : Nat} : z_rem (q :: ls) i c = (if q.1 = i ∨ (c = 2 ∧ q.1 = i + 1) ∨ (q.1 + 1 = i ∧ z_cat q.2 = 2) then z_rem ls i c else q :: z_rem ls i c) := rfl
theorem zr_cat_i {x : Int32} : z_cat (z_i x) = 1 := rfl
theorem zr_cat_l {x : Int64} : z_cat (z_l x) = 2 := rfl
theorem zr_cat_q {x : Option (Nat × Nat)} : z_cat (z_q x) = 1 := rfl
theorem zr_w_n : z_w [] = 0 := rfl
theorem zr_w {x : z_V} : z_w (x :: st) = z_cat x + z_w st := rfl
theorem zr_cP_eq {x y : Int32} : z_cP .eq x y = (x = y) := rfl
theorem zr_cP_ne {x y : Int32} : z_cP .ne x y = (¬ x = y) := rfl
theorem zr_cP_lt {x y : Int32} : z_cP .lt x y = (x < y) := rfl
theorem zr_cP_ge {x y : Int32} : z_cP .ge x y = (y ≤ x) := rfl
theorem zr_cP_gt {x y : Int32} : z_cP .gt x y = (y < x) := rfl
theorem zr_cP_le {x y : Int32} : z_cP .le x y = (x ≤ y) := rfl
theorem zr_args_n : z_args n [] = [] := rfl
theorem zr_args {x : z_V} : z_args n (x :: st) = (n, x) :: z_args (n + z_cat x) st := rfl
theorem zr_T {rt : Option FieldType} {Q : Option z_V → z_H → Prop} {r : Option z_V} : z_T rt MC MS Q r h ce sl = (ce ≤ MC ∧ sl ≤ MS ∧ z_rt rt r ∧ Q r h) := rfl
theorem zr_rt_i {x : Int32} : z_rt (some .int) (some (z_i x)) = True := rfl
theorem zr_rt_z {x : Int32} : z_rt (some .boolean) (some (z_i x)) = (x = 0 ∨ x = 1) := rfl
theorem zr_rt_l {x : Int64} : z_rt (some .long) (some (z_l x)) = True := rfl
theorem zr_rt_a {x : Option (Nat × Nat)} {c : String} : z_rt (some (.object c)) (some (z_q x)) = True := rfl
theorem zr_rt_n : z_rt none none = True := rfl
theorem zr_tl_s {x : z_V} : (some x : Option z_V).toList ++ st = x :: st := rfl
theorem zr_tl_n : (none : Option z_V).toList ++ st = st := rfl
theorem zr_f0 : (((0 : Fin 4) : Nat)) = 0 := rfl
theorem zr_f1 : (((1 : Fin 4) : Nat)) = 1 := rfl
theorem zr_f2 : (((2 : Fin 4) : Nat)) = 2 := rfl
theorem zr_f3 : (((3 : Fin 4) : Nat)) = 3 := rfl
theorem zr_g0 : (((0 : Fin 2) : Nat)) = 0 := rfl
theorem zr_g1 : (((1 : Fin 2) : Nat)) = 1 := rfl
theorem zr_hIsL {K i k : Nat} {v : Int64} : hI (sL h K i k v) = hI h := rfl
theorem zr_hIsR {K i k : Nat} {v : Option (Nat × Nat)} : hI (sR h K i k v) = hI h := rfl
theorem zr_hIsZ {K i k : Nat} {v : Nat} : hI (sZ h K i v) = hI h := rfl
theorem zr_hIsN {K v : Nat} : hI (sN h K v) = hI h := rfl
theorem zr_hLsI {K i k : Nat} {v : Int32} : hL (sI h K i k v) = hL h := rfl
theorem zr_hLsR {K i k : Nat} {v : Option (Nat × Nat)} : hL (sR h K i k v) = hL h := rfl
theorem zr_hLsZ {K i k : Nat} {v : Nat} : hL (sZ h K i v) = hL h := rfl
theorem zr_hLsN {K v : Nat} : hL (sN h K v) = hL h := rfl
theorem zr_hRsI {K i k : Nat} {v : Int32} : hR (sI h K i k v) = hR h := rfl
theorem zr_hRsL {K i k : Nat} {v : Int64} : hR (sL h K i k v) = hR h := rfl
theorem zr_hRsZ {K i k : Nat} {v : Nat} : hR (sZ h K i v) = hR h := rfl
theorem zr_hRsN {K v : Nat} : hR (sN h K v) = hR h := rfl
theorem zr_hNsI {K i k : Nat} {v : Int32} : hN (sI h K i k v) = hN h := rfl
theorem zr_hNsL {K i k : Nat} {v : Int64} : hN (sL h K i k v) = hN h := rfl
theorem zr_hNsR {K i k : Nat} {v : Option (Nat × Nat)} : hN (sR h K i k v) = hN h := rfl
theorem zr_hNsZ {K i k : Nat} {v : Nat} : hN (sZ h K i v) = hN h := rfl
theorem zr_hZsI {K i k : Nat} {v : Int32} : hZ (sI h K i k v) = hZ h := rfl
theorem zr_hZsL {K i k : Nat} {v : Int64} : hZ (sL h K i k v) = hZ h := rfl
theorem zr_hZsR {K i k : Nat} {v : Option (Nat × Nat)} : hZ (sR h K i k v) = hZ h := rfl
theorem zr_hZsN {K v : Nat} : hZ (sN h K v) = hZ h := rfl
theorem zr_hIsI {K i k K' i' k' : Nat} {v : Int32} : hI (sI h K i k v) K' i' k' = (if K' = K ∧ i' = i ∧ k' = k then v else hI h K' i' k') := rfl
theorem zr_hLsL {K i k K' i' k' : Nat} {v : Int64} : hL (sL h K i k v) K' i' k' = (if K' = K ∧ i' = i ∧ k' = k then v else hL h K' i' k') := rfl
theorem zr_hRsR {K i k K' i' k' : Nat} {v : Option (Nat × Nat)} : hR (sR h K i k v) K' i' k' = (if K' = K ∧ i' = i ∧ k' = k then v else hR h K' i' k') := rfl
theorem zr_hZsZ {K i K' i' v : Nat} : hZ (sZ h K i v) K' i' = (if K' = K ∧ i' = i then v else hZ h K' i') := rfl
theorem zr_hNsN {K v K' : Nat} : hN (sN h K v) K' = (if K' = K then v else hN h K') := rfl
theorem zr_hInw {K K' i' k' : Nat} : hI (z_nw h K) K' i' k' = (if K' = K ∧ i' = hN h K then 0 else hI h K' i' k') := rfl
theorem zr_hLnw {K K' i' k' : Nat} : hL (z_nw h K) K' i' k' = (if K' = K ∧ i' = hN h K then 0 else hL h K' i' k') := rfl
theorem zr_hRnw {K K' i' k' : Nat} : hR (z_nw h K) K' i' k' = (if K' = K ∧ i' = hN h K then none else hR h K' i' k') := rfl
theorem zr_hNnw {K K' : Nat} : hN (z_nw h K) K' = (if K' = K then hN h K + 1 else hN h K') := rfl
theorem zr_hZnw {K K' i' : Nat} : hZ (z_nw h K) K' i' = (if K' = K ∧ i' = hN h K then 0 else hZ h K' i') := rfl
end ZR
end
section
/-! the abstract state: the model's part of the heap; helpers -/
abbrev z_M : Type := (Nat → Nat → Int32) × (Nat → Nat → Int64) × (Nat → Int32) × (Nat → Int64)
def mA (S : z_M) : Nat → Nat → Int32 := S.1
def mB (S : z_M) : Nat → Nat → Int64 := S.2.1
def mS (S : z_M) : Nat → Int32 := S.2.2.1
def mT (S : z_M) : Nat → Int64 := S.2.2.2
def uA (S : z_M) (k j : Nat) (v : Int32) : z_M := (z_u2 S.1 k j v, S.2)
def uB (S : z_M) (k j : Nat) (v : Int64) : z_M := (S.1, z_u2 S.2.1 k j v, S.2.2)
def uS (S : z_M) (k : Nat) (v : Int32) : z_M := (S.1, S.2.1, z_u1 S.2.2.1 k v, S.2.2.2)
def uT (S : z_M) (k : Nat) (v : Int64) : z_M := (S.1, S.2.1, S.2.2.1, z_u1 S.2.2.2 k v)
def mv (h : z_H) : z_M := (fun k j => hI h (300 + k) 0 j, fun k j => if k = 4 then 0 else hL h (300 + k) 0 j, fun k => if k = 0 then 0 else hI h 14 0 k, fun k => hL h 14 0 k)
section MV
variable {S : z_M} {h : z_H} {k j k' j' K i : Nat} {v : Int32} {x : Int64}
theorem mA_mv : mA (mv h) k j = hI h (300 + k) 0 j := rfl
theorem mB_mv : mB (mv h) k j = if k = 4 then 0 else hL h (300 + k) 0 j := rfl
theorem mT_mv : mT (mv h) k = hL h 14 0 k := rfl
theorem mS_mv : mS (mv h) k = if k = 0 then 0 else hI h 14 0 k := rfl
theorem mA_uA : mA (uA S k j v) k' j' = if k' = k ∧ j' = j then v else mA S k' j' := rfl
theorem mB_uB : mB (uB S k j x) k' j' = if k' = k ∧ j' = j then x else mB S k' j' := rfl
theorem mS_uS : mS (uS S k v) k' = if k' = k then v else mS S k' := rfl
theorem mT_uT : mT (uT S k x) k' = if k' = k then x else mT S k' := rfl
theorem mA_uB : mA (uB S k j x) = mA S := rfl
theorem mA_uS : mA (uS S k v) = mA S := rfl
theorem mA_uT : mA (uT S k x) = mA S := rfl
theorem mB_uA : mB (uA S k j v) = mB S := rfl
theorem mB_uS : mB (uS S k v) = mB S := rfl
theorem mB_uT : mB (uT S k x) = mB S := rfl
theorem mS_uA : mS (uA S k j v) = mS S := rfl
theorem mS_uB : mS (uB S k j x) = mS S := rfl
theorem mS_uT : mS (uT S k x) = mS S := rfl
theorem mT_uA : mT (uA S k j v) = mT S := rfl
theorem mT_uB : mT (uB S k j x) = mT S := rfl
theorem mT_uS : mT (uS S k v) = mT S := rfl
theorem z_M_ext {S S' : z_M} (h1 : ∀ k j, mA S k j = mA S' k j) (h2 : ∀ k j, mB S k j = mB S' k j) (h3 : ∀ k, mS S k = mS S' k) (h4 : ∀ k, mT S k = mT S' k) : S = S' := by
  obtain ⟨a, b, c, d⟩ := S
  obtain ⟨a', b', c', d'⟩ := S'
  have e1 : a = a' := funext fun k => funext fun j => h1 k j
  have e2 : b = b' := funext fun k => funext fun j => h2 k j
  have e3 : c = c' := funext fun k => h3 k
  have e4 : d = d' := funext fun k => h4 k
  rw [e1, e2, e3, e4]
theorem mv_thr : mv (sI h 14 0 0 v) = mv h := by
  refine z_M_ext (fun k j => ?_) (fun k j => rfl) (fun k => ?_) (fun k => rfl)
  · rw [mA_mv, mA_mv, zr_hIsI, if_neg (by omega)]
  · rw [mS_mv, mS_mv, zr_hIsI]
    by_cases e : k = 0
    · rw [if_pos e, if_pos e]
    · rw [if_neg e, if_neg e, if_neg (fun q => e q.2.2)]
theorem mv_sIs (hk : k ≠ 0) : mv (sI h 14 0 k v) = uS (mv h) k v := by
  refine z_M_ext (fun k j => ?_) (fun k j => rfl) (fun k' => ?_) (fun k => rfl)
  · rw [mA_mv, mA_uS, mA_mv, zr_hIsI, if_neg (by omega)]
  · rw [mS_mv, mS_uS, mS_mv, zr_hIsI]
    by_cases e : k' = k
    · subst e
      rw [if_neg hk, if_pos ⟨rfl, rfl, rfl⟩, if_pos rfl]
    · rw [if_neg (show ¬ (14 = 14 ∧ 0 = 0 ∧ k' = k) from fun q => e q.2.2), if_neg e]
theorem mv_sIa (hK : 300 ≤ K) : mv (sI h K 0 j v) = uA (mv h) (K - 300) j v := by
  refine z_M_ext (fun k' j' => ?_) (fun k j => rfl) (fun k' => ?_) (fun k => rfl)
  · rw [mA_mv, mA_uA, mA_mv, zr_hIsI]
    by_cases e : k' = K - 300 ∧ j' = j
    · rw [if_pos e, if_pos ⟨by omega, rfl, e.2⟩]
    · rw [if_neg e, if_neg (fun q => e ⟨by omega, q.2.2⟩)]
  · rw [mS_mv, mS_uA, mS_mv, zr_hIsI, if_neg (show ¬ (14 = K ∧ 0 = 0 ∧ k' = j) by omega)]
theorem mv_sLs : mv (sL h 14 0 k x) = uT (mv h) k x := by
  refine z_M_ext (fun k j => rfl) (fun k j => ?_) (fun k' => rfl) (fun k' => ?_)
  · rw [mB_mv, mB_uT, mB_mv, zr_hLsL, if_neg (show ¬ (300 + k = 14 ∧ 0 = 0 ∧ _) by omega)]
  · rw [mT_mv, mT_uT, mT_mv, zr_hLsL]
    by_cases e : k' = k
    · rw [if_pos e, if_pos ⟨rfl, rfl, e⟩]
    · rw [if_neg e, if_neg (fun q => e q.2.2)]
theorem mv_sLa (hK : 300 ≤ K) (h4 : K ≠ 304) : mv (sL h K 0 j x) = uB (mv h) (K - 300) j x := by
  refine z_M_ext (fun k' j' => rfl) (fun k' j' => ?_) (fun k' => rfl) (fun k' => ?_)
  · rw [mB_mv, mB_uB, mB_mv, zr_hLsL]
    by_cases q : k' = 4
    · rw [if_pos q, if_neg (fun z => h4 (by omega)), if_pos q]
    · rw [if_neg q, if_neg q]
      by_cases e : k' = K - 300 ∧ j' = j
      · rw [if_pos e, if_pos ⟨by omega, rfl, e.2⟩]
      · rw [if_neg e, if_neg (fun q => e ⟨by omega, q.2.2⟩)]
  · rw [mT_mv, mT_uB, mT_mv, zr_hLsL, if_neg (show ¬ (14 = K ∧ 0 = 0 ∧ k' = j) by omega)]
theorem mv_moved : mv (sL h 304 0 j x) = mv h := by
  refine z_M_ext (fun k' j' => rfl) (fun k' j' => ?_) (fun k' => rfl) (fun k' => ?_)
  · rw [mB_mv, mB_mv, zr_hLsL]
    by_cases q : k' = 4
    · rw [if_pos q, if_pos q]
    · rw [if_neg q, if_neg q, if_neg (fun z => q (by omega))]
  · rw [mT_mv, mT_mv, zr_hLsL, if_neg (show ¬ (14 = 304 ∧ 0 = 0 ∧ k' = j) by omega)]
theorem mv_sIc (hK : K < 300 ∧ K ≠ 14) : mv (sI h K i j v) = mv h := by
  refine z_M_ext (fun k' j' => ?_) (fun k j => rfl) (fun k' => ?_) (fun k => rfl)
  · rw [mA_mv, mA_mv, zr_hIsI, if_neg (show ¬ (300 + k' = K ∧ 0 = i ∧ j' = j) by omega)]
  · rw [mS_mv, mS_mv, zr_hIsI, if_neg (show ¬ (14 = K ∧ 0 = i ∧ k' = j) by omega)]
theorem mv_sLc (hK : K < 300 ∧ K ≠ 14) : mv (sL h K i j x) = mv h := by
  refine z_M_ext (fun k' j' => rfl) (fun k' j' => ?_) (fun k' => rfl) (fun k' => ?_)
  · rw [mB_mv, mB_mv, zr_hLsL, if_neg (show ¬ (300 + k' = K ∧ 0 = i ∧ j' = j) by omega)]
  · rw [mT_mv, mT_mv, zr_hLsL, if_neg (show ¬ (14 = K ∧ 0 = i ∧ k' = j) by omega)]
theorem mv_sR {q : Option (Nat × Nat)} : mv (sR h K i j q) = mv h := rfl
theorem mv_sZ {n : Nat} : mv (sZ h K i n) = mv h := rfl
theorem mv_sN {n : Nat} : mv (sN h K n) = mv h := rfl
theorem mv_nw (hK : K < 300 ∧ K ≠ 14) : mv (z_nw h K) = mv h := by
  refine z_M_ext (fun k' j' => ?_) (fun k' j' => ?_) (fun k' => ?_) (fun k' => ?_)
  · rw [mA_mv, mA_mv, zr_hInw, if_neg (show ¬ (300 + k' = K ∧ 0 = hN h K) by omega)]
  · rw [mB_mv, mB_mv, zr_hLnw, if_neg (show ¬ (300 + k' = K ∧ 0 = hN h K) by omega)]
  · rw [mS_mv, mS_mv, zr_hInw, if_neg (show ¬ (14 = K ∧ 0 = hN h K) by omega)]
  · rw [mT_mv, mT_mv, zr_hLnw, if_neg (show ¬ (14 = K ∧ 0 = hN h K) by omega)]
end MV
/-- the class's part of the heap is as it was -/
def z_sC (h h' : z_H) : Prop := (∀ K, K < 300 → K ≠ 14 → hI h' K = hI h K ∧ hL h' K = hL h K ∧ hR h' K = hR h K) ∧ hZ h' = hZ h ∧ hN h' = hN h
theorem z_sC.rf {h : z_H} : z_sC h h := ⟨fun _ _ _ => ⟨rfl, rfl, rfl⟩, rfl, rfl⟩
theorem z_sC.tr {h h1 h2 : z_H} (a : z_sC h h1) (b : z_sC h1 h2) : z_sC h h2 := ⟨fun K h1 h2 => ⟨(b.1 K h1 h2).1.trans (a.1 K h1 h2).1, (b.1 K h1 h2).2.1.trans (a.1 K h1 h2).2.1, (b.1 K h1 h2).2.2.trans (a.1 K h1 h2).2.2⟩, b.2.1.trans a.2.1, b.2.2.trans a.2.2⟩
theorem z_sC.I {h h1 : z_H} (a : z_sC h h1) {K i j : Nat} {v : Int32} (hK : 300 ≤ K ∨ K = 14) : z_sC h (sI h1 K i j v) := a.tr ⟨fun K' h1 h2 => ⟨by funext i' k'; rw [zr_hIsI, if_neg (by omega)], rfl, rfl⟩, rfl, rfl⟩
theorem z_sC.L {h h1 : z_H} (a : z_sC h h1) {K i j : Nat} {v : Int64} (hK : 300 ≤ K ∨ K = 14) : z_sC h (sL h1 K i j v) := a.tr ⟨fun K' h1 h2 => ⟨rfl, by funext i' k'; rw [zr_hLsL, if_neg (by omega)], rfl⟩, rfl, rfl⟩
/-- where the model's arrays are -/
def mR (k : Nat) : Option (Nat × Nat) := if aLen (300 + k) = 0 then none else some (300 + k, 0)
def z_MR (h : z_H) : Prop := hR h 14 0 = mR
theorem mR_a {k : Nat} (h : aLen (300 + k) ≠ 0) : mR k = some (300 + k, 0) := if_neg h
/-- a truth as the machine has it -/
def b2 (c : Prop) [Decidable c] : Int32 := if c then 1 else 0
theorem b2_0 {c : Prop} [Decidable c] : (b2 c = 0) = ¬ c := by
  unfold b2
  by_cases h : c
  · rw [if_pos h]; exact propext ⟨fun q => absurd q (by decide), fun q => absurd h q⟩
  · rw [if_neg h]; exact propext ⟨fun _ => h, fun _ => rfl⟩
theorem b2_01 {c : Prop} [Decidable c] : (b2 c = 0 ∨ b2 c = 1) = True := by
  unfold b2
  by_cases h : c
  · rw [if_pos h]; exact eq_true (Or.inr rfl)
  · rw [if_neg h]; exact eq_true (Or.inl rfl)
theorem b2_t {c : Prop} [Decidable c] (h : c) : b2 c = 1 := if_pos h
theorem b2_f {c : Prop} [Decidable c] (h : ¬ c) : b2 c = 0 := if_neg h
theorem b2_c {c d : Prop} [Decidable c] [Decidable d] (h : c ↔ d) : b2 c = b2 d := by
  by_cases q : c
  · rw [b2_t q, b2_t (h.mp q)]
  · rw [b2_f q, b2_f (fun z => q (h.mpr z))]
theorem ix_of {x : Int32} {n : Nat} (h : 0 ≤ x.toInt ∧ x.toInt < n) : ∃ j : Nat, j < n ∧ x = nI j := by
  obtain ⟨j, h1, h2⟩ := nI_of (x := x) (fun q => by rw [Int32.lt_iff_toInt_lt] at q; have : (0 : Int32).toInt = 0 := rfl; omega)
  refine ⟨j, ?_, h2⟩
  rw [h2, nI_toInt h1] at h
  omega
theorem i32_pred {n : Nat} (h : n < 2 ^ 31) : (nI n - 1).toInt = (n : Int) - 1 := by
  cases n with
  | zero => rfl
  | succ n =>
    rw [nI_pred, nI_toInt (by omega)]
    omega
/-! calls without an effect -/
theorem cp0 {l : Launch} {G : z_G} {d MC MS : Nat} {own : String} {idx kd : Nat} {as : List z_V} {h : z_H} {ce sl : Nat} {k : Option z_V → z_H → Nat → Nat → Prop} {y : MethodName} {cc : ByteArray} {mL : Nat} {rt : Option FieldType} {v : Option z_V} (hd : 1 ≤ d) (hck : z_ck own idx kd y cc mL rt as.length) (hrc : z_rcv kd y as)
    (hM : z_MT l G (d - 1) y cc mL rt as h 0 0 (fun r h' => r = v ∧ h' = h)) (hc : ce ≤ MC) (hs : sl ≤ MS) (hk : k v h ce sl) : z_CP l G d MC MS own idx kd as h ce sl k :=
  ⟨hd, Or.inl ⟨y, cc, mL, rt, 0, 0, _, hck, hrc, hM, hc, hs, fun r h' q => by rw [q.1, q.2]; exact hk⟩⟩
theorem cpx {l : Launch} {G : z_G} {d MC MS : Nat} {own : String} {idx kd : Nat} {as : List z_V} {h : z_H} {ce sl : Nat} {k : Option z_V → z_H → Nat → Nat → Prop} {y : MethodName} {cc : ByteArray} {mL : Nat} {rt : Option FieldType} {mc ms : Nat} {Q : Option z_V → z_H → Prop} (hd : 1 ≤ d) (hck : z_ck own idx kd y cc mL rt as.length) (hrc : z_rcv kd y as)
    (hM : z_MT l G (d - 1) y cc mL rt as h mc ms Q) (hc : ce + mc ≤ MC) (hs : sl + ms ≤ MS) (hk : ∀ r h', Q r h' → k r h' (ce + mc) (sl + ms)) : z_CP l G d MC MS own idx kd as h ce sl k :=
  ⟨hd, Or.inl ⟨y, cc, mL, rt, mc, ms, Q, hck, hrc, hM, hc, hs, hk⟩⟩
/-! the model's fields and arrays, read as the abstract state -/
theorem ma_1 {S : z_M} {h : z_H} (e : mv h = S) (j : Nat) : hI h 301 0 j = mA S 1 j := by rw [← e]; rfl
theorem mx_1 {h : z_H} {j : Nat} {v : Int32} : mv (sI h 301 0 j v) = uA (mv h) 1 j v := mv_sIa (by decide)
theorem ma_2 {S : z_M} {h : z_H} (e : mv h = S) (j : Nat) : hI h 302 0 j = mA S 2 j := by rw [← e]; rfl
theorem mx_2 {h : z_H} {j : Nat} {v : Int32} : mv (sI h 302 0 j v) = uA (mv h) 2 j v := mv_sIa (by decide)
theorem mb_3 {S : z_M} {h : z_H} (e : mv h = S) (j : Nat) : hL h 303 0 j = mB S 3 j := by rw [← e]; rfl
theorem my_3 {h : z_H} {j : Nat} {v : Int64} : mv (sL h 303 0 j v) = uB (mv h) 3 j v := mv_sLa (by decide) (by decide)
theorem ms_5 {S : z_M} {h : z_H} (e : mv h = S) : hI h 14 0 5 = mS S 5 := by rw [← e]; rfl
theorem mw_5 {h : z_H} {v : Int32} : mv (sI h 14 0 5 v) = uS (mv h) 5 v := mv_sIs (by decide)
theorem ms_6 {S : z_M} {h : z_H} (e : mv h = S) : hI h 14 0 6 = mS S 6 := by rw [← e]; rfl
theorem mw_6 {h : z_H} {v : Int32} : mv (sI h 14 0 6 v) = uS (mv h) 6 v := mv_sIs (by decide)
theorem ms_7 {S : z_M} {h : z_H} (e : mv h = S) : hI h 14 0 7 = mS S 7 := by rw [← e]; rfl
theorem mw_7 {h : z_H} {v : Int32} : mv (sI h 14 0 7 v) = uS (mv h) 7 v := mv_sIs (by decide)
theorem ms_8 {S : z_M} {h : z_H} (e : mv h = S) : hI h 14 0 8 = mS S 8 := by rw [← e]; rfl
theorem mw_8 {h : z_H} {v : Int32} : mv (sI h 14 0 8 v) = uS (mv h) 8 v := mv_sIs (by decide)
theorem ms_9 {S : z_M} {h : z_H} (e : mv h = S) : hI h 14 0 9 = mS S 9 := by rw [← e]; rfl
theorem mw_9 {h : z_H} {v : Int32} : mv (sI h 14 0 9 v) = uS (mv h) 9 v := mv_sIs (by decide)
theorem ms_10 {S : z_M} {h : z_H} (e : mv h = S) : hI h 14 0 10 = mS S 10 := by rw [← e]; rfl
theorem mw_10 {h : z_H} {v : Int32} : mv (sI h 14 0 10 v) = uS (mv h) 10 v := mv_sIs (by decide)
theorem ms_11 {S : z_M} {h : z_H} (e : mv h = S) : hI h 14 0 11 = mS S 11 := by rw [← e]; rfl
theorem mw_11 {h : z_H} {v : Int32} : mv (sI h 14 0 11 v) = uS (mv h) 11 v := mv_sIs (by decide)
theorem ms_12 {S : z_M} {h : z_H} (e : mv h = S) : hI h 14 0 12 = mS S 12 := by rw [← e]; rfl
theorem mw_12 {h : z_H} {v : Int32} : mv (sI h 14 0 12 v) = uS (mv h) 12 v := mv_sIs (by decide)
theorem ms_13 {S : z_M} {h : z_H} (e : mv h = S) : hI h 14 0 13 = mS S 13 := by rw [← e]; rfl
theorem mw_13 {h : z_H} {v : Int32} : mv (sI h 14 0 13 v) = uS (mv h) 13 v := mv_sIs (by decide)
theorem ms_14 {S : z_M} {h : z_H} (e : mv h = S) : hI h 14 0 14 = mS S 14 := by rw [← e]; rfl
theorem mw_14 {h : z_H} {v : Int32} : mv (sI h 14 0 14 v) = uS (mv h) 14 v := mv_sIs (by decide)
theorem ms_15 {S : z_M} {h : z_H} (e : mv h = S) : hI h 14 0 15 = mS S 15 := by rw [← e]; rfl
theorem mw_15 {h : z_H} {v : Int32} : mv (sI h 14 0 15 v) = uS (mv h) 15 v := mv_sIs (by decide)
theorem ms_16 {S : z_M} {h : z_H} (e : mv h = S) : hI h 14 0 16 = mS S 16 := by rw [← e]; rfl
theorem mw_16 {h : z_H} {v : Int32} : mv (sI h 14 0 16 v) = uS (mv h) 16 v := mv_sIs (by decide)
theorem ms_17 {S : z_M} {h : z_H} (e : mv h = S) : hI h 14 0 17 = mS S 17 := by rw [← e]; rfl
theorem mw_17 {h : z_H} {v : Int32} : mv (sI h 14 0 17 v) = uS (mv h) 17 v := mv_sIs (by decide)
theorem ms_18 {S : z_M} {h : z_H} (e : mv h = S) : hI h 14 0 18 = mS S 18 := by rw [← e]; rfl
theorem mw_18 {h : z_H} {v : Int32} : mv (sI h 14 0 18 v) = uS (mv h) 18 v := mv_sIs (by decide)
theorem ms_19 {S : z_M} {h : z_H} (e : mv h = S) : hI h 14 0 19 = mS S 19 := by rw [← e]; rfl
theorem mw_19 {h : z_H} {v : Int32} : mv (sI h 14 0 19 v) = uS (mv h) 19 v := mv_sIs (by decide)
theorem ms_20 {S : z_M} {h : z_H} (e : mv h = S) : hI h 14 0 20 = mS S 20 := by rw [← e]; rfl
theorem mw_20 {h : z_H} {v : Int32} : mv (sI h 14 0 20 v) = uS (mv h) 20 v := mv_sIs (by decide)
theorem ms_21 {S : z_M} {h : z_H} (e : mv h = S) : hI h 14 0 21 = mS S 21 := by rw [← e]; rfl
theorem mw_21 {h : z_H} {v : Int32} : mv (sI h 14 0 21 v) = uS (mv h) 21 v := mv_sIs (by decide)
theorem ma_22 {S : z_M} {h : z_H} (e : mv h = S) (j : Nat) : hI h 322 0 j = mA S 22 j := by rw [← e]; rfl
theorem mx_22 {h : z_H} {j : Nat} {v : Int32} : mv (sI h 322 0 j v) = uA (mv h) 22 j v := mv_sIa (by decide)
theorem ma_23 {S : z_M} {h : z_H} (e : mv h = S) (j : Nat) : hI h 323 0 j = mA S 23 j := by rw [← e]; rfl
theorem mx_23 {h : z_H} {j : Nat} {v : Int32} : mv (sI h 323 0 j v) = uA (mv h) 23 j v := mv_sIa (by decide)
theorem ma_24 {S : z_M} {h : z_H} (e : mv h = S) (j : Nat) : hI h 324 0 j = mA S 24 j := by rw [← e]; rfl
theorem mx_24 {h : z_H} {j : Nat} {v : Int32} : mv (sI h 324 0 j v) = uA (mv h) 24 j v := mv_sIa (by decide)
theorem mb_25 {S : z_M} {h : z_H} (e : mv h = S) (j : Nat) : hL h 325 0 j = mB S 25 j := by rw [← e]; rfl
theorem my_25 {h : z_H} {j : Nat} {v : Int64} : mv (sL h 325 0 j v) = uB (mv h) 25 j v := mv_sLa (by decide) (by decide)
theorem mb_26 {S : z_M} {h : z_H} (e : mv h = S) (j : Nat) : hL h 326 0 j = mB S 26 j := by rw [← e]; rfl
theorem my_26 {h : z_H} {j : Nat} {v : Int64} : mv (sL h 326 0 j v) = uB (mv h) 26 j v := mv_sLa (by decide) (by decide)
theorem mb_27 {S : z_M} {h : z_H} (e : mv h = S) (j : Nat) : hL h 327 0 j = mB S 27 j := by rw [← e]; rfl
theorem my_27 {h : z_H} {j : Nat} {v : Int64} : mv (sL h 327 0 j v) = uB (mv h) 27 j v := mv_sLa (by decide) (by decide)
theorem ma_28 {S : z_M} {h : z_H} (e : mv h = S) (j : Nat) : hI h 328 0 j = mA S 28 j := by rw [← e]; rfl
theorem mx_28 {h : z_H} {j : Nat} {v : Int32} : mv (sI h 328 0 j v) = uA (mv h) 28 j v := mv_sIa (by decide)
theorem ma_29 {S : z_M} {h : z_H} (e : mv h = S) (j : Nat) : hI h 329 0 j = mA S 29 j := by rw [← e]; rfl
theorem mx_29 {h : z_H} {j : Nat} {v : Int32} : mv (sI h 329 0 j v) = uA (mv h) 29 j v := mv_sIa (by decide)
theorem ma_30 {S : z_M} {h : z_H} (e : mv h = S) (j : Nat) : hI h 330 0 j = mA S 30 j := by rw [← e]; rfl
theorem mx_30 {h : z_H} {j : Nat} {v : Int32} : mv (sI h 330 0 j v) = uA (mv h) 30 j v := mv_sIa (by decide)
theorem ma_31 {S : z_M} {h : z_H} (e : mv h = S) (j : Nat) : hI h 331 0 j = mA S 31 j := by rw [← e]; rfl
theorem mx_31 {h : z_H} {j : Nat} {v : Int32} : mv (sI h 331 0 j v) = uA (mv h) 31 j v := mv_sIa (by decide)
theorem ma_32 {S : z_M} {h : z_H} (e : mv h = S) (j : Nat) : hI h 332 0 j = mA S 32 j := by rw [← e]; rfl
theorem mx_32 {h : z_H} {j : Nat} {v : Int32} : mv (sI h 332 0 j v) = uA (mv h) 32 j v := mv_sIa (by decide)
theorem ma_33 {S : z_M} {h : z_H} (e : mv h = S) (j : Nat) : hI h 333 0 j = mA S 33 j := by rw [← e]; rfl
theorem mx_33 {h : z_H} {j : Nat} {v : Int32} : mv (sI h 333 0 j v) = uA (mv h) 33 j v := mv_sIa (by decide)
theorem ma_34 {S : z_M} {h : z_H} (e : mv h = S) (j : Nat) : hI h 334 0 j = mA S 34 j := by rw [← e]; rfl
theorem mx_34 {h : z_H} {j : Nat} {v : Int32} : mv (sI h 334 0 j v) = uA (mv h) 34 j v := mv_sIa (by decide)
theorem mb_35 {S : z_M} {h : z_H} (e : mv h = S) (j : Nat) : hL h 335 0 j = mB S 35 j := by rw [← e]; rfl
theorem my_35 {h : z_H} {j : Nat} {v : Int64} : mv (sL h 335 0 j v) = uB (mv h) 35 j v := mv_sLa (by decide) (by decide)
theorem mb_36 {S : z_M} {h : z_H} (e : mv h = S) (j : Nat) : hL h 336 0 j = mB S 36 j := by rw [← e]; rfl
theorem my_36 {h : z_H} {j : Nat} {v : Int64} : mv (sL h 336 0 j v) = uB (mv h) 36 j v := mv_sLa (by decide) (by decide)
theorem ma_37 {S : z_M} {h : z_H} (e : mv h = S) (j : Nat) : hI h 337 0 j = mA S 37 j := by rw [← e]; rfl
theorem mx_37 {h : z_H} {j : Nat} {v : Int32} : mv (sI h 337 0 j v) = uA (mv h) 37 j v := mv_sIa (by decide)
theorem ma_38 {S : z_M} {h : z_H} (e : mv h = S) (j : Nat) : hI h 338 0 j = mA S 38 j := by rw [← e]; rfl
theorem mx_38 {h : z_H} {j : Nat} {v : Int32} : mv (sI h 338 0 j v) = uA (mv h) 38 j v := mv_sIa (by decide)
theorem ma_39 {S : z_M} {h : z_H} (e : mv h = S) (j : Nat) : hI h 339 0 j = mA S 39 j := by rw [← e]; rfl
theorem mx_39 {h : z_H} {j : Nat} {v : Int32} : mv (sI h 339 0 j v) = uA (mv h) 39 j v := mv_sIa (by decide)
theorem ma_40 {S : z_M} {h : z_H} (e : mv h = S) (j : Nat) : hI h 340 0 j = mA S 40 j := by rw [← e]; rfl
theorem mx_40 {h : z_H} {j : Nat} {v : Int32} : mv (sI h 340 0 j v) = uA (mv h) 40 j v := mv_sIa (by decide)
theorem ma_41 {S : z_M} {h : z_H} (e : mv h = S) (j : Nat) : hI h 341 0 j = mA S 41 j := by rw [← e]; rfl
theorem mx_41 {h : z_H} {j : Nat} {v : Int32} : mv (sI h 341 0 j v) = uA (mv h) 41 j v := mv_sIa (by decide)
theorem ma_42 {S : z_M} {h : z_H} (e : mv h = S) (j : Nat) : hI h 342 0 j = mA S 42 j := by rw [← e]; rfl
theorem mx_42 {h : z_H} {j : Nat} {v : Int32} : mv (sI h 342 0 j v) = uA (mv h) 42 j v := mv_sIa (by decide)
theorem ma_43 {S : z_M} {h : z_H} (e : mv h = S) (j : Nat) : hI h 343 0 j = mA S 43 j := by rw [← e]; rfl
theorem mx_43 {h : z_H} {j : Nat} {v : Int32} : mv (sI h 343 0 j v) = uA (mv h) 43 j v := mv_sIa (by decide)
theorem ma_44 {S : z_M} {h : z_H} (e : mv h = S) (j : Nat) : hI h 344 0 j = mA S 44 j := by rw [← e]; rfl
theorem mx_44 {h : z_H} {j : Nat} {v : Int32} : mv (sI h 344 0 j v) = uA (mv h) 44 j v := mv_sIa (by decide)
theorem ma_45 {S : z_M} {h : z_H} (e : mv h = S) (j : Nat) : hI h 345 0 j = mA S 45 j := by rw [← e]; rfl
theorem mx_45 {h : z_H} {j : Nat} {v : Int32} : mv (sI h 345 0 j v) = uA (mv h) 45 j v := mv_sIa (by decide)
theorem ma_46 {S : z_M} {h : z_H} (e : mv h = S) (j : Nat) : hI h 346 0 j = mA S 46 j := by rw [← e]; rfl
theorem mx_46 {h : z_H} {j : Nat} {v : Int32} : mv (sI h 346 0 j v) = uA (mv h) 46 j v := mv_sIa (by decide)
theorem mb_47 {S : z_M} {h : z_H} (e : mv h = S) (j : Nat) : hL h 347 0 j = mB S 47 j := by rw [← e]; rfl
theorem my_47 {h : z_H} {j : Nat} {v : Int64} : mv (sL h 347 0 j v) = uB (mv h) 47 j v := mv_sLa (by decide) (by decide)
theorem ma_48 {S : z_M} {h : z_H} (e : mv h = S) (j : Nat) : hI h 348 0 j = mA S 48 j := by rw [← e]; rfl
theorem mx_48 {h : z_H} {j : Nat} {v : Int32} : mv (sI h 348 0 j v) = uA (mv h) 48 j v := mv_sIa (by decide)
theorem ma_49 {S : z_M} {h : z_H} (e : mv h = S) (j : Nat) : hI h 349 0 j = mA S 49 j := by rw [← e]; rfl
theorem mx_49 {h : z_H} {j : Nat} {v : Int32} : mv (sI h 349 0 j v) = uA (mv h) 49 j v := mv_sIa (by decide)
theorem ma_50 {S : z_M} {h : z_H} (e : mv h = S) (j : Nat) : hI h 350 0 j = mA S 50 j := by rw [← e]; rfl
theorem mx_50 {h : z_H} {j : Nat} {v : Int32} : mv (sI h 350 0 j v) = uA (mv h) 50 j v := mv_sIa (by decide)
theorem ma_51 {S : z_M} {h : z_H} (e : mv h = S) (j : Nat) : hI h 351 0 j = mA S 51 j := by rw [← e]; rfl
theorem mx_51 {h : z_H} {j : Nat} {v : Int32} : mv (sI h 351 0 j v) = uA (mv h) 51 j v := mv_sIa (by decide)
theorem ma_52 {S : z_M} {h : z_H} (e : mv h = S) (j : Nat) : hI h 352 0 j = mA S 52 j := by rw [← e]; rfl
theorem mx_52 {h : z_H} {j : Nat} {v : Int32} : mv (sI h 352 0 j v) = uA (mv h) 52 j v := mv_sIa (by decide)
theorem ma_53 {S : z_M} {h : z_H} (e : mv h = S) (j : Nat) : hI h 353 0 j = mA S 53 j := by rw [← e]; rfl
theorem mx_53 {h : z_H} {j : Nat} {v : Int32} : mv (sI h 353 0 j v) = uA (mv h) 53 j v := mv_sIa (by decide)
theorem mb_54 {S : z_M} {h : z_H} (e : mv h = S) (j : Nat) : hL h 354 0 j = mB S 54 j := by rw [← e]; rfl
theorem my_54 {h : z_H} {j : Nat} {v : Int64} : mv (sL h 354 0 j v) = uB (mv h) 54 j v := mv_sLa (by decide) (by decide)
theorem ma_55 {S : z_M} {h : z_H} (e : mv h = S) (j : Nat) : hI h 355 0 j = mA S 55 j := by rw [← e]; rfl
theorem mx_55 {h : z_H} {j : Nat} {v : Int32} : mv (sI h 355 0 j v) = uA (mv h) 55 j v := mv_sIa (by decide)
theorem ma_56 {S : z_M} {h : z_H} (e : mv h = S) (j : Nat) : hI h 356 0 j = mA S 56 j := by rw [← e]; rfl
theorem mx_56 {h : z_H} {j : Nat} {v : Int32} : mv (sI h 356 0 j v) = uA (mv h) 56 j v := mv_sIa (by decide)
theorem ma_57 {S : z_M} {h : z_H} (e : mv h = S) (j : Nat) : hI h 357 0 j = mA S 57 j := by rw [← e]; rfl
theorem mx_57 {h : z_H} {j : Nat} {v : Int32} : mv (sI h 357 0 j v) = uA (mv h) 57 j v := mv_sIa (by decide)
theorem ma_58 {S : z_M} {h : z_H} (e : mv h = S) (j : Nat) : hI h 358 0 j = mA S 58 j := by rw [← e]; rfl
theorem mx_58 {h : z_H} {j : Nat} {v : Int32} : mv (sI h 358 0 j v) = uA (mv h) 58 j v := mv_sIa (by decide)
theorem mb_59 {S : z_M} {h : z_H} (e : mv h = S) (j : Nat) : hL h 359 0 j = mB S 59 j := by rw [← e]; rfl
theorem my_59 {h : z_H} {j : Nat} {v : Int64} : mv (sL h 359 0 j v) = uB (mv h) 59 j v := mv_sLa (by decide) (by decide)
theorem ma_60 {S : z_M} {h : z_H} (e : mv h = S) (j : Nat) : hI h 360 0 j = mA S 60 j := by rw [← e]; rfl
theorem mx_60 {h : z_H} {j : Nat} {v : Int32} : mv (sI h 360 0 j v) = uA (mv h) 60 j v := mv_sIa (by decide)
theorem ma_61 {S : z_M} {h : z_H} (e : mv h = S) (j : Nat) : hI h 361 0 j = mA S 61 j := by rw [← e]; rfl
theorem mx_61 {h : z_H} {j : Nat} {v : Int32} : mv (sI h 361 0 j v) = uA (mv h) 61 j v := mv_sIa (by decide)
theorem ms_62 {S : z_M} {h : z_H} (e : mv h = S) : hI h 14 0 62 = mS S 62 := by rw [← e]; rfl
theorem mw_62 {h : z_H} {v : Int32} : mv (sI h 14 0 62 v) = uS (mv h) 62 v := mv_sIs (by decide)
theorem mt_63 {S : z_M} {h : z_H} (e : mv h = S) : hL h 14 0 63 = mT S 63 := by rw [← e]; rfl
theorem mt_64 {S : z_M} {h : z_H} (e : mv h = S) : hL h 14 0 64 = mT S 64 := by rw [← e]; rfl
theorem mt_65 {S : z_M} {h : z_H} (e : mv h = S) : hL h 14 0 65 = mT S 65 := by rw [← e]; rfl
theorem mt_66 {S : z_M} {h : z_H} (e : mv h = S) : hL h 14 0 66 = mT S 66 := by rw [← e]; rfl
theorem mR_1 : mR 1 = some (301, 0) := rfl
theorem aLen_301 : aLen 301 = 4 := rfl
theorem aCod_301 : aCod 301 = 0 := rfl
theorem mR_2 : mR 2 = some (302, 0) := rfl
theorem aLen_302 : aLen 302 = 4 := rfl
theorem aCod_302 : aCod 302 = 0 := rfl
theorem mR_3 : mR 3 = some (303, 0) := rfl
theorem aLen_303 : aLen 303 = 240 := rfl
theorem aCod_303 : aCod 303 = 1 := rfl
theorem mR_4 : mR 4 = some (304, 0) := rfl
theorem aLen_304 : aLen 304 = 60 := rfl
theorem aCod_304 : aCod 304 = 1 := rfl
theorem mR_22 : mR 22 = some (322, 0) := rfl
theorem aLen_322 : aLen 322 = 6 := rfl
theorem aCod_322 : aCod 322 = 0 := rfl
theorem mR_23 : mR 23 = some (323, 0) := rfl
theorem aLen_323 : aLen 323 = 6 := rfl
theorem aCod_323 : aCod 323 = 0 := rfl
theorem mR_24 : mR 24 = some (324, 0) := rfl
theorem aLen_324 : aLen 324 = 6 := rfl
theorem aCod_324 : aCod 324 = 0 := rfl
theorem mR_25 : mR 25 = some (325, 0) := rfl
theorem aLen_325 : aLen 325 = 6 := rfl
theorem aCod_325 : aCod 325 = 1 := rfl
theorem mR_26 : mR 26 = some (326, 0) := rfl
theorem aLen_326 : aLen 326 = 6 := rfl
theorem aCod_326 : aCod 326 = 1 := rfl
theorem mR_27 : mR 27 = some (327, 0) := rfl
theorem aLen_327 : aLen 327 = 24 := rfl
theorem aCod_327 : aCod 327 = 1 := rfl
theorem mR_28 : mR 28 = some (328, 0) := rfl
theorem aLen_328 : aLen 328 = 24 := rfl
theorem aCod_328 : aCod 328 = 0 := rfl
theorem mR_29 : mR 29 = some (329, 0) := rfl
theorem aLen_329 : aLen 329 = 24 := rfl
theorem aCod_329 : aCod 329 = 0 := rfl
theorem mR_30 : mR 30 = some (330, 0) := rfl
theorem aLen_330 : aLen 330 = 200 := rfl
theorem aCod_330 : aCod 330 = 0 := rfl
theorem mR_31 : mR 31 = some (331, 0) := rfl
theorem aLen_331 : aLen 331 = 200 := rfl
theorem aCod_331 : aCod 331 = 0 := rfl
theorem mR_32 : mR 32 = some (332, 0) := rfl
theorem aLen_332 : aLen 332 = 200 := rfl
theorem aCod_332 : aCod 332 = 0 := rfl
theorem mR_33 : mR 33 = some (333, 0) := rfl
theorem aLen_333 : aLen 333 = 200 := rfl
theorem aCod_333 : aCod 333 = 0 := rfl
theorem mR_34 : mR 34 = some (334, 0) := rfl
theorem aLen_334 : aLen 334 = 200 := rfl
theorem aCod_334 : aCod 334 = 0 := rfl
theorem mR_35 : mR 35 = some (335, 0) := rfl
theorem aLen_335 : aLen 335 = 200 := rfl
theorem aCod_335 : aCod 335 = 1 := rfl
theorem mR_36 : mR 36 = some (336, 0) := rfl
theorem aLen_336 : aLen 336 = 200 := rfl
theorem aCod_336 : aCod 336 = 1 := rfl
theorem mR_37 : mR 37 = some (337, 0) := rfl
theorem aLen_337 : aLen 337 = 300 := rfl
theorem aCod_337 : aCod 337 = 0 := rfl
theorem mR_38 : mR 38 = some (338, 0) := rfl
theorem aLen_338 : aLen 338 = 300 := rfl
theorem aCod_338 : aCod 338 = 0 := rfl
theorem mR_39 : mR 39 = some (339, 0) := rfl
theorem aLen_339 : aLen 339 = 300 := rfl
theorem aCod_339 : aCod 339 = 0 := rfl
theorem mR_40 : mR 40 = some (340, 0) := rfl
theorem aLen_340 : aLen 340 = 300 := rfl
theorem aCod_340 : aCod 340 = 0 := rfl
theorem mR_41 : mR 41 = some (341, 0) := rfl
theorem aLen_341 : aLen 341 = 300 := rfl
theorem aCod_341 : aCod 341 = 0 := rfl
theorem mR_42 : mR 42 = some (342, 0) := rfl
theorem aLen_342 : aLen 342 = 300 := rfl
theorem aCod_342 : aCod 342 = 0 := rfl
theorem mR_43 : mR 43 = some (343, 0) := rfl
theorem aLen_343 : aLen 343 = 300 := rfl
theorem aCod_343 : aCod 343 = 0 := rfl
theorem mR_44 : mR 44 = some (344, 0) := rfl
theorem aLen_344 : aLen 344 = 300 := rfl
theorem aCod_344 : aCod 344 = 0 := rfl
theorem mR_45 : mR 45 = some (345, 0) := rfl
theorem aLen_345 : aLen 345 = 300 := rfl
theorem aCod_345 : aCod 345 = 0 := rfl
theorem mR_46 : mR 46 = some (346, 0) := rfl
theorem aLen_346 : aLen 346 = 300 := rfl
theorem aCod_346 : aCod 346 = 0 := rfl
theorem mR_47 : mR 47 = some (347, 0) := rfl
theorem aLen_347 : aLen 347 = 300 := rfl
theorem aCod_347 : aCod 347 = 1 := rfl
theorem mR_48 : mR 48 = some (348, 0) := rfl
theorem aLen_348 : aLen 348 = 300 := rfl
theorem aCod_348 : aCod 348 = 2 := rfl
theorem mR_49 : mR 49 = some (349, 0) := rfl
theorem aLen_349 : aLen 349 = 2000 := rfl
theorem aCod_349 : aCod 349 = 0 := rfl
theorem mR_50 : mR 50 = some (350, 0) := rfl
theorem aLen_350 : aLen 350 = 2000 := rfl
theorem aCod_350 : aCod 350 = 0 := rfl
theorem mR_51 : mR 51 = some (351, 0) := rfl
theorem aLen_351 : aLen 351 = 2000 := rfl
theorem aCod_351 : aCod 351 = 0 := rfl
theorem mR_52 : mR 52 = some (352, 0) := rfl
theorem aLen_352 : aLen 352 = 2000 := rfl
theorem aCod_352 : aCod 352 = 0 := rfl
theorem mR_53 : mR 53 = some (353, 0) := rfl
theorem aLen_353 : aLen 353 = 2000 := rfl
theorem aCod_353 : aCod 353 = 0 := rfl
theorem mR_54 : mR 54 = some (354, 0) := rfl
theorem aLen_354 : aLen 354 = 2000 := rfl
theorem aCod_354 : aCod 354 = 1 := rfl
theorem mR_55 : mR 55 = some (355, 0) := rfl
theorem aLen_355 : aLen 355 = 2000 := rfl
theorem aCod_355 : aCod 355 = 0 := rfl
theorem mR_56 : mR 56 = some (356, 0) := rfl
theorem aLen_356 : aLen 356 = 2000 := rfl
theorem aCod_356 : aCod 356 = 0 := rfl
theorem mR_57 : mR 57 = some (357, 0) := rfl
theorem aLen_357 : aLen 357 = 20 := rfl
theorem aCod_357 : aCod 357 = 0 := rfl
theorem mR_58 : mR 58 = some (358, 0) := rfl
theorem aLen_358 : aLen 358 = 640 := rfl
theorem aCod_358 : aCod 358 = 0 := rfl
theorem mR_59 : mR 59 = some (359, 0) := rfl
theorem aLen_359 : aLen 359 = 20 := rfl
theorem aCod_359 : aCod 359 = 1 := rfl
theorem mR_60 : mR 60 = some (360, 0) := rfl
theorem aLen_360 : aLen 360 = 2000 := rfl
theorem aCod_360 : aCod 360 = 0 := rfl
theorem mR_61 : mR 61 = some (361, 0) := rfl
theorem aLen_361 : aLen 361 = 2000 := rfl
theorem aCod_361 : aCod 361 = 0 := rfl
theorem aLen_100 : aLen 100 = 60 := rfl
theorem aCod_100 : aCod 100 = 1 := rfl
theorem aLen_101 : aLen 101 = 600 := rfl
theorem aCod_101 : aCod 101 = 0 := rfl
theorem aLen_102 : aLen 102 = 600 := rfl
theorem aCod_102 : aCod 102 = 0 := rfl
theorem aLen_103 : aLen 103 = 32 := rfl
theorem aCod_103 : aCod 103 = 0 := rfl
theorem z_MR.I {h : z_H} {K i j : Nat} {v : Int32} (a : z_MR h) : z_MR (sI h K i j v) := a
theorem z_MR.L {h : z_H} {K i j : Nat} {v : Int64} (a : z_MR h) : z_MR (sL h K i j v) := a
/-- how a model's method ends -/
def Qi (h : z_H) (p : Int32 × z_M) : Option z_V → z_H → Prop := fun r h' => r = some (z_i p.1) ∧ mv h' = p.2 ∧ z_sC h h' ∧ z_MR h'
def Ql (h : z_H) (p : Int64 × z_M) : Option z_V → z_H → Prop := fun r h' => r = some (z_l p.1) ∧ mv h' = p.2 ∧ z_sC h h' ∧ z_MR h'
def Qv (h : z_H) (S : z_M) : Option z_V → z_H → Prop := fun r h' => r = none ∧ mv h' = S ∧ z_sC h h' ∧ z_MR h'
theorem qi {h h' : z_H} {S' : z_M} {x : Int32} {p : Int32 × z_M} (e : p = (x, S')) (hm : mv h' = S') (hc : z_sC h h') (hr : z_MR h') : Qi h p (some (z_i x)) h' := by
  rw [e]
  exact ⟨rfl, hm, hc, hr⟩
theorem ql {h h' : z_H} {S' : z_M} {x : Int64} {p : Int64 × z_M} (e : p = (x, S')) (hm : mv h' = S') (hc : z_sC h h') (hr : z_MR h') : Ql h p (some (z_l x)) h' := by
  rw [e]
  exact ⟨rfl, hm, hc, hr⟩
theorem qv {h h' : z_H} {S : z_M} (hm : mv h' = S) (hc : z_sC h h') (hr : z_MR h') : Qv h S none h' := ⟨rfl, hm, hc, hr⟩
end
section
/-! what each call does to the abstract state, and answers -/
def ci (x : Int32) : Nat := x.toNatClampNeg
theorem ci_f {x : Int32} : x.toNatClampNeg = ci x := rfl
abbrev nK (S : z_M) : Nat := ci (mS S 15)
abbrev nA (S : z_M) : Nat := ci (mS S 16)
abbrev nR (S : z_M) : Nat := ci (mS S 17)
abbrev nO (S : z_M) : Nat := ci (mS S 18)
abbrev nL (S : z_M) : Nat := ci (mS S 19)
abbrev nF (S : z_M) : Nat := ci (mS S 20)
abbrev nE (S : z_M) : Nat := ci (mS S 21)
abbrev nU (S : z_M) : Nat := ci (mS S 62)
abbrev dy (S : z_M) : Int32 := mS S 14
abbrev isx (a : Int32) (n : Nat) : Prop := 0 ≤ a.toInt ∧ a.toInt < (n : Int)
abbrev inp (a : Int32) (lo hi : Int) : Prop := lo ≤ a.toInt ∧ a.toInt ≤ hi
abbrev inq (a : Int64) (lo hi : Int) : Prop := lo ≤ a.toInt ∧ a.toInt ≤ hi
def o_cut (a : Int32) (v : Int64) : Int64 := if a.toInt = 0 then v.toInt32.toInt8.toInt32.toInt64 else if a.toInt = 1 then v.toInt32.toInt16.toInt32.toInt64 else if a.toInt = 2 then v.toInt32.toInt64 else v
def o_b (pure rate : Int32) (v : Int64) : Int64 := v * pure.toInt64 / 1000 * rate.toInt64 / 1000
abbrev o_bk (S : z_M) (k : Nat) (v : Int64) : Int64 := o_b (mA S 24 k) (mS S 5) v
/-- how many orders below n wait; how many lines may still be written -/
def o_wt (w : Nat → Int32) : Nat → Nat
  | 0 => 0
  | n + 1 => o_wt w n + (if (w n).toInt = 0 then 1 else 0)
abbrev o_rm (S : z_M) : Nat := 2000 - nL S - 3 * o_wt (mA S 42) (nO S)
/-- the latest folio below n of an account; how many it has; its k-th -/
def o_fol (w : Nat → Int32) (a : Int32) : Nat → Int32
  | 0 => -1
  | n + 1 => if (w n).toInt = a.toInt then nI n else o_fol w a n
def o_nf (w : Nat → Int32) (a : Int32) : Nat → Nat
  | 0 => 0
  | n + 1 => o_nf w a n + (if (w n).toInt = a.toInt then 1 else 0)
def o_kf (w : Nat → Int32) (a : Int32) (k : Nat) : Nat → Int32
  | 0 => -1
  | n + 1 => if (w n).toInt = a.toInt ∧ o_nf w a n = k then nI n else o_kf w a k n
/-! rows -/
def o_row (S : z_M) (s w n : Int32) : Int32 × z_M :=
  if ¬ (inp s 0 3 ∧ inp w 0 3 ∧ n.toInt ≤ 60) then (-2, S) else if n.toInt < 0 then (-3, S)
  else (0, (z_u2 (z_u2 S.1 1 (ci s) w) 2 (ci s) n, fun k j => if k = 3 ∧ 60 * ci s ≤ j ∧ j < 60 * ci s + 60 then 0 else S.2.1 k j, S.2.2))
def o_tear (S : z_M) (s : Int32) : Int32 × z_M := if inp s 0 3 ∧ ¬ (mA S 1 (ci s)).toInt < 0 then (1, uA S 1 (ci s) (-1)) else (0, S)
def o_write (S : z_M) (s i : Int32) (v : Int64) : Int32 × z_M :=
  if ¬ inp s 0 3 then (-2, S) else if (mA S 1 (ci s)).toInt < 0 then (-5, S) else if ¬ (0 ≤ i.toInt ∧ i.toInt < (mA S 2 (ci s)).toInt) then (-6, S)
  else (0, uB S 3 (60 * ci s + ci i) (o_cut (mA S 1 (ci s)) v))
def o_paste (S : z_M) (s i t k n : Int32) : Int32 × z_M :=
  if ¬ (inp s 0 3 ∧ inp t 0 3) then (-2, S) else if (mA S 1 (ci s)).toInt < 0 ∨ (mA S 1 (ci t)).toInt < 0 then (-5, S) else if ¬ (mA S 1 (ci s)).toInt = (mA S 1 (ci t)).toInt then (-7, S)
  else if i.toInt < 0 ∨ k.toInt < 0 ∨ n.toInt < 0 ∨ (mA S 2 (ci s)).toInt < i.toInt + n.toInt ∨ (mA S 2 (ci t)).toInt < k.toInt + n.toInt then (-6, S)
  else (0, (S.1, fun q j => if q = 3 ∧ 60 * ci t + ci k ≤ j ∧ j < 60 * ci t + ci k + ci n then S.2.1 3 (60 * ci s + ci i + (j - (60 * ci t + ci k))) else S.2.1 q j, S.2.2))
/-! terms, kinds, accounts -/
def o_terms (S : z_M) (r f l n p s b t : Int32) : Int32 × z_M :=
  if inp r 1 100000 ∧ inp f 0 100 ∧ inp l 1 1000 ∧ inp n 0 100 ∧ inp p 0 1000 ∧ inp s 0 100 ∧ inp b (-100) 300 ∧ (b.toInt ≤ t.toInt ∧ t.toInt ≤ 300)
  then (0, uS (uS (uS (uS (uS (uS (uS (uS S 5 r) 6 f) 7 l) 8 n) 9 p) 10 s) 11 b) 12 t) else (-2, S)
def o_kind (S : z_M) (w s f : Int32) : Int32 × z_M :=
  if ¬ (inp w 1 100000 ∧ (1 ≤ s.toInt ∧ s.toInt ≤ w.toInt) ∧ inp f 1 1000) then (-2, S) else if nK S = 6 then (-3, S)
  else (nI (nK S), uS (uA (uA (uA S 22 (nK S) w) 23 (nK S) s) 24 (nK S) f) 15 (nI (nK S + 1)))
def o_account (S : z_M) : Int32 × z_M := if nA S = 24 then (-3, S) else (nI (nA S), uS S 16 (nI (nA S + 1)))
def o_attorney (S : z_M) (a p t : Int32) : Int32 × z_M := if isx a (nA S) ∧ inp p 0 99 ∧ inp t 0 5000 then (0, uA (uA S 28 (ci a) p) 29 (ci a) t) else (-2, S)
/-! lines -/
def o_ff (S : z_M) (a : Int32) : Int32 × z_M :=
  if (o_fol (mA S 55) a (nF S)).toInt < 0 ∨ (mA S 56 (ci (o_fol (mA S 55) a (nF S)))).toInt = 8 then (nI (nF S), uA (uS (uA (uA S 55 (nF S) a) 56 (nF S) 0) 20 (nI (nF S + 1))) 56 (nF S) 1)
  else (o_fol (mA S 55) a (nF S), uA S 56 (ci (o_fol (mA S 55) a (nF S))) (mA S 56 (ci (o_fol (mA S 55) a (nF S))) + 1))
def o_ln (S : z_M) (d a f side : Int32) (sum : Int64) (order : Int32) : z_M :=
  uS (uA (uB (uA (uA (uA (uA S 49 (nL S) d) 50 (nL S) a) 51 (nL S) f) 52 (nL S) side) 54 (nL S) sum) 53 (nL S) order) 19 (nI (nL S + 1))
def o_writes (S : z_M) (d a side : Int32) (sum : Int64) (order : Int32) : Int32 × z_M :=
  if sum = 0 then (-1, S) else (nI (nL S), o_ln (o_ff S a).2 d a (o_ff S a).1 side sum order)
def o_pays (S : z_M) (a : Int32) (sum : Int64) : z_M := (o_writes (uB S 27 (ci a) (mB S 27 (ci a) - sum)) (dy S) a 0 sum (-1)).2
/-! receipts -/
abbrev o_tk (lo hi : Int32) (v : Int64) : Prop := lo.toInt ≤ v.toInt ∧ v.toInt ≤ hi.toInt
def o_tn (lo hi : Int32) (c : Nat → Int64) (b : Nat) : Nat → Nat
  | 0 => 0
  | n + 1 => if o_tk lo hi (c (b + n)) then o_tn lo hi c b n + 1 else o_tn lo hi c b n
def o_tw (lo hi : Int32) (c : Nat → Int64) (b : Nat) : Nat → Int64
  | 0 => 0
  | n + 1 => if o_tk lo hi (c (b + n)) then o_tw lo hi c b n + c (b + n) else o_tw lo hi c b n
def o_mi (lo hi : Int32) (c : Nat → Int64) (b : Nat) : Nat → Int64
  | 0 => 9223372036854775807
  | n + 1 => if o_tk lo hi (c (b + n)) then (if c (b + n) < o_mi lo hi c b n then c (b + n) else o_mi lo hi c b n) else o_mi lo hi c b n
def o_ma (lo hi : Int32) (c : Nat → Int64) (b : Nat) : Nat → Int64
  | 0 => 0
  | n + 1 => if o_tk lo hi (c (b + n)) then (if c (b + n) < o_ma lo hi c b n then o_ma lo hi c b n else c (b + n)) else o_ma lo hi c b n
abbrev o_sz (S : z_M) (s : Int32) : Nat := ci (mA S 2 (ci s))
abbrev o_tN (S : z_M) (k s : Int32) : Nat := o_tn (mA S 23 (ci k)) (mA S 22 (ci k)) (mB S 3) (60 * ci s) (o_sz S s)
abbrev o_tW (S : z_M) (k s : Int32) : Int64 := o_tw (mA S 23 (ci k)) (mA S 22 (ci k)) (mB S 3) (60 * ci s) (o_sz S s)
def o_bring (S : z_M) (a k : Int32) (n : Int32) (w b : Int64) : z_M :=
  uT (uB (uB (uB (uS (uA (uA (uB (uB (uA (uA (uA S 30 (nR S) a) 31 (nR S) k) 32 (nR S) n) 35 (nR S) w) 36 (nR S) b) 33 (nR S) (dy S + mS S 7)) 34 (nR S) 0) 17 (nI (nR S + 1))) 25 (ci k) (mB S 25 (ci k) + n.toInt64)) 26 (ci k) (mB S 26 (ci k) + w)) 27 (ci a) (mB S 27 (ci a) + b)) 63 (mT S 63 + b)
def o_take (S : z_M) (a k s : Int32) : Int32 × z_M :=
  if ¬ (isx a (nA S) ∧ isx k (nK S) ∧ inp s 0 3) then (-2, S) else if (mA S 1 (ci s)).toInt < 0 then (-5, S) else if nR S = 200 ∨ o_rm S < 1 then (-3, S)
  else if o_tN S k s = 0 then (0, S)
  else (nI (o_tN S k s), (o_writes (o_bring S a k (nI (o_tN S k s)) (o_tW S k s) (o_bk S (ci k) (o_tW S k s))) (dy S) a 1 (o_bk S (ci k) (o_tW S k s)) (-1)).2)
abbrev o_open (S : z_M) (r : Int32) : Prop := isx r (nR S) ∧ (mA S 34 (ci r)).toInt = 0
def o_fee (S : z_M) (r : Nat) : Int64 := mB S 36 r * (mS S 6).toInt64 / 1000
def o_redeem (S : z_M) (r : Int32) : Int64 × z_M :=
  if ¬ o_open S r then (-2, S) else if (mB S 27 (ci (mA S 30 (ci r)))).toInt < (mB S 36 (ci r) + o_fee S (ci r)).toInt then (-7, S) else if o_rm S < 1 then (-3, S)
  else if (mB S 25 (ci (mA S 31 (ci r)))).toInt < (mA S 32 (ci r)).toInt ∨ (mB S 26 (ci (mA S 31 (ci r)))).toInt < (mB S 35 (ci r)).toInt then (-8, S)
  else (mB S 36 (ci r) + o_fee S (ci r), o_pays (uT (uA (uB (uB S 25 (ci (mA S 31 (ci r))) (mB S 25 (ci (mA S 31 (ci r))) - (mA S 32 (ci r)).toInt64)) 26 (ci (mA S 31 (ci r))) (mB S 26 (ci (mA S 31 (ci r))) - mB S 35 (ci r))) 34 (ci r) 1) 64 (mT S 64 + o_fee S (ci r))) (mA S 30 (ci r)) (mB S 36 (ci r) + o_fee S (ci r)))
def o_prolong (S : z_M) (r : Int32) : Int64 × z_M :=
  if ¬ o_open S r then (-2, S) else if (mB S 27 (ci (mA S 30 (ci r)))).toInt < (o_fee S (ci r)).toInt then (-7, S) else if o_rm S < 1 then (-3, S)
  else (o_fee S (ci r), o_pays (uT (uA S 33 (ci r) (mA S 33 (ci r) + mS S 7)) 64 (mT S 64 + o_fee S (ci r))) (mA S 30 (ci r)) (o_fee S (ci r)))
def o_give (S : z_M) (r a : Int32) : Int32 × z_M := if o_open S r ∧ isx a (nA S) then (0, uA S 30 (ci r) a) else (-2, S)
/-! orders -/
def o_waits (S : z_M) (f t : Int32) (sum : Int64) (on hour signer : Int32) : Int32 × z_M :=
  if ¬ (isx f (nA S) ∧ isx t (nA S) ∧ ¬ f.toInt = t.toInt ∧ inq sum 1 1000000000) then (-2, S) else if nO S = 300 ∨ o_rm S < 3 then (-3, S)
  else (nI (nO S), uS (uA (uA (uA (uA (uA (uA (uB (uA (uA S 37 (nO S) f) 38 (nO S) t) 47 (nO S) sum) 39 (nO S) on) 40 (nO S) hour) 41 (nO S) signer) 42 (nO S) 0) 43 (nO S) (-1)) 46 (nO S) (-1)) 18 (nI (nO S + 1)))
def o_order (S : z_M) (f t : Int32) (sum : Int64) (hour signer : Int32) : Int32 × z_M :=
  if ¬ (inp hour 0 23 ∧ inp signer 0 99) then (-2, S) else o_waits S f t sum (if hour.toInt < 11 then dy S else dy S + 1) hour signer
def o_bill (S : z_M) (f t : Int32) (sum : Int64) (days : Int32) : Int32 × z_M :=
  if ¬ inp days 0 1000 then (-2, S) else o_waits S f t sum (dy S + days) 9 f
def o_slip (S : z_M) (o how x : Int32) : Int32 × z_M :=
  if ¬ (isx o (nO S) ∧ (mA S 42 (ci o)).toInt = 0 ∧ inp how 0 3) then (-2, S)
  else if (how.toInt = 2 ∧ ¬ inp x 0 8) ∨ (how.toInt = 3 ∧ ¬ (isx x (nA S) ∧ ¬ x.toInt = (mA S 37 (ci o)).toInt ∧ ¬ x.toInt = (mA S 38 (ci o)).toInt)) ∨ (how.toInt < 2 ∧ ¬ x.toInt = 0) then (-2, S)
  else (0, uA (uA S 43 (ci o) how) 44 (ci o) x)
def o_un : Nat → Int64
  | 0 => 1
  | n + 1 => o_un n * 10
def o_sw (v : Int64) (p : Nat) : Int64 :=
  v + (v / o_un p / 10 - v / o_un p / 10 / 10 * 10 - (v / o_un p - v / o_un p / 10 * 10)) * o_un p + (v / o_un p - v / o_un p / 10 * 10 - (v / o_un p / 10 - v / o_un p / 10 / 10 * 10)) * o_un p * 10
abbrev o_mays (S : z_M) (o : Nat) : Prop := (mA S 41 o).toInt = (mA S 37 o).toInt ∨ ((mA S 28 (ci (mA S 37 o))).toInt = (mA S 41 o).toInt ∧ (dy S).toInt ≤ (mA S 29 (ci (mA S 37 o))).toInt)
def o_fine (S : z_M) (o : Nat) : Int64 := if mB S 47 o * (mS S 8).toInt64 / 100 < mB S 27 (ci (mA S 37 o)) then mB S 47 o * (mS S 8).toInt64 / 100 else mB S 27 (ci (mA S 37 o))
/-- the balances have moved -/
def o_mov (S : z_M) (o : Nat) : z_M :=
  uB (uB (uA (uA S 42 o 1) 45 o (dy S)) 27 (ci (mA S 37 o)) (mB S 27 (ci (mA S 37 o)) - mB S 47 o)) 27 (ci (mA S 38 o)) (mB (uB S 27 (ci (mA S 37 o)) (mB S 27 (ci (mA S 37 o)) - mB S 47 o)) 27 (ci (mA S 38 o)) + mB S 47 o)
def o_deb (S : z_M) (o : Nat) : z_M := (o_writes (o_mov S o) (dy S) (mA S 37 o) 0 (mB S 47 o) (nI o)).2
/-- the credit's line: account, side, sum -/
def o_ca (S : z_M) (o : Nat) : Int32 := if (mA S 43 o).toInt = 3 then mA S 44 o else mA S 38 o
def o_cs (S : z_M) (o : Nat) : Int32 := if (mA S 43 o).toInt = 1 then 0 else 1
def o_cm (S : z_M) (o : Nat) : Int64 := if (mA S 43 o).toInt = 2 then o_sw (mB S 47 o) (ci (mA S 44 o)) else mB S 47 o
def o_does (S : z_M) (o : Nat) : Bool × z_M :=
  if ¬ o_mays S o then (false, uA S 42 o 2)
  else if (mB S 27 (ci (mA S 37 o))).toInt < (mB S 47 o).toInt then (false, o_pays (uT (uA S 42 o 3) 64 (mT S 64 + o_fine S o)) (mA S 37 o) (o_fine S o))
  else if (mA S 43 o).toInt = 0 then (true, o_deb S o)
  else (true, uA (o_writes (o_deb S o) (dy S) (o_ca S o) (o_cs S o) (o_cm S o) (nI o)).2 46 o (o_writes (o_deb S o) (dy S) (o_ca S o) (o_cs S o) (o_cm S o) (nI o)).1)
/-! the close -/
abbrev z_Q : Type := Nat × Int64 × z_M
abbrev o_due (S : z_M) (hour o : Nat) : Prop := (mA S 42 o).toInt = 0 ∧ (mA S 39 o).toInt ≤ (dy S).toInt ∧ (mA S 40 o).toInt = (hour : Int)
def o_st (hour o : Nat) (q : z_Q) : z_Q :=
  if o_due q.2.2 hour o then (if (o_does q.2.2 o).1 = true then (q.1 + 1, q.2.1 + mB q.2.2 47 o, (o_does q.2.2 o).2) else (q.1, q.2.1, (o_does q.2.2 o).2)) else q
def o_hs (hour : Nat) : Nat → z_Q → z_Q
  | 0, q => q
  | n + 1, q => o_st hour n (o_hs hour n q)
def o_cl (n : Nat) : Nat → z_Q → z_Q
  | 0, q => q
  | h + 1, q => o_hs h n (o_cl n h q)
def o_lp (S : z_M) : Nat → z_M
  | 0 => S
  | n + 1 => if (mA S 34 n).toInt = 0 ∧ (mA S 33 n).toInt ≤ (dy S).toInt then uA (o_lp S n) 34 n 2 else o_lp S n
def o_more (S : z_M) (done : Int64) : Int64 := (mS S 9).toInt64 * (done - mT S 63) / (done + mT S 63 + 1000)
def o_cla (x a b : Int) : Int := if x < a then a else if b < x then b else x
/-- the agio before it is held, and after -/
def o_ag0 (S : z_M) (done : Int64) : Int := o_cla ((mS S 13).toInt + o_cla (o_more S done).toInt (-(mS S 10).toInt) (mS S 10).toInt) (-100) 300
def o_agio (S : z_M) (done : Int64) : z_M :=
  uS (uT (uS (uT (uT S 65 (mT S 65 + Int64.ofInt (if (mS S 12).toInt < o_ag0 S done then o_ag0 S done - (mS S 12).toInt else 0))) 66 (mT S 66 + Int64.ofInt (if o_ag0 S done < (mS S 11).toInt then (mS S 11).toInt - o_ag0 S done else 0))) 13 (Int32.ofInt (o_cla (o_ag0 S done) (mS S 11).toInt (mS S 12).toInt))) 63 0) 14 (dy S + 1)
def o_close (S : z_M) : Int32 × z_M :=
  if (dy S).toInt = 5000 then (-9, S)
  else (nI (o_cl (nO S) 24 (0, 0, S)).1, o_agio (o_lp (o_cl (nO S) 24 (0, 0, S)).2.2 (nR S)) (o_cl (nO S) 24 (0, 0, S)).2.1)
/-! suspects -/
abbrev o_ofd (ld lo : Int32) (d : Int32) : Prop := ld.toInt = d.toInt ∧ ¬ lo.toInt = -1
def o_df (ld lo lh : Nat → Int32) (ls : Nat → Int64) (d : Int32) : Nat → Int64
  | 0 => 0
  | n + 1 => if o_ofd (ld n) (lo n) d then o_df ld lo lh ls d n + (if (lh n).toInt = 0 then ls n else -(ls n)) else o_df ld lo lh ls d n
abbrev o_dif (S : z_M) (d : Int32) (n : Nat) : Int64 := o_df (mA S 49) (mA S 53) (mA S 52) (mB S 54) d n
def o_nin (v g : Int64) : Nat → Bool
  | 0 => false
  | n + 1 => o_nin v g n || decide (o_sw v n = v + g)
def o_hw (side : Int32) (v g : Int64) : Int32 :=
  if side.toInt = 0 then (if v = g then 0 else if g - g / 2 * 2 = 0 ∧ v = g / 2 then 1 else -1)
  else if g - g / 9 * 9 = 0 ∧ o_nin v g 9 = true then 2 else -1
abbrev o_how (S : z_M) (l : Nat) (g : Int64) : Int32 := o_hw (mA S 52 l) (mB S 54 l) g
def o_su (S : z_M) (d : Int32) (g : Int64) : Nat → z_M
  | 0 => uS S 62 0
  | n + 1 => if o_ofd (mA S 49 n) (mA S 53 n) d ∧ ¬ (o_how S n g).toInt = -1 then uS (uA (uA (o_su S d g n) 60 (nU (o_su S d g n)) (nI n)) 61 (nU (o_su S d g n)) (o_how S n g)) 62 (nI (nU (o_su S d g n) + 1)) else o_su S d g n
def o_suspects (S : z_M) (d : Int32) : Int32 × z_M :=
  if ¬ (0 ≤ d.toInt ∧ d.toInt < (dy S).toInt) then (-2, S) else if o_dif S d (nL S) = 0 then (-1, uS S 62 0)
  else (mS (o_su S d (o_dif S d (nL S)) (nL S)) 62, o_su S d (o_dif S d (nL S)) (nL S))
def o_suspect (S : z_M) (i what : Int32) : Int32 :=
  if ¬ isx i (nU S) then -1 else if what.toInt = 0 then mA S 60 (ci i) else if what.toInt = 1 then mA S 61 (ci i) else -1
def o_mend (S : z_M) (o : Int32) : Int32 × z_M :=
  if ¬ (isx o (nO S) ∧ (mA S 42 (ci o)).toInt = 1 ∧ ¬ (mA S 43 (ci o)).toInt = -1 ∧ (mA S 48 (ci o)).toInt = 0) then (0, S)
  else if (mA S 46 (ci o)).toInt = -1 then (if o_rm S < 1 then (0, S) else
    (1, uA (uA (o_writes S (mA S 45 (ci o)) (mA S 38 (ci o)) 1 (mB S 47 (ci o)) o).2 46 (ci o) (o_writes S (mA S 45 (ci o)) (mA S 38 (ci o)) 1 (mB S 47 (ci o)) o).1) 48 (ci o) 1))
  else (1, uA (uB (uA (uA S 50 (ci (mA S 46 (ci o))) (mA S 38 (ci o))) 52 (ci (mA S 46 (ci o))) 1) 54 (ci (mA S 46 (ci o))) (mB S 47 (ci o))) 48 (ci o) 1)
def o_weighed (S : z_M) (k s what : Int32) : Int64 :=
  if ¬ (isx k (nK S) ∧ inp s 0 3 ∧ inp what 0 4) then -2 else if (mA S 1 (ci s)).toInt < 0 then -5 else if what.toInt < 2 ∧ o_tN S k s = 0 then -8
  else if what.toInt = 0 then o_mi (mA S 23 (ci k)) (mA S 22 (ci k)) (mB S 3) (60 * ci s) (o_sz S s) else if what.toInt = 1 then o_ma (mA S 23 (ci k)) (mA S 22 (ci k)) (mB S 3) (60 * ci s) (o_sz S s) else if what.toInt = 2 then (nI (o_tN S k s)).toInt64
  else if what.toInt = 3 then o_tW S k s else o_bk S (ci k) (o_tW S k s)
/-! loans -/
def o_snc (known : Int32) (day : Int32) (p : Nat) : Int32 := if (known.toUInt32 >>> ((nI p).toUInt32 &&& Int32.toUInt32 31)).toInt32 &&& 1 = 1 then day else -1
def o_lw (S : z_M) (k n : Int32) : Int64 := mB S 26 (ci k) * n.toInt64 / mB S 25 (ci k)
def o_lend (S : z_M) (k n known : Int32) : z_M :=
  let S1 : z_M := uB (uA (uB (uB S 25 (ci k) (mB S 25 (ci k) - n.toInt64)) 26 (ci k) (mB S 26 (ci k) - o_lw S k n)) 57 (nE S) (dy S)) 59 (nE S) (o_bk S (ci k) (o_lw S k n))
  uS (fun q j => if q = 58 ∧ 32 * nE S ≤ j ∧ j < 32 * nE S + 32 then o_snc known (dy S) (j - 32 * nE S) else S1.1 q j, S1.2) 21 (nI (nE S + 1))
def o_loan (S : z_M) (k n known : Int32) : Int32 × z_M :=
  if ¬ (isx k (nK S) ∧ 1 ≤ n.toInt) then (-2, S) else if (mB S 25 (ci k)).toInt < n.toInt then (-8, S) else if nE S = 20 then (-3, S)
  else (nI (nE S), o_lend S k n known)
def o_tell (S : z_M) (l p : Int32) : Int32 × z_M :=
  if isx l (nE S) ∧ inp p 0 31 ∧ (mA S 58 (32 * ci l + ci p)).toInt = -1 then (1, uA S 58 (32 * ci l + ci p) (dy S)) else (0, S)
def o_gp (w z : Nat → Int32) (b : Nat → Int64) (p : Nat) (d : Int32) : Nat → Int64
  | 0 => 0
  | n + 1 => if (w n).toInt ≤ d.toInt ∧ (0 ≤ (z (32 * n + p)).toInt ∧ (z (32 * n + p)).toInt ≤ d.toInt) then o_gp w z b p d n + b n else o_gp w z b p d n
def o_gap (S : z_M) (p d : Int32) : Int64 := if ¬ (inp p 0 31 ∧ (0 ≤ d.toInt ∧ d.toInt ≤ (dy S).toInt)) then -1 else o_gp (mA S 57) (mA S 58) (mB S 59) (ci p) d (nE S)
/-! sums, reads -/
def o_vb (pu : Nat → Int32) (rate : Int32) (w : Nat → Int64) : Nat → Int64
  | 0 => 0
  | n + 1 => o_vb pu rate w n + o_b (pu n) rate (w n)
def o_bl (w : Nat → Int64) : Nat → Int64
  | 0 => 0
  | n + 1 => o_bl w n + w n
abbrev o_vB (S : z_M) : Int64 := o_vb (mA S 24) (mS S 5) (mB S 26) (nK S)
abbrev o_bL (S : z_M) : Int64 := o_bl (mB S 27) (nA S)
def o_run (S : z_M) (v : Int64) : Int64 := if ¬ inq v 1 1000000000 then -2 else if (o_bL S).toInt ≤ (o_vB S).toInt then -1 else (o_vB S + v - 1) / v
def o_accountOf (S : z_M) (a what : Int32) : Int32 :=
  if ¬ isx a (nA S) then -2 else if what.toInt = 0 then o_fol (mA S 55) a (nF S) else if what.toInt = 1 then nI (o_nf (mA S 55) a (nF S)) else if what.toInt = 2 then mA S 28 (ci a) else if what.toInt = 3 then (if (mA S 28 (ci a)).toInt = -1 then -1 else mA S 29 (ci a)) else -2
def o_folio (S : z_M) (a k : Int32) : Int32 := if ¬ (isx a (nA S) ∧ 0 ≤ k.toInt) then -1 else o_kf (mA S 55) a (ci k) (nF S)
def o_balance (S : z_M) (a : Int32) : Int64 := if isx a (nA S) then mB S 27 (ci a) else 0
def o_wr (la lh : Nat → Int32) (ls : Nat → Int64) (a : Int32) : Nat → Int64
  | 0 => 0
  | n + 1 => if (la n).toInt = a.toInt then o_wr la lh ls a n + (if (lh n).toInt = 1 then ls n else -(ls n)) else o_wr la lh ls a n
def o_written (S : z_M) (a : Int32) : Int64 := o_wr (mA S 50) (mA S 52) (mB S 54) a (nL S)
def o_line (S : z_M) (l what : Int32) : Int32 :=
  if ¬ isx l (nL S) then -2 else if what.toInt = 0 then mA S 49 (ci l) else if what.toInt = 1 then mA S 50 (ci l) else if what.toInt = 2 then mA S 51 (ci l) else if what.toInt = 3 then mA S 52 (ci l) else if what.toInt = 4 then mA S 53 (ci l) else -2
def o_lineSum (S : z_M) (l : Int32) : Int64 := if isx l (nL S) then mB S 54 (ci l) else 0
def o_orderOf (S : z_M) (o what : Int32) : Int32 :=
  if ¬ isx o (nO S) then -2 else if what.toInt = 0 then mA S 37 (ci o) else if what.toInt = 1 then mA S 38 (ci o) else if what.toInt = 2 then mA S 39 (ci o) else if what.toInt = 3 then mA S 40 (ci o) else if what.toInt = 4 then mA S 42 (ci o) else if what.toInt = 5 then mA S 43 (ci o) else if what.toInt = 6 then (if (mA S 48 (ci o)).toInt = 0 then 0 else 1) else -2
def o_receipt (S : z_M) (r what : Int32) : Int32 :=
  if ¬ isx r (nR S) then -2 else if what.toInt = 0 then mA S 30 (ci r) else if what.toInt = 1 then mA S 31 (ci r) else if what.toInt = 2 then mA S 32 (ci r) else if what.toInt = 3 then (mB S 35 (ci r)).toInt32 else if what.toInt = 4 then mA S 33 (ci r) else if what.toInt = 5 then mA S 34 (ci r) else -2
def o_book (S : z_M) (r : Int32) : Int64 := if isx r (nR S) then mB S 36 (ci r) else 0
def o_vault (S : z_M) (k what : Int32) : Int64 :=
  if ¬ isx k (nK S) then -1 else if what.toInt = 0 then mB S 25 (ci k) else if what.toInt = 1 then mB S 26 (ci k) else if what.toInt = 2 then o_bk S (ci k) (mB S 26 (ci k)) else -1
def o_rows (w : Nat → Int32) : Nat → Nat
  | 0 => 0
  | n + 1 => o_rows w n + (if (w n).toInt < 0 then 0 else 1)
def o_count (S : z_M) (what : Int32) : Int32 :=
  if what.toInt = 0 then dy S else if what.toInt = 1 then mS S 15 else if what.toInt = 2 then mS S 16 else if what.toInt = 3 then mS S 18 else if what.toInt = 4 then nI (o_wt (mA S 42) (nO S)) else if what.toInt = 5 then mS S 17 else if what.toInt = 6 then mS S 19
  else if what.toInt = 7 then mS S 20 else if what.toInt = 8 then mS S 13 else if what.toInt = 9 then mS S 21 else if what.toInt = 10 then nI (o_rows (mA S 1) 4) else -1
def o_sum (S : z_M) (what : Int32) : Int64 :=
  if what.toInt = 0 then o_bL S else if what.toInt = 1 then o_vB S else if what.toInt = 2 then mT S 64 else if what.toInt = 3 then mT S 65 else if what.toInt = 4 then mT S 66 else 0
end
section
/-! what always holds of the abstract state; the class's part of the heap against it -/
def J_n (v : Int32) (b : Nat) : Prop := v = nI (ci v) ∧ ci v ≤ b
def J_ter (r f l n p s b t g : Int32) : Prop := inp r 1 100000 ∧ inp f 0 100 ∧ inp l 1 1000 ∧ inp n 0 100 ∧ inp p 0 1000 ∧ inp s 0 100 ∧ -100 ≤ b.toInt ∧ b.toInt ≤ t.toInt ∧ t.toInt ≤ 300 ∧ inp g (-100) 300
def J_kin (n r : Nat) (hi lo pu : Nat → Int32) (co we : Nat → Int64) : Prop := (∀ k, k < n → inp (hi k) 1 100000 ∧ 1 ≤ (lo k).toInt ∧ (lo k).toInt ≤ (hi k).toInt ∧ inp (pu k) 1 1000 ∧ inq (co k) 0 (60 * (r : Int))) ∧ ∀ k, n ≤ k → k < 6 → co k = 0 ∧ we k = 0
def J_row (wd sz : Nat → Int32) : Prop := ∀ s, s < 4 → inp (wd s) (-1) 3 ∧ inp (sz s) 0 60
def J_acc (n : Nat) (ay : Nat → Int32) (bal : Nat → Int64) : Prop := ∀ a, n ≤ a → a < 24 → ay a = -1 ∧ bal a = 0
def J_rec (n a k : Nat) (ra rk rc rh : Nat → Int32) (rg : Nat → Int64) : Prop := ∀ r, r < n → isx (ra r) a ∧ isx (rk r) k ∧ inp (rc r) 0 60 ∧ inq (rg r) 0 6000000 ∧ inp (rh r) 0 2
def J_ord (n a l : Nat) (oF oT oh os ow op ox ol om : Nat → Int32) (ou : Nat → Int64) : Prop := (∀ o, o < n → isx (oF o) a ∧ isx (oT o) a ∧ inp (oh o) 0 23 ∧ 0 ≤ (os o).toInt ∧ inp (ow o) 0 3 ∧ inp (op o) (-1) 3 ∧ ((op o).toInt = 2 → inp (ox o) 0 8) ∧ ((op o).toInt = 3 → isx (ox o) a) ∧ ((ol o).toInt = -1 ∨ isx (ol o) l) ∧ inq (ou o) 1 1000000000 ∧ (om o = 0 ∨ om o = 1) ∧ ((ow o).toInt = 0 → (ol o).toInt = -1)) ∧ ∀ o, n ≤ o → o < 300 → ox o = 0 ∧ om o = 0
def J_lin (n a : Nat) (la lh : Nat → Int32) : Prop := ∀ i, i < n → isx (la i) a ∧ inp (lh i) 0 1
def J_fol (n a : Nat) (fa fm : Nat → Int32) : Prop := ∀ f, f < n → isx (fa f) a ∧ inp (fm f) 1 8
def J_len (n : Nat) (day : Int32) (ld sn : Nat → Int32) : Prop := ∀ e, e < n → 0 ≤ (ld e).toInt ∧ (ld e).toInt ≤ day.toInt ∧ ∀ p, p < 32 → (sn (32 * e + p)).toInt = -1 ∨ (ld e).toInt ≤ (sn (32 * e + p)).toInt
/-- lines of orders: how many there are, and may be -/
def o_cL (lo : Nat → Int32) : Nat → Nat
  | 0 => 0
  | n + 1 => o_cL lo n + (if (lo n).toInt = -1 then 0 else 1)
def o_cO (oh ol : Nat → Int32) : Nat → Nat
  | 0 => 0
  | n + 1 => o_cO oh ol n + (if (oh n).toInt = 1 then (if (ol n).toInt = -1 then 1 else 2) else 0)
def J_sus (n m : Nat) (lo oh ol : Nat → Int32) : Prop := o_cL lo n ≤ o_cO oh ol m
def INV (S : z_M) : Prop := J_n (mS S 15) 6 ∧ J_n (mS S 16) 24 ∧ J_n (mS S 17) 200 ∧ J_n (mS S 18) 300 ∧ J_n (mS S 19) 2000 ∧ J_n (mS S 20) 2000 ∧ J_n (mS S 21) 20 ∧ J_n (mS S 14) 5000 ∧ J_n (mS S 62) 600 ∧ nF S ≤ nL S ∧ nL S + 3 * o_wt (mA S 42) (nO S) ≤ 2000 ∧ J_ter (mS S 5) (mS S 6) (mS S 7) (mS S 8) (mS S 9) (mS S 10) (mS S 11) (mS S 12) (mS S 13) ∧ J_kin (nK S) (nR S) (mA S 22) (mA S 23) (mA S 24) (mB S 25) (mB S 26) ∧ J_row (mA S 1) (mA S 2) ∧ J_acc (nA S) (mA S 28) (mB S 27) ∧ J_rec (nR S) (nA S) (nK S) (mA S 30) (mA S 31) (mA S 32) (mA S 34) (mB S 35) ∧ J_ord (nO S) (nA S) (nL S) (mA S 37) (mA S 38) (mA S 40) (mA S 41) (mA S 42) (mA S 43) (mA S 44) (mA S 46) (mA S 48) (mB S 47) ∧ J_lin (nL S) (nA S) (mA S 50) (mA S 52) ∧ J_fol (nF S) (nA S) (mA S 55) (mA S 56) ∧ J_len (nE S) (mS S 14) (mA S 57) (mA S 58) ∧ J_sus (nL S) (nO S) (mA S 53) (mA S 42) (mA S 46) ∧ inq (mT S 63) 0 (600000000 * (nR S : Int))
theorem INV.cK {S : z_M} (h : INV S) : J_n (mS S 15) 6 := h.1
theorem INV.cA {S : z_M} (h : INV S) : J_n (mS S 16) 24 := h.2.1
theorem INV.cR {S : z_M} (h : INV S) : J_n (mS S 17) 200 := h.2.2.1
theorem INV.cO {S : z_M} (h : INV S) : J_n (mS S 18) 300 := h.2.2.2.1
theorem INV.cL {S : z_M} (h : INV S) : J_n (mS S 19) 2000 := h.2.2.2.2.1
theorem INV.cF {S : z_M} (h : INV S) : J_n (mS S 20) 2000 := h.2.2.2.2.2.1
theorem INV.cE {S : z_M} (h : INV S) : J_n (mS S 21) 20 := h.2.2.2.2.2.2.1
theorem INV.cD {S : z_M} (h : INV S) : J_n (mS S 14) 5000 := h.2.2.2.2.2.2.2.1
theorem INV.cU {S : z_M} (h : INV S) : J_n (mS S 62) 600 := h.2.2.2.2.2.2.2.2.1
theorem INV.fl {S : z_M} (h : INV S) : nF S ≤ nL S := h.2.2.2.2.2.2.2.2.2.1
theorem INV.rm {S : z_M} (h : INV S) : nL S + 3 * o_wt (mA S 42) (nO S) ≤ 2000 := h.2.2.2.2.2.2.2.2.2.2.1
theorem INV.ter {S : z_M} (h : INV S) : J_ter (mS S 5) (mS S 6) (mS S 7) (mS S 8) (mS S 9) (mS S 10) (mS S 11) (mS S 12) (mS S 13) := h.2.2.2.2.2.2.2.2.2.2.2.1
theorem INV.kin {S : z_M} (h : INV S) : J_kin (nK S) (nR S) (mA S 22) (mA S 23) (mA S 24) (mB S 25) (mB S 26) := h.2.2.2.2.2.2.2.2.2.2.2.2.1
theorem INV.row {S : z_M} (h : INV S) : J_row (mA S 1) (mA S 2) := h.2.2.2.2.2.2.2.2.2.2.2.2.2.1
theorem INV.acc {S : z_M} (h : INV S) : J_acc (nA S) (mA S 28) (mB S 27) := h.2.2.2.2.2.2.2.2.2.2.2.2.2.2.1
theorem INV.rec {S : z_M} (h : INV S) : J_rec (nR S) (nA S) (nK S) (mA S 30) (mA S 31) (mA S 32) (mA S 34) (mB S 35) := h.2.2.2.2.2.2.2.2.2.2.2.2.2.2.2.1
theorem INV.ord {S : z_M} (h : INV S) : J_ord (nO S) (nA S) (nL S) (mA S 37) (mA S 38) (mA S 40) (mA S 41) (mA S 42) (mA S 43) (mA S 44) (mA S 46) (mA S 48) (mB S 47) := h.2.2.2.2.2.2.2.2.2.2.2.2.2.2.2.2.1
theorem INV.lin {S : z_M} (h : INV S) : J_lin (nL S) (nA S) (mA S 50) (mA S 52) := h.2.2.2.2.2.2.2.2.2.2.2.2.2.2.2.2.2.1
theorem INV.fol {S : z_M} (h : INV S) : J_fol (nF S) (nA S) (mA S 55) (mA S 56) := h.2.2.2.2.2.2.2.2.2.2.2.2.2.2.2.2.2.2.1
theorem INV.len {S : z_M} (h : INV S) : J_len (nE S) (mS S 14) (mA S 57) (mA S 58) := h.2.2.2.2.2.2.2.2.2.2.2.2.2.2.2.2.2.2.2.1
theorem INV.sus {S : z_M} (h : INV S) : J_sus (nL S) (nO S) (mA S 53) (mA S 42) (mA S 46) := h.2.2.2.2.2.2.2.2.2.2.2.2.2.2.2.2.2.2.2.2.1
theorem INV.tak {S : z_M} (h : INV S) : inq (mT S 63) 0 (600000000 * (nR S : Int)) := h.2.2.2.2.2.2.2.2.2.2.2.2.2.2.2.2.2.2.2.2.2
def C_kin (n : Nat) (I : Nat → Nat → Int32) (L : Nat → Nat → Int64) (hi lo pu : Nat → Int32) (co we : Nat → Int64) : Prop := ∀ k, k < n → I k 0 = nI k ∧ I k 1 = hi k ∧ I k 2 = lo k ∧ I k 3 = pu k ∧ (I k 4).toInt64 = co k ∧ L k 5 = we k
def C_acc (n f : Nat) (I : Nat → Nat → Int32) (L : Nat → Nat → Int64) (R : Nat → Nat → Option (Nat × Nat)) (fa fm ay ato : Nat → Int32) (bal : Nat → Int64) : Prop := ∀ a, a < n → I a 0 = nI a ∧ I a 2 = o_fol fa (nI a) f ∧ (0 ≤ (o_fol fa (nI a) f).toInt → I a 3 = fm (ci (o_fol fa (nI a) f))) ∧ L a 4 = bal a ∧ I a 5 = ay a ∧ I a 6 = (if (ay a).toInt = -1 then -1 else ato a) ∧ R a 1 = some (207, a)
def C_fol (n f : Nat) (Z : Nat → Nat) (I : Nat → Nat → Int32) (fa : Nat → Int32) : Prop := ∀ a, a < n → Z a = o_nf fa (nI a) f ∧ ∀ i, i < f → (fa i).toInt = (nI a).toInt → I a (o_nf fa (nI a) i) = nI i
def C_rec (n : Nat) (I : Nat → Nat → Int32) (L : Nat → Nat → Int64) (R : Nat → Nat → Option (Nat × Nat)) (ra rk rc rd rh : Nat → Int32) (rg rb : Nat → Int64) : Prop := ∀ r, r < n → R r 0 = some (4, ci (rk r)) ∧ I r 1 = rc r ∧ (I r 2).toInt64 = rg r ∧ L r 3 = rb r ∧ R r 4 = some (2, ci (ra r)) ∧ I r 5 = rd r ∧ I r 6 = rh r
def C_ord (n : Nat) (I : Nat → Nat → Int32) (L : Nat → Nat → Int64) (R : Nat → Nat → Option (Nat × Nat)) (oF oT od oh os ow op ox oe ol om : Nat → Int32) (ou : Nat → Int64) : Prop := ∀ o, o < n → R o 0 = some (2, ci (oF o)) ∧ R o 1 = some (2, ci (oT o)) ∧ L o 2 = ou o ∧ I o 3 = od o ∧ I o 4 = oh o ∧ I o 5 = os o ∧ I o 6 = ow o ∧ I o 7 = op o ∧ I o 8 = ox o ∧ ((ow o).toInt = 1 → I o 9 = oe o) ∧ I o 10 = ol o ∧ I o 11 = om o
def C_lin (n : Nat) (I : Nat → Nat → Int32) (L : Nat → Nat → Int64) (R : Nat → Nat → Option (Nat × Nat)) (ld la lf lh lo : Nat → Int32) (ls : Nat → Int64) : Prop := ∀ i, i < n → I i 0 = ld i ∧ I i 1 = lf i ∧ I i 2 = lo i ∧ R i 3 = some (2, ci (la i)) ∧ I i 4 = lh i ∧ L i 5 = ls i
def C_len (n : Nat) (L : Nat → Nat → Int64) (R : Nat → Nat → Option (Nat × Nat)) (I : Nat → Nat → Int32) (sn : Nat → Int32) (lb : Nat → Int64) : Prop := ∀ e, e < n → L e 0 = lb e ∧ R e 1 = some (103, e) ∧ ∀ p, p < 32 → I e p = sn (32 * e + p)
def C_row (I : Nat → Nat → Int32) (R : Nat → Nat → Option (Nat × Nat)) (L : Nat → Nat → Int64) (wd sz : Nat → Int32) (ce : Nat → Int64) : Prop := ∀ s, s < 4 → R s 0 = some (100, s) ∧ I s 1 = (if (wd s).toInt < 0 then 0 else 1) ∧ (0 ≤ (wd s).toInt → I s 2 = wd s) ∧ I s 3 = sz s ∧ ∀ j, j < 60 → L s j = ce (60 * s + j)
def C_sus (n : Nat) (I J : Nat → Int32) (sl sh : Nat → Int32) : Prop := ∀ i, i < n → I i = sl i ∧ J i = sh i
def C_ref (R13 R5 : Nat → Option (Nat × Nat)) : Prop := R13 0 = some (11, 0) ∧ R13 1 = some (200, 0) ∧ R13 2 = some (201, 0) ∧ R13 3 = some (202, 0) ∧ R13 4 = some (203, 0) ∧ R13 5 = some (204, 0) ∧ R13 6 = some (205, 0) ∧ R13 7 = some (5, 0) ∧ R13 8 = some (3, 0) ∧ R13 9 = some (12, 0) ∧ R5 0 = some (206, 0) ∧ R5 1 = some (101, 0) ∧ R5 2 = some (102, 0)
def C_ter (I : Nat → Int32) (r f l n p s b t : Int32) : Prop := I 0 = r ∧ I 1 = f ∧ I 2 = l ∧ I 3 = n ∧ I 4 = p ∧ I 5 = s ∧ I 6 = b ∧ I 7 = t
def C_hou (I : Nat → Int32) (L : Nat → Int64) (ag : Int32) (sd bt tr tk : Int64) : Prop := I 0 = ag ∧ L 1 = sd ∧ L 2 = bt ∧ L 3 = tr ∧ L 4 = tk
/-- the class's objects say what the abstract state says; tr: what was transferred since the last close -/
def CR (tr : Int64) (S : z_M) (h : z_H) : Prop := hN h 2 = nA S ∧ hN h 4 = nK S ∧ hN h 6 = nL S ∧ hN h 7 = nE S ∧ hN h 8 = nO S ∧ hN h 9 = nR S ∧ hN h 103 = nE S ∧ hN h 207 = nA S ∧ hZ h 200 0 = nK S ∧ hZ h 201 0 = nA S ∧ hZ h 202 0 = nR S ∧ hZ h 203 0 = nO S ∧ hZ h 204 0 = nE S ∧ hZ h 205 0 = 4 ∧ hZ h 206 0 = nL S ∧ C_ref (hR h 13 0) (hR h 5 0) ∧ hI h 13 0 10 = mS S 14 ∧ hI h 13 0 11 = nI (o_wt (mA S 42) (nO S)) ∧ hL h 13 0 12 = mT S 64 ∧ C_ter (hI h 11 0) (mS S 5) (mS S 6) (mS S 7) (mS S 8) (mS S 9) (mS S 10) (mS S 11) (mS S 12) ∧ C_hou (hI h 3 0) (hL h 3 0) (mS S 13) (mT S 65) (mT S 66) tr (mT S 63) ∧ hI h 5 0 3 = mS S 62 ∧ hI h 5 0 4 = mS S 20 ∧ C_kin (nK S) (hI h 4) (hL h 4) (mA S 22) (mA S 23) (mA S 24) (mB S 25) (mB S 26) ∧ C_acc (nA S) (nF S) (hI h 2) (hL h 2) (hR h 2) (mA S 55) (mA S 56) (mA S 28) (mA S 29) (mB S 27) ∧ C_fol (nA S) (nF S) (hZ h 207) (hI h 207) (mA S 55) ∧ C_rec (nR S) (hI h 9) (hL h 9) (hR h 9) (mA S 30) (mA S 31) (mA S 32) (mA S 33) (mA S 34) (mB S 35) (mB S 36) ∧ C_ord (nO S) (hI h 8) (hL h 8) (hR h 8) (mA S 37) (mA S 38) (mA S 39) (mA S 40) (mA S 41) (mA S 42) (mA S 43) (mA S 44) (mA S 45) (mA S 46) (mA S 48) (mB S 47) ∧ C_lin (nL S) (hI h 6) (hL h 6) (hR h 6) (mA S 49) (mA S 50) (mA S 51) (mA S 52) (mA S 53) (mB S 54) ∧ C_len (nE S) (hL h 7) (hR h 7) (hI h 103) (mA S 58) (mB S 59) ∧ C_row (hI h 10) (hR h 10) (hL h 100) (mA S 1) (mA S 2) (mB S 3) ∧ C_sus (nU S) (hI h 101 0) (hI h 102 0) (mA S 60) (mA S 61)
theorem CR.xA {tr : Int64} {S : z_M} {h : z_H} (q : CR tr S h) : hN h 2 = nA S := q.1
theorem CR.xK {tr : Int64} {S : z_M} {h : z_H} (q : CR tr S h) : hN h 4 = nK S := q.2.1
theorem CR.xL {tr : Int64} {S : z_M} {h : z_H} (q : CR tr S h) : hN h 6 = nL S := q.2.2.1
theorem CR.xE {tr : Int64} {S : z_M} {h : z_H} (q : CR tr S h) : hN h 7 = nE S := q.2.2.2.1
theorem CR.xO {tr : Int64} {S : z_M} {h : z_H} (q : CR tr S h) : hN h 8 = nO S := q.2.2.2.2.1
theorem CR.xR {tr : Int64} {S : z_M} {h : z_H} (q : CR tr S h) : hN h 9 = nR S := q.2.2.2.2.2.1
theorem CR.xX {tr : Int64} {S : z_M} {h : z_H} (q : CR tr S h) : hN h 103 = nE S := q.2.2.2.2.2.2.1
theorem CR.xF {tr : Int64} {S : z_M} {h : z_H} (q : CR tr S h) : hN h 207 = nA S := q.2.2.2.2.2.2.2.1
theorem CR.zK {tr : Int64} {S : z_M} {h : z_H} (q : CR tr S h) : hZ h 200 0 = nK S := q.2.2.2.2.2.2.2.2.1
theorem CR.zA {tr : Int64} {S : z_M} {h : z_H} (q : CR tr S h) : hZ h 201 0 = nA S := q.2.2.2.2.2.2.2.2.2.1
theorem CR.zR {tr : Int64} {S : z_M} {h : z_H} (q : CR tr S h) : hZ h 202 0 = nR S := q.2.2.2.2.2.2.2.2.2.2.1
theorem CR.zO {tr : Int64} {S : z_M} {h : z_H} (q : CR tr S h) : hZ h 203 0 = nO S := q.2.2.2.2.2.2.2.2.2.2.2.1
theorem CR.zE {tr : Int64} {S : z_M} {h : z_H} (q : CR tr S h) : hZ h 204 0 = nE S := q.2.2.2.2.2.2.2.2.2.2.2.2.1
theorem CR.zS {tr : Int64} {S : z_M} {h : z_H} (q : CR tr S h) : hZ h 205 0 = 4 := q.2.2.2.2.2.2.2.2.2.2.2.2.2.1
theorem CR.zL {tr : Int64} {S : z_M} {h : z_H} (q : CR tr S h) : hZ h 206 0 = nL S := q.2.2.2.2.2.2.2.2.2.2.2.2.2.2.1
theorem CR.ref {tr : Int64} {S : z_M} {h : z_H} (q : CR tr S h) : C_ref (hR h 13 0) (hR h 5 0) := q.2.2.2.2.2.2.2.2.2.2.2.2.2.2.2.1
theorem CR.day {tr : Int64} {S : z_M} {h : z_H} (q : CR tr S h) : hI h 13 0 10 = mS S 14 := q.2.2.2.2.2.2.2.2.2.2.2.2.2.2.2.2.1
theorem CR.wai {tr : Int64} {S : z_M} {h : z_H} (q : CR tr S h) : hI h 13 0 11 = nI (o_wt (mA S 42) (nO S)) := q.2.2.2.2.2.2.2.2.2.2.2.2.2.2.2.2.2.1
theorem CR.fee {tr : Int64} {S : z_M} {h : z_H} (q : CR tr S h) : hL h 13 0 12 = mT S 64 := q.2.2.2.2.2.2.2.2.2.2.2.2.2.2.2.2.2.2.1
theorem CR.ter {tr : Int64} {S : z_M} {h : z_H} (q : CR tr S h) : C_ter (hI h 11 0) (mS S 5) (mS S 6) (mS S 7) (mS S 8) (mS S 9) (mS S 10) (mS S 11) (mS S 12) := q.2.2.2.2.2.2.2.2.2.2.2.2.2.2.2.2.2.2.2.1
theorem CR.hou {tr : Int64} {S : z_M} {h : z_H} (q : CR tr S h) : C_hou (hI h 3 0) (hL h 3 0) (mS S 13) (mT S 65) (mT S 66) tr (mT S 63) := q.2.2.2.2.2.2.2.2.2.2.2.2.2.2.2.2.2.2.2.2.1
theorem CR.scn {tr : Int64} {S : z_M} {h : z_H} (q : CR tr S h) : hI h 5 0 3 = mS S 62 := q.2.2.2.2.2.2.2.2.2.2.2.2.2.2.2.2.2.2.2.2.2.1
theorem CR.fcn {tr : Int64} {S : z_M} {h : z_H} (q : CR tr S h) : hI h 5 0 4 = mS S 20 := q.2.2.2.2.2.2.2.2.2.2.2.2.2.2.2.2.2.2.2.2.2.2.1
theorem CR.kin {tr : Int64} {S : z_M} {h : z_H} (q : CR tr S h) : C_kin (nK S) (hI h 4) (hL h 4) (mA S 22) (mA S 23) (mA S 24) (mB S 25) (mB S 26) := q.2.2.2.2.2.2.2.2.2.2.2.2.2.2.2.2.2.2.2.2.2.2.2.1
theorem CR.acc {tr : Int64} {S : z_M} {h : z_H} (q : CR tr S h) : C_acc (nA S) (nF S) (hI h 2) (hL h 2) (hR h 2) (mA S 55) (mA S 56) (mA S 28) (mA S 29) (mB S 27) := q.2.2.2.2.2.2.2.2.2.2.2.2.2.2.2.2.2.2.2.2.2.2.2.2.1
theorem CR.fol {tr : Int64} {S : z_M} {h : z_H} (q : CR tr S h) : C_fol (nA S) (nF S) (hZ h 207) (hI h 207) (mA S 55) := q.2.2.2.2.2.2.2.2.2.2.2.2.2.2.2.2.2.2.2.2.2.2.2.2.2.1
theorem CR.rec {tr : Int64} {S : z_M} {h : z_H} (q : CR tr S h) : C_rec (nR S) (hI h 9) (hL h 9) (hR h 9) (mA S 30) (mA S 31) (mA S 32) (mA S 33) (mA S 34) (mB S 35) (mB S 36) := q.2.2.2.2.2.2.2.2.2.2.2.2.2.2.2.2.2.2.2.2.2.2.2.2.2.2.1
theorem CR.ord {tr : Int64} {S : z_M} {h : z_H} (q : CR tr S h) : C_ord (nO S) (hI h 8) (hL h 8) (hR h 8) (mA S 37) (mA S 38) (mA S 39) (mA S 40) (mA S 41) (mA S 42) (mA S 43) (mA S 44) (mA S 45) (mA S 46) (mA S 48) (mB S 47) := q.2.2.2.2.2.2.2.2.2.2.2.2.2.2.2.2.2.2.2.2.2.2.2.2.2.2.2.1
theorem CR.lin {tr : Int64} {S : z_M} {h : z_H} (q : CR tr S h) : C_lin (nL S) (hI h 6) (hL h 6) (hR h 6) (mA S 49) (mA S 50) (mA S 51) (mA S 52) (mA S 53) (mB S 54) := q.2.2.2.2.2.2.2.2.2.2.2.2.2.2.2.2.2.2.2.2.2.2.2.2.2.2.2.2.1
theorem CR.len {tr : Int64} {S : z_M} {h : z_H} (q : CR tr S h) : C_len (nE S) (hL h 7) (hR h 7) (hI h 103) (mA S 58) (mB S 59) := q.2.2.2.2.2.2.2.2.2.2.2.2.2.2.2.2.2.2.2.2.2.2.2.2.2.2.2.2.2.1
theorem CR.row {tr : Int64} {S : z_M} {h : z_H} (q : CR tr S h) : C_row (hI h 10) (hR h 10) (hL h 100) (mA S 1) (mA S 2) (mB S 3) := q.2.2.2.2.2.2.2.2.2.2.2.2.2.2.2.2.2.2.2.2.2.2.2.2.2.2.2.2.2.2.1
theorem CR.sus {tr : Int64} {S : z_M} {h : z_H} (q : CR tr S h) : C_sus (nU S) (hI h 101 0) (hI h 102 0) (mA S 60) (mA S 61) := q.2.2.2.2.2.2.2.2.2.2.2.2.2.2.2.2.2.2.2.2.2.2.2.2.2.2.2.2.2.2.2
/-- the model's part of the heap is as it was -/
def z_sM (h h' : z_H) : Prop := ∀ K, 300 ≤ K ∨ K = 14 → hI h' K 0 = hI h K 0 ∧ hL h' K 0 = hL h K 0 ∧ hR h' K 0 = hR h K 0
theorem z_sM.rf {h : z_H} : z_sM h h := fun _ _ => ⟨rfl, rfl, rfl⟩
theorem z_sM.tr {h h1 h2 : z_H} (a : z_sM h h1) (b : z_sM h1 h2) : z_sM h h2 := fun K q => ⟨(b K q).1.trans (a K q).1, (b K q).2.1.trans (a K q).2.1, (b K q).2.2.trans (a K q).2.2⟩
theorem z_sM.I {h h1 : z_H} (a : z_sM h h1) {K i j : Nat} {v : Int32} (hK : K < 300 ∧ K ≠ 14) : z_sM h (sI h1 K i j v) := a.tr fun K' q => ⟨by funext k'; rw [zr_hIsI, if_neg (by omega)], rfl, rfl⟩
theorem z_sM.L {h h1 : z_H} (a : z_sM h h1) {K i j : Nat} {v : Int64} (hK : K < 300 ∧ K ≠ 14) : z_sM h (sL h1 K i j v) := a.tr fun K' q => ⟨rfl, by funext k'; rw [zr_hLsL, if_neg (by omega)], rfl⟩
theorem z_sM.R {h h1 : z_H} (a : z_sM h h1) {K i j : Nat} {v : Option (Nat × Nat)} (hK : K < 300 ∧ K ≠ 14) : z_sM h (sR h1 K i j v) := a.tr fun K' q => ⟨rfl, rfl, by funext k'; rw [zr_hRsR, if_neg (by omega)]⟩
theorem z_sM.Z {h h1 : z_H} (a : z_sM h h1) {K i v : Nat} : z_sM h (sZ h1 K i v) := a.tr fun K' q => ⟨rfl, rfl, rfl⟩
theorem z_sM.N {h h1 : z_H} (a : z_sM h h1) {K v : Nat} : z_sM h (sN h1 K v) := a.tr fun K' q => ⟨rfl, rfl, rfl⟩
theorem z_sM.W {h h1 : z_H} (a : z_sM h h1) {K : Nat} (hK : K < 300 ∧ K ≠ 14) : z_sM h (z_nw h1 K) := a.tr fun K' q => ⟨by funext k'; rw [zr_hInw, if_neg (by omega)], by funext k'; rw [zr_hLnw, if_neg (by omega)], by funext k'; rw [zr_hRnw, if_neg (by omega)]⟩
theorem z_sM.C {h h1 : z_H} (a : z_sM h h1) {i1 sp i2 dp n : Nat} : z_sM h (z_cpy h1 i1 sp i2 dp n) := a.tr fun K' q => ⟨rfl, by
  funext k'
  show (if K' = 100 ∧ _ then _ else _) = _
  rw [if_neg (by omega)]
  rfl, rfl⟩
theorem z_sM.mv {h h' : z_H} (a : z_sM h h') : mv h' = mv h := by
  refine z_M_ext (fun k j => ?_) (fun k j => ?_) (fun k => ?_) (fun k => ?_)
  · rw [mA_mv, mA_mv, (a (300 + k) (Or.inl (by omega))).1]
  · rw [mB_mv, mB_mv, (a (300 + k) (Or.inl (by omega))).2.1]
  · rw [mS_mv, mS_mv, (a 14 (Or.inr rfl)).1]
  · rw [mT_mv, mT_mv, (a 14 (Or.inr rfl)).2.1]
theorem z_sM.mr {h h' : z_H} (a : z_sM h h') (b : z_MR h) : z_MR h' := by
  unfold z_MR at b ⊢
  rw [(a 14 (Or.inr rfl)).2.2, b]
theorem CR.keep {tr : Int64} {S : z_M} {h h' : z_H} (q : CR tr S h) (a : z_sC h h') : CR tr S h' := by
  have e : ∀ K, K < 300 → K ≠ 14 → hI h' K = hI h K ∧ hL h' K = hL h K ∧ hR h' K = hR h K := a.1
  have e1 := a.2.1
  have e2 := a.2.2
  unfold CR at q ⊢
  rw [e1, e2, (e 13 (by decide) (by decide)).2.2, (e 5 (by decide) (by decide)).2.2, (e 13 (by decide) (by decide)).1, (e 13 (by decide) (by decide)).2.1, (e 11 (by decide) (by decide)).1, (e 3 (by decide) (by decide)).1, (e 3 (by decide) (by decide)).2.1, (e 5 (by decide) (by decide)).1, (e 4 (by decide) (by decide)).1, (e 4 (by decide) (by decide)).2.1, (e 2 (by decide) (by decide)).1, (e 2 (by decide) (by decide)).2.1, (e 2 (by decide) (by decide)).2.2, (e 207 (by decide) (by decide)).1, (e 9 (by decide) (by decide)).1, (e 9 (by decide) (by decide)).2.1, (e 9 (by decide) (by decide)).2.2, (e 8 (by decide) (by decide)).1, (e 8 (by decide) (by decide)).2.1, (e 8 (by decide) (by decide)).2.2, (e 6 (by decide) (by decide)).1, (e 6 (by decide) (by decide)).2.1, (e 6 (by decide) (by decide)).2.2, (e 7 (by decide) (by decide)).2.1, (e 7 (by decide) (by decide)).2.2, (e 103 (by decide) (by decide)).1, (e 10 (by decide) (by decide)).1, (e 10 (by decide) (by decide)).2.2, (e 100 (by decide) (by decide)).2.1, (e 101 (by decide) (by decide)).1, (e 102 (by decide) (by decide)).1]
  exact q
end
section
/-! numbers -/
theorem i32e {x y : Int32} : (x = y) = (x.toInt = y.toInt) := propext Int32.toInt_inj.symm
theorem i64e {x y : Int64} : (x = y) = (x.toInt = y.toInt) := propext Int64.toInt_inj.symm
theorem vpi {x : Int32} {n : Nat} (h : 0 ≤ x.toInt ∧ x.toInt < (n : Int)) : vp_in x n := vp_in_iff.mpr h
theorem ci_nI {n : Nat} (h : n < 2 ^ 31) : ci (nI n) = n := nI_clamp h
theorem ci_int {x : Int32} (h : 0 ≤ x.toInt) : (ci x : Int) = x.toInt := by
  show ((x.toInt.toNat : Nat) : Int) = x.toInt
  omega
theorem ci_e {x : Int32} (h : 0 ≤ x.toInt) : x = nI (ci x) := by
  obtain ⟨j, h1, h2⟩ := nI_of (x := x) (fun q => by rw [Int32.lt_iff_toInt_lt] at q; have : (0 : Int32).toInt = 0 := rfl; omega)
  rw [h2, ci_nI h1]
theorem ci_lt {x : Int32} {n : Nat} (h : isx x n) : ci x < n := by
  have := ci_int h.1
  have := h.2
  omega
theorem J_n.t {v : Int32} {b : Nat} (h : J_n v b) (hb : b < 2 ^ 31 := by decide) : v.toInt = (ci v : Int) := by
  have := h.2
  rw [h.1, nI_toInt (by omega), ci_nI (by omega)]
theorem J_n.s {v : Int32} {b : Nat} (h : J_n v b) : v + 1 = nI (ci v + 1) := by
  rw [← nI_1, ← h.1]
theorem nI_mul (a b : Nat) : nI a * nI b = nI (a * b) := (Int32.ofNat_mul a b).symm
theorem ix60 (s i : Nat) : (60 : Int32) * nI s + nI i = nI (60 * s + i) := by
  rw [show (60 : Int32) = nI 60 from rfl, nI_mul, nI_add]
theorem ix32 (s i : Nat) : (32 : Int32) * nI s + nI i = nI (32 * s + i) := by
  rw [show (32 : Int32) = nI 32 from rfl, nI_mul, nI_add]
theorem l_ge {a b : Int} {n : Nat} (h : a.bmod n = a) (h2 : b = a) : b.bmod n = a := by rw [h2, h]
theorem ofInt32 {z : Int} (h1 : -2147483648 ≤ z) (h2 : z ≤ 2147483647) : (Int32.ofInt z).toInt = z := by
  rw [Int32.toInt_ofInt]
  show z.bmod 4294967296 = z
  unfold Int.bmod
  simp only []
  split <;> omega
theorem add64 {x y : Int64} (h1 : -9223372036854775808 ≤ x.toInt + y.toInt) (h2 : x.toInt + y.toInt ≤ 9223372036854775807) : (x + y).toInt = x.toInt + y.toInt := by
  rw [Int64.toInt_add]
  show (x.toInt + y.toInt).bmod 18446744073709551616 = _
  unfold Int.bmod
  simp only []
  split <;> omega
theorem sub64 {x y : Int64} (h1 : -9223372036854775808 ≤ x.toInt - y.toInt) (h2 : x.toInt - y.toInt ≤ 9223372036854775807) : (x - y).toInt = x.toInt - y.toInt := by
  rw [Int64.toInt_sub]
  show (x.toInt - y.toInt).bmod 18446744073709551616 = _
  unfold Int.bmod
  simp only []
  split <;> omega
theorem add32 {x y : Int32} (h1 : -2147483648 ≤ x.toInt + y.toInt) (h2 : x.toInt + y.toInt ≤ 2147483647) : (x + y).toInt = x.toInt + y.toInt := by
  rw [Int32.toInt_add]
  show (x.toInt + y.toInt).bmod 4294967296 = _
  unfold Int.bmod
  simp only []
  split <;> omega
theorem sub32 {x y : Int32} (h1 : -2147483648 ≤ x.toInt - y.toInt) (h2 : x.toInt - y.toInt ≤ 2147483647) : (x - y).toInt = x.toInt - y.toInt := by
  rw [Int32.toInt_sub]
  show (x.toInt - y.toInt).bmod 4294967296 = _
  unfold Int.bmod
  simp only []
  split <;> omega
theorem i32b (x : Int32) : -2147483648 ≤ x.toInt ∧ x.toInt ≤ 2147483647 := by
  have h1 := Int32.le_toInt x
  have h2 := Int32.toInt_lt x
  simp at h1 h2
  omega
theorem i64b (x : Int64) : -9223372036854775808 ≤ x.toInt ∧ x.toInt ≤ 9223372036854775807 := by
  have h1 := Int64.le_toInt x
  have h2 := Int64.toInt_lt x
  simp at h1 h2
  omega
theorem l_add {x y : Int32} : (x.toInt64 + y.toInt64).toInt = x.toInt + y.toInt := by
  have := i32b x
  have := i32b y
  rw [add64 (by rw [Int32.toInt_toInt64, Int32.toInt_toInt64]; omega) (by rw [Int32.toInt_toInt64, Int32.toInt_toInt64]; omega), Int32.toInt_toInt64, Int32.toInt_toInt64]
theorem qi' {h h' : z_H} {x : Int32} {p : Int32 × z_M} (e : p = (x, mv h')) (hc : z_sC h h') (hr : z_MR h') : Qi h p (some (z_i x)) h' := qi e rfl hc hr
theorem ql' {h h' : z_H} {x : Int64} {p : Int64 × z_M} (e : p = (x, mv h')) (hc : z_sC h h') (hr : z_MR h') : Ql h p (some (z_l x)) h' := ql e rfl hc hr
theorem qv' {h h' : z_H} {S : z_M} (e : mv h' = S) (hc : z_sC h h') (hr : z_MR h') : Qv h S none h' := qv e hc hr
end
section
/-! a method whose judgement may forget locals; loops; switches; lists -/
theorem z_mt2 {l : Launch} {G : z_G} {d : Nat} {y : MethodName} {cc : ByteArray} {mL : Nat} {rt : Option FieldType} {as : List z_V} {h : z_H} {mc ms : Nat} {Q : Option z_V → z_H → Prop} (yk : Nat) (ini : Bool) (hy : plainName y.cls = true ∧ y.cls = kO yk ∧ (ini = true → y.name = "<init>")) (hw : z_w as ≤ mL)
    (HA : ∀ A : Nat → z_K, (∀ (es : List z_E) (pc ep : Nat), z_chk yk ini cc mL pc es ep = true → ∀ ls st h' ce sl, z_wp l G d mc ms y.cls A (z_T rt mc ms Q) ep es ls st h' ce sl → A pc ls st h' ce sl) → (∀ (ex : z_L) (pc : Nat) ls st h' ce sl, A pc ls st h' ce sl → A pc (ls ++ ex) st h' ce sl) → A 0 (z_args 0 as) [] h 0 0) : z_MT l G d y cc mL rt as h mc ms Q := by
  intro ad
  refine Met.ofW (cc := cc) (maxL := mL) (ret := rt) hy.1 rfl ?_
  intro p e s m args below meth c s₁ B hml hv
  obtain ⟨rfl, ⟨hKN, hHR⟩, hok⟩ := hv
  have hts := atoms_spec (ws := Cond.code y cc mL rt :: z_tbl) B.pre
  have hlk := B.notSynchronized
  have C : z_Cx p (z_rm d mc ms) s m (as.map (z_val ad)).toArray meth c G y cc mL d mc ms := ⟨B.exec, B.bytes, hml, findClass_of_methodNamed B.named, (name_of_methodNamed B.named B.method).1, fun w hw => hts w (List.mem_cons_of_mem _ hw), hKN, rfl, Nat.le_refl _, rfl, rfl⟩
  have hr := B.returns
  have hRT : z_RT (z_At p l e (z_rm d mc ms) s m (as.map (z_val ad)).toArray below meth c G ad h mL (MQ below (z_Qc G ad h Q) (as.map (z_val ad)).toArray s mc ms (z_A G))) (z_T rt mc ms Q) cc := by
    refine ⟨fun pc ls h ce sl x hd hq => ?_, fun pc ls h ce sl x hd hq => ?_, fun pc ls h ce sl x hd hq => ?_, fun pc ls h ce sl hd hq => ?_⟩
    · obtain ⟨q1, q2, q3, q4⟩ := hq
      unfold z_rt at q3
      split at q3
      · exact zs_ireturn C hlk hd hr (Or.inl rfl) q1 q2 q4
      · rename_i hq; cases hq; exact zs_ireturn C hlk hd hr (Or.inr ⟨rfl, q3⟩) q1 q2 q4
      · rename_i hq; cases hq
      · rename_i hq; cases hq
      · rename_i hq; cases hq
      · exact q3.elim
    · obtain ⟨q1, q2, q3, q4⟩ := hq
      unfold z_rt at q3
      split at q3
      · rename_i hq; cases hq
      · rename_i hq; cases hq
      · exact zs_lreturn C hlk hd hr q1 q2 q4
      · rename_i hq; cases hq
      · rename_i hq; cases hq
      · exact q3.elim
    · obtain ⟨q1, q2, q3, q4⟩ := hq
      unfold z_rt at q3
      split at q3
      · rename_i hq; cases hq
      · rename_i hq; cases hq
      · rename_i hq; cases hq
      · exact zs_areturn C hlk hd hr (Or.inl ⟨_, rfl⟩) q1 q2 q4
      · rename_i hq; cases hq
      · exact q3.elim
    · obtain ⟨q1, q2, q3, q4⟩ := hq
      unfold z_rt at q3
      split at q3
      · rename_i hq; cases hq
      · rename_i hq; cases hq
      · rename_i hq; cases hq
      · rename_i hq; cases hq
      · exact zs_return C hlk hd hr q1 q2 q4
      · exact q3.elim
  have hA := HA _ (z_blk C hRT hy.2.1 hy.2.2) (fun ex pc ls st h' ce sl k ad H locs la g1 g2 g3 g4 g5 => k ad H locs la g1 g2 ⟨fun q hq => g3.1 q (List.mem_append_left _ hq), g3.2⟩ g4 ⟨g5.1, g5.2.1, fun q hq => g5.2.2 q (by rw [show z_lm ad (ls ++ ex) = z_lm ad ls ++ z_lm ad ex from List.map_append]; exact List.mem_append_left _ hq)⟩)
  have hl := lv_entry (as.map (z_val ad)) (n := mL) (by rw [z_sl_len]; exact hw)
  rw [lg_entry_eq]
  refine hA ad s.heap [] _ hHR z_EX.rf ⟨z_args_ok hok 0, fun v hv => by cases hv⟩ (fun x hx => by cases hx) ?_
  rw [z_args_lm]
  exact hl
theorem z_loop {n : Nat} {P : Nat → Prop} (h : ∀ i, i ≤ n → (i < n → P (i + 1)) → P i) (i : Nat) (hi : i ≤ n) : P i := by
  have key : ∀ k i, i + k = n → P i := by
    intro k
    induction k with
    | zero => exact fun i e => h i (by omega) (fun q => absurd q (by omega))
    | succ k ih => exact fun i e => h i (by omega) (fun _ => ih (i + 1) (by omega))
  exact key (n - i) i (by omega)
theorem op_n {α : Type} {p : Prop} [Decidable p] {x : α} : ((if p then some x else none) = none) = ¬ p := by
  by_cases h : p
  · rw [if_pos h]
    exact propext ⟨fun q => (nomatch q), fun q => absurd h q⟩
  · rw [if_neg h]
    exact propext ⟨fun _ => h, fun _ => rfl⟩
theorem op_p {α : Type} {p : Prop} [Decidable p] {x y : α} (q : (if p then some x else none) = some y) : p := by
  by_cases h : p
  · exact h
  · rw [if_neg h] at q
    exact (nomatch q)
theorem z_swA {A : Nat → z_K} {pc : Nat} {d lo hi x : Int} {offs : List Int} {ls : z_L} {st : z_S} {h : z_H} {ce sl : Nat} (T : Nat) (v : Int) (hx : x = v) (ht : z_sw pc d lo hi offs v = T) (k : A T ls st h ce sl) : A (z_sw pc d lo hi offs x) ls st h ce sl := by
  rw [hx, ht]
  exact k
theorem z_swD {A : Nat → z_K} {pc : Nat} {d lo hi x : Int} {offs : List Int} {ls : z_L} {st : z_S} {h : z_H} {ce sl : Nat} (T : Nat) (hx : x < lo ∨ hi < x) (ht : ((pc : Int) + d).toNat = T) (k : A T ls st h ce sl) : A (z_sw pc d lo hi offs x) ls st h ce sl := by
  unfold z_sw
  rw [if_pos hx, ht]
  exact k
theorem z_lkA {A : Nat → z_K} {pc : Nat} {d x : Int} {ps : List (Int × Int)} {ls : z_L} {st : z_S} {h : z_H} {ce sl : Nat} (T : Nat) (v : Int) (hx : x = v) (ht : z_lk pc d ps v = T) (k : A T ls st h ce sl) : A (z_lk pc d ps x) ls st h ce sl := by
  rw [hx, ht]
  exact k
theorem zl_200 : z_lst 200 = true := rfl
theorem lT_200 : lT 200 = 4 := rfl
theorem zl_201 : z_lst 201 = true := rfl
theorem lT_201 : lT 201 = 2 := rfl
theorem zl_202 : z_lst 202 = true := rfl
theorem lT_202 : lT 202 = 9 := rfl
theorem zl_203 : z_lst 203 = true := rfl
theorem lT_203 : lT 203 = 8 := rfl
theorem zl_204 : z_lst 204 = true := rfl
theorem lT_204 : lT 204 = 7 := rfl
theorem zl_205 : z_lst 205 = true := rfl
theorem lT_205 : lT 205 = 10 := rfl
theorem zl_206 : z_lst 206 = true := rfl
theorem lT_206 : lT 206 = 6 := rfl
theorem zl_207 : z_lst 207 = true := rfl
theorem kF_2 : kF 2 = 7 := rfl
theorem kF_3 : kF 3 = 5 := rfl
theorem kF_4 : kF 4 = 6 := rfl
theorem kF_5 : kF 5 = 5 := rfl
theorem kF_6 : kF 6 = 6 := rfl
theorem kF_7 : kF 7 = 2 := rfl
theorem kF_8 : kF 8 = 12 := rfl
theorem kF_9 : kF 9 = 7 := rfl
theorem kF_10 : kF 10 = 4 := rfl
theorem kF_11 : kF 11 = 8 := rfl
theorem kF_12 : kF 12 = 4 := rfl
theorem kF_13 : kF 13 = 13 := rfl
theorem kF_14 : kF 14 = 67 := rfl
theorem zr_hInwN {h : z_H} {K K' : Nat} (e : K' ≠ K) : hI (z_nw h K) K' = hI h K' := by
  funext i k
  rw [zr_hInw, if_neg (fun q => e q.1)]
theorem zr_hLnwN {h : z_H} {K K' : Nat} (e : K' ≠ K) : hL (z_nw h K) K' = hL h K' := by
  funext i k
  rw [zr_hLnw, if_neg (fun q => e q.1)]
theorem zr_hRnwN {h : z_H} {K K' : Nat} (e : K' ≠ K) : hR (z_nw h K) K' = hR h K' := by
  funext i k
  rw [zr_hRnw, if_neg (fun q => e q.1)]
theorem b2_1 {c : Prop} [Decidable c] : (b2 c = 1) = c := by
  by_cases h : c
  · rw [b2_t h]; exact propext ⟨fun _ => h, fun _ => rfl⟩
  · rw [b2_f h]; exact propext ⟨fun q => absurd q (by decide), fun q => absurd q h⟩
theorem zc_1000 : ((1000 : Int64) = 0) = False := eq_false (by decide)
theorem zc_100 : ((100 : Int64) = 0) = False := eq_false (by decide)
theorem zc_10 : ((10 : Int64) = 0) = False := eq_false (by decide)
theorem zc_9 : ((9 : Int64) = 0) = False := eq_false (by decide)
theorem zc_2 : ((2 : Int64) = 0) = False := eq_false (by decide)
section ZR2
variable {l : Launch} {G : z_G} {d MC MS : Nat} {own : String} {A : Nat → z_K} {T : Option z_V → z_H → Nat → Nat → Prop} {ls : z_L} {st : z_S} {h : z_H} {ce sl : Nat} {k : z_K} {n a b : Nat} {z : Int}
theorem zr_iload_n0 : z_stp l G d MC MS own A T (.iload_n 0, n, a, b, z) ls st h ce sl k = eI (z_get ls 0) fun x => k ls (z_i x :: st) h ce sl := rfl
theorem zr_lload_n0 : z_stp l G d MC MS own A T (.lload_n 0, n, a, b, z) ls st h ce sl k = eL (z_get ls 0) fun x => k ls (z_l x :: st) h ce sl := rfl
theorem zr_aload_n0 : z_stp l G d MC MS own A T (.aload_n 0, n, a, b, z) ls st h ce sl k = eR (z_get ls 0) fun x => k ls (z_q x :: st) h ce sl := rfl
theorem zr_istore_n0 : z_stp l G d MC MS own A T (.istore_n 0, n, a, b, z) ls st h ce sl k = pI st fun x st => k (z_put ls 0 (z_i x)) st h ce sl := rfl
theorem zr_lstore_n0 : z_stp l G d MC MS own A T (.lstore_n 0, n, a, b, z) ls st h ce sl k = pL st fun x st => k (z_put ls 0 (z_l x)) st h ce sl := rfl
theorem zr_astore_n0 : z_stp l G d MC MS own A T (.astore_n 0, n, a, b, z) ls st h ce sl k = pR st fun x st => k (z_put ls 0 (z_q x)) st h ce sl := rfl
theorem zr_iload_n1 : z_stp l G d MC MS own A T (.iload_n 1, n, a, b, z) ls st h ce sl k = eI (z_get ls 1) fun x => k ls (z_i x :: st) h ce sl := rfl
theorem zr_lload_n1 : z_stp l G d MC MS own A T (.lload_n 1, n, a, b, z) ls st h ce sl k = eL (z_get ls 1) fun x => k ls (z_l x :: st) h ce sl := rfl
theorem zr_aload_n1 : z_stp l G d MC MS own A T (.aload_n 1, n, a, b, z) ls st h ce sl k = eR (z_get ls 1) fun x => k ls (z_q x :: st) h ce sl := rfl
theorem zr_istore_n1 : z_stp l G d MC MS own A T (.istore_n 1, n, a, b, z) ls st h ce sl k = pI st fun x st => k (z_put ls 1 (z_i x)) st h ce sl := rfl
theorem zr_lstore_n1 : z_stp l G d MC MS own A T (.lstore_n 1, n, a, b, z) ls st h ce sl k = pL st fun x st => k (z_put ls 1 (z_l x)) st h ce sl := rfl
theorem zr_astore_n1 : z_stp l G d MC MS own A T (.astore_n 1, n, a, b, z) ls st h ce sl k = pR st fun x st => k (z_put ls 1 (z_q x)) st h ce sl := rfl
theorem zr_iload_n2 : z_stp l G d MC MS own A T (.iload_n 2, n, a, b, z) ls st h ce sl k = eI (z_get ls 2) fun x => k ls (z_i x :: st) h ce sl := rfl
theorem zr_lload_n2 : z_stp l G d MC MS own A T (.lload_n 2, n, a, b, z) ls st h ce sl k = eL (z_get ls 2) fun x => k ls (z_l x :: st) h ce sl := rfl
theorem zr_aload_n2 : z_stp l G d MC MS own A T (.aload_n 2, n, a, b, z) ls st h ce sl k = eR (z_get ls 2) fun x => k ls (z_q x :: st) h ce sl := rfl
theorem zr_istore_n2 : z_stp l G d MC MS own A T (.istore_n 2, n, a, b, z) ls st h ce sl k = pI st fun x st => k (z_put ls 2 (z_i x)) st h ce sl := rfl
theorem zr_lstore_n2 : z_stp l G d MC MS own A T (.lstore_n 2, n, a, b, z) ls st h ce sl k = pL st fun x st => k (z_put ls 2 (z_l x)) st h ce sl := rfl
theorem zr_astore_n2 : z_stp l G d MC MS own A T (.astore_n 2, n, a, b, z) ls st h ce sl k = pR st fun x st => k (z_put ls 2 (z_q x)) st h ce sl := rfl
theorem zr_iload_n3 : z_stp l G d MC MS own A T (.iload_n 3, n, a, b, z) ls st h ce sl k = eI (z_get ls 3) fun x => k ls (z_i x :: st) h ce sl := rfl
theorem zr_lload_n3 : z_stp l G d MC MS own A T (.lload_n 3, n, a, b, z) ls st h ce sl k = eL (z_get ls 3) fun x => k ls (z_l x :: st) h ce sl := rfl
theorem zr_aload_n3 : z_stp l G d MC MS own A T (.aload_n 3, n, a, b, z) ls st h ce sl k = eR (z_get ls 3) fun x => k ls (z_q x :: st) h ce sl := rfl
theorem zr_istore_n3 : z_stp l G d MC MS own A T (.istore_n 3, n, a, b, z) ls st h ce sl k = pI st fun x st => k (z_put ls 3 (z_i x)) st h ce sl := rfl
theorem zr_lstore_n3 : z_stp l G d MC MS own A T (.lstore_n 3, n, a, b, z) ls st h ce sl k = pL st fun x st => k (z_put ls 3 (z_l x)) st h ce sl := rfl
theorem zr_astore_n3 : z_stp l G d MC MS own A T (.astore_n 3, n, a, b, z) ls st h ce sl k = pR st fun x st => k (z_put ls 3 (z_q x)) st h ce sl := rfl
theorem zr_lconst0 : z_stp l G d MC MS own A T (.lconst 0, n, a, b, z) ls st h ce sl k = k ls (z_l 0 :: st) h ce sl := rfl
theorem zr_lconst1 : z_stp l G d MC MS own A T (.lconst 1, n, a, b, z) ls st h ce sl k = k ls (z_l 1 :: st) h ce sl := rfl
end ZR2
theorem zq_pA0 {st : z_S} {as : List z_V} {f : List z_V → z_S → Prop} : pA 0 st as f = f as st := id rfl
theorem zq_pA {n : Nat} {st : z_S} {x : z_V} {as : List z_V} {f : List z_V → z_S → Prop} : pA (n + 1) (x :: st) as f = pA n st (x :: as) f := id rfl
theorem rc_2 {i : Nat} {y : MethodName} {as : List z_V} (e : y.cls = RX0) : z_rcv 0 y (z_r 2 i :: as) := ⟨show z_obj 2 = true from by decide, e.symm⟩
theorem rc_3 {i : Nat} {y : MethodName} {as : List z_V} (e : y.cls = RX1) : z_rcv 0 y (z_r 3 i :: as) := ⟨show z_obj 3 = true from by decide, e.symm⟩
theorem rc_4 {i : Nat} {y : MethodName} {as : List z_V} (e : y.cls = RX2) : z_rcv 0 y (z_r 4 i :: as) := ⟨show z_obj 4 = true from by decide, e.symm⟩
theorem rc_5 {i : Nat} {y : MethodName} {as : List z_V} (e : y.cls = RX3) : z_rcv 0 y (z_r 5 i :: as) := ⟨show z_obj 5 = true from by decide, e.symm⟩
theorem rc_6 {i : Nat} {y : MethodName} {as : List z_V} (e : y.cls = RX4) : z_rcv 0 y (z_r 6 i :: as) := ⟨show z_obj 6 = true from by decide, e.symm⟩
theorem rc_7 {i : Nat} {y : MethodName} {as : List z_V} (e : y.cls = RX5) : z_rcv 0 y (z_r 7 i :: as) := ⟨show z_obj 7 = true from by decide, e.symm⟩
theorem rc_8 {i : Nat} {y : MethodName} {as : List z_V} (e : y.cls = RX6) : z_rcv 0 y (z_r 8 i :: as) := ⟨show z_obj 8 = true from by decide, e.symm⟩
theorem rc_9 {i : Nat} {y : MethodName} {as : List z_V} (e : y.cls = RX7) : z_rcv 0 y (z_r 9 i :: as) := ⟨show z_obj 9 = true from by decide, e.symm⟩
theorem rc_10 {i : Nat} {y : MethodName} {as : List z_V} (e : y.cls = RX8) : z_rcv 0 y (z_r 10 i :: as) := ⟨show z_obj 10 = true from by decide, e.symm⟩
theorem rc_11 {i : Nat} {y : MethodName} {as : List z_V} (e : y.cls = RX9) : z_rcv 0 y (z_r 11 i :: as) := ⟨show z_obj 11 = true from by decide, e.symm⟩
theorem rc_12 {i : Nat} {y : MethodName} {as : List z_V} (e : y.cls = RX10) : z_rcv 0 y (z_r 12 i :: as) := ⟨show z_obj 12 = true from by decide, e.symm⟩
theorem rc_13 {i : Nat} {y : MethodName} {as : List z_V} (e : y.cls = RX11) : z_rcv 0 y (z_r 13 i :: as) := ⟨show z_obj 13 = true from by decide, e.symm⟩
theorem rc_14 {i : Nat} {y : MethodName} {as : List z_V} (e : y.cls = RX12) : z_rcv 0 y (z_r 14 i :: as) := ⟨show z_obj 14 = true from by decide, e.symm⟩
end
section
/-! counts over changed rows; the invariant over the primitive changes (pure) -/
theorem uA_at {S : z_M} {k j : Nat} {v : Int32} : mA (uA S k j v) k j = v := if_pos ⟨rfl, rfl⟩
theorem uA_of {S : z_M} {k j j' : Nat} {v : Int32} (h : j' ≠ j) : mA (uA S k j v) k j' = mA S k j' := if_neg (fun q => h q.2)
theorem uB_at {S : z_M} {k j : Nat} {v : Int64} : mB (uB S k j v) k j = v := if_pos ⟨rfl, rfl⟩
theorem uB_of {S : z_M} {k j j' : Nat} {v : Int64} (h : j' ≠ j) : mB (uB S k j v) k j' = mB S k j' := if_neg (fun q => h q.2)
theorem uS_at {S : z_M} {k : Nat} {v : Int32} : mS (uS S k v) k = v := if_pos rfl
theorem J_nI {n b : Nat} (h : n ≤ b) (hb : b < 2 ^ 31 := by decide) : J_n (nI n) b := by
  unfold J_n
  rw [ci_nI (by omega)]
  exact ⟨rfl, h⟩
theorem o_wt_c {w w' : Nat → Int32} {n : Nat} (h : ∀ j, j < n → w' j = w j) : o_wt w' n = o_wt w n := by
  induction n with
  | zero => rfl
  | succ n ih =>
    show o_wt w' n + (if (w' n).toInt = 0 then 1 else 0) = o_wt w n + (if (w n).toInt = 0 then 1 else 0)
    rw [ih (fun j hj => h j (by omega)), h n (by omega)]
theorem o_wt_u {w w' : Nat → Int32} {n o : Nat} (ho : o < n) (h : ∀ j, j ≠ o → w' j = w j) (h0 : (w o).toInt = 0) (h1 : ¬ (w' o).toInt = 0) : o_wt w' n + 1 = o_wt w n := by
  induction n with
  | zero => omega
  | succ n ih =>
    show o_wt w' n + (if (w' n).toInt = 0 then 1 else 0) + 1 = o_wt w n + (if (w n).toInt = 0 then 1 else 0)
    by_cases e : o = n
    · subst e
      rw [if_neg h1, if_pos h0, o_wt_c (w := w) (w' := w') (fun j hj => h j (by omega))]
    · rw [h n (fun q => e q.symm), ← ih (by omega)]
      omega
theorem o_cL_c {w w' : Nat → Int32} {n : Nat} (h : ∀ j, j < n → w' j = w j) : o_cL w' n = o_cL w n := by
  induction n with
  | zero => rfl
  | succ n ih =>
    show o_cL w' n + (if (w' n).toInt = -1 then 0 else 1) = o_cL w n + (if (w n).toInt = -1 then 0 else 1)
    rw [ih (fun j hj => h j (by omega)), h n (by omega)]
abbrev o_cc (x y : Int32) : Nat := if x.toInt = 1 then (if y.toInt = -1 then 1 else 2) else 0
theorem o_cO_c {a a' b b' : Nat → Int32} {n : Nat} (h : ∀ j, j < n → o_cc (a' j) (b' j) = o_cc (a j) (b j)) : o_cO a' b' n = o_cO a b n := by
  induction n with
  | zero => rfl
  | succ n ih =>
    show o_cO a' b' n + o_cc (a' n) (b' n) = o_cO a b n + o_cc (a n) (b n)
    rw [ih (fun j hj => h j (by omega)), h n (by omega)]
theorem o_cO_u {a a' b b' : Nat → Int32} {n o : Nat} (ho : o < n) (h : ∀ j, j ≠ o → a' j = a j ∧ b' j = b j) (h1 : o_cc (a' o) (b' o) = o_cc (a o) (b o) + 1) : o_cO a' b' n = o_cO a b n + 1 := by
  induction n with
  | zero => omega
  | succ n ih =>
    show o_cO a' b' n + o_cc (a' n) (b' n) = o_cO a b n + o_cc (a n) (b n) + 1
    by_cases e : o = n
    · subst e
      rw [h1, o_cO_c (a := a) (a' := a') (b := b) (b' := b') (fun j hj => by rw [(h j (by omega)).1, (h j (by omega)).2])]
      omega
    · rw [(h n (fun q => e q.symm)).1, (h n (fun q => e q.symm)).2, ih (by omega)]
      omega
theorem o_cO_le {a b : Nat → Int32} {n : Nat} : o_cO a b n ≤ 2 * n := by
  induction n with
  | zero => exact Nat.le_refl _
  | succ n ih =>
    show o_cO a b n + o_cc (a n) (b n) ≤ _
    have : o_cc (a n) (b n) ≤ 2 := by unfold o_cc; (repeat' split) <;> omega
    omega

theorem inv_bal {S : z_M} {a : Nat} {v : Int64} (inv : INV S) (ha : a < nA S) : INV (uB S 27 a v) := by
  unfold INV
  refine ⟨inv.cK, inv.cA, inv.cR, inv.cO, inv.cL, inv.cF, inv.cE, inv.cD, inv.cU, inv.fl, inv.rm, inv.ter, inv.kin, inv.row, ?_, inv.rec, inv.ord, inv.lin, inv.fol, inv.len, inv.sus, inv.tak⟩
  intro a' h1 h2
  have h1' : nA S ≤ a' := h1
  refine ⟨(inv.acc a' h1 h2).1, ?_⟩
  rw [uB_of (by omega)]
  exact (inv.acc a' h1 h2).2
theorem inv_how {S : z_M} {o : Nat} {x : Int32} (inv : INV S) (ho : o < nO S) (hw : (mA S 42 o).toInt = 0) (hx : x.toInt = 2 ∨ x.toInt = 3) : INV (uA S 42 o x) ∧ nL S + 3 * o_wt (mA (uA S 42 o x) 42) (nO S) + 3 ≤ 2000 := by
  have hw' : o_wt (mA (uA S 42 o x) 42) (nO S) + 1 = o_wt (mA S 42) (nO S) := o_wt_u ho (fun j hj => uA_of hj) hw (by rw [uA_at]; omega)
  have hr := inv.rm
  refine ⟨?_, by omega⟩
  unfold INV
  refine ⟨inv.cK, inv.cA, inv.cR, inv.cO, inv.cL, inv.cF, inv.cE, inv.cD, inv.cU, inv.fl, ?_, inv.ter, inv.kin, inv.row, inv.acc, inv.rec, ?_, inv.lin, inv.fol, inv.len, ?_, inv.tak⟩
  · show nL S + 3 * o_wt (mA (uA S 42 o x) 42) (nO S) ≤ 2000
    omega
  · unfold J_ord
    refine ⟨fun o' ho' => ?_, inv.ord.2⟩
    have j := inv.ord.1 o' ho'
    refine ⟨j.1, j.2.1, j.2.2.1, j.2.2.2.1, ?_, j.2.2.2.2.2.1, j.2.2.2.2.2.2.1, j.2.2.2.2.2.2.2.1, j.2.2.2.2.2.2.2.2.1, j.2.2.2.2.2.2.2.2.2.1, j.2.2.2.2.2.2.2.2.2.2.1, ?_⟩
    · by_cases e : o' = o
      · rw [e, uA_at]; omega
      · rw [uA_of e]; exact j.2.2.2.2.1
    · by_cases e : o' = o
      · rw [e, uA_at]; omega
      · rw [uA_of e]; exact j.2.2.2.2.2.2.2.2.2.2.2
  · unfold J_sus
    have e1 : o_cO (mA (uA S 42 o x) 42) (mA S 46) (nO S) = o_cO (mA S 42) (mA S 46) (nO S) := o_cO_c (fun j hj => by
      by_cases e : j = o
      · rw [e, uA_at]
        unfold o_cc
        rw [if_neg (by omega), if_neg (by omega)]
      · rw [uA_of e])
    have e2 := inv.sus
    unfold J_sus at e2
    rw [← e1] at e2
    exact e2
theorem o_fol_in (w : Nat → Int32) (a : Int32) (n : Nat) (hn : n < 2000000000) : -1 ≤ (o_fol w a n).toInt ∧ (o_fol w a n).toInt < (n : Int) := by
  induction n with
  | zero => exact (show -1 ≤ (-1 : Int32).toInt ∧ (-1 : Int32).toInt < ((0 : Nat) : Int) from by decide)
  | succ n ih =>
    have i1 := ih (by omega)
    unfold o_fol
    split
    · rw [nI_toInt (by omega)]
      omega
    · omega
theorem ff_S {S : z_M} {a : Int32} {k : Nat} (h : k ≠ 20) : mS (o_ff S a).2 k = mS S k := by
  unfold o_ff
  split
  · simp only [mS_uS, mS_uA, if_neg h]
  · simp only [mS_uA]
theorem ff_A {S : z_M} {a : Int32} {k : Nat} (h : k ≠ 55 ∧ k ≠ 56) : mA (o_ff S a).2 k = mA S k := by
  unfold o_ff
  funext j
  split
  · simp only [mA_uA, mA_uS]
    rw [if_neg (by omega), if_neg (by omega), if_neg (by omega)]
  · simp only [mA_uA]
    rw [if_neg (by omega)]
theorem ff_B {S : z_M} {a : Int32} : mB (o_ff S a).2 = mB S := by
  unfold o_ff
  split <;> rfl
theorem ff_T {S : z_M} {a : Int32} : mT (o_ff S a).2 = mT S := by
  unfold o_ff
  split <;> rfl
theorem ff_fol {S : z_M} {a : Int32} (inv : INV S) (ha : isx a (nA S)) (hl : nL S < 2000) : J_fol (nF (o_ff S a).2) (nA S) (mA (o_ff S a).2 55) (mA (o_ff S a).2 56) ∧ nF (o_ff S a).2 ≤ nF S + 1 ∧ mS (o_ff S a).2 20 = nI (nF (o_ff S a).2) := by
  have hb := inv.fl
  have hf := o_fol_in (mA S 55) a (nF S) (by omega)
  unfold o_ff
  split
  · refine ⟨?_, ?_, ?_⟩
    · intro f hf'
      have hf2 : f < ci (nI (nF S + 1)) := hf'
      rw [ci_nI (by omega)] at hf2
      by_cases e : f = nF S
      · refine ⟨?_, ?_⟩
        · show isx (mA (uA (uS (uA (uA S 55 (nF S) a) 56 (nF S) 0) 20 (nI (nF S + 1))) 56 (nF S) 1) 55 f) (nA S)
          simp only [mA_uA, mA_uS]
          rw [if_neg (by omega), if_neg (by omega), if_pos ⟨trivial, e⟩]
          exact ha
        · show inp (mA (uA (uS (uA (uA S 55 (nF S) a) 56 (nF S) 0) 20 (nI (nF S + 1))) 56 (nF S) 1) 56 f) 1 8
          rw [e, uA_at]
          decide
      · have j := inv.fol f (by omega)
        refine ⟨?_, ?_⟩
        · show isx (mA (uA (uS (uA (uA S 55 (nF S) a) 56 (nF S) 0) 20 (nI (nF S + 1))) 56 (nF S) 1) 55 f) (nA S)
          simp only [mA_uA, mA_uS]
          rw [if_neg (by omega), if_neg (by omega), if_neg (by omega)]
          exact j.1
        · show inp (mA (uA (uS (uA (uA S 55 (nF S) a) 56 (nF S) 0) 20 (nI (nF S + 1))) 56 (nF S) 1) 56 f) 1 8
          rw [uA_of e, mA_uS, uA_of e]
          show inp (mA (uA S 55 (nF S) a) 56 f) 1 8
          rw [mA_uA, if_neg (by omega)]
          exact j.2
    · show ci (nI (nF S + 1)) ≤ _
      rw [ci_nI (by omega)]
      exact Nat.le_refl _
    · show nI (nF S + 1) = nI (ci (nI (nF S + 1)))
      rw [ci_nI (by omega)]
  · rename_i hq
    refine ⟨?_, Nat.le_succ _, inv.cF.1⟩
    intro f hf'
    have j := inv.fol f hf'
    have kf := ci_int (x := o_fol (mA S 55) a (nF S)) (by omega)
    have jf := inv.fol (ci (o_fol (mA S 55) a (nF S))) (by omega)
    refine ⟨?_, ?_⟩
    · show isx (mA (uA S 56 _ _) 55 f) (nA S)
      rw [mA_uA, if_neg (by omega)]
      exact j.1
    · show inp (mA (uA S 56 (ci (o_fol (mA S 55) a (nF S))) (mA S 56 (ci (o_fol (mA S 55) a (nF S))) + 1)) 56 f) 1 8
      by_cases e : f = ci (o_fol (mA S 55) a (nF S))
      · have one : (1 : Int32).toInt = 1 := rfl
        rw [e, uA_at]
        unfold inp
        rw [add32 (by omega) (by omega)]
        omega
      · rw [uA_of e]
        exact j.2
theorem inv_wr {S : z_M} {d a side order : Int32} {sum : Int64} (inv : INV S) (ha : isx a (nA S)) (hs : inp side 0 1) (hr : nL S + 1 + 3 * o_wt (mA S 42) (nO S) ≤ 2000) (ho : order.toInt = -1 ∨ o_cL (mA S 53) (nL S) + 1 ≤ o_cO (mA S 42) (mA S 46) (nO S)) : INV (o_writes S d a side sum order).2 := by
  unfold o_writes
  split
  · exact inv
  · have hfl := inv.fl
    have hff := ff_fol inv ha (by omega)
    have hS : ∀ k, k ≠ 20 → mS (o_ff S a).2 k = mS S k := fun k h => ff_S h
    have hA : ∀ k, (k ≠ 55 ∧ k ≠ 56) → mA (o_ff S a).2 k = mA S k := fun k h => ff_A h
    have hB : mB (o_ff S a).2 = mB S := ff_B
    have hT : mT (o_ff S a).2 = mT S := ff_T
    show INV (o_ln (o_ff S a).2 d a (o_ff S a).1 side sum order)
    generalize (o_ff S a).1 = f
    generalize (o_ff S a).2 = T at *
    have i_cK : J_n (mS T 15) 6 := by
      rw [hS 15 (by decide)]
      exact inv.cK
    have i_cA : J_n (mS T 16) 24 := by
      rw [hS 16 (by decide)]
      exact inv.cA
    have i_cR : J_n (mS T 17) 200 := by
      rw [hS 17 (by decide)]
      exact inv.cR
    have i_cO : J_n (mS T 18) 300 := by
      rw [hS 18 (by decide)]
      exact inv.cO
    have i_cE : J_n (mS T 21) 20 := by
      rw [hS 21 (by decide)]
      exact inv.cE
    have i_cD : J_n (mS T 14) 5000 := by
      rw [hS 14 (by decide)]
      exact inv.cD
    have i_cU : J_n (mS T 62) 600 := by
      rw [hS 62 (by decide)]
      exact inv.cU
    have i_ter : J_ter (mS T 5) (mS T 6) (mS T 7) (mS T 8) (mS T 9) (mS T 10) (mS T 11) (mS T 12) (mS T 13) := by
      rw [hS 5 (by decide), hS 6 (by decide), hS 7 (by decide), hS 8 (by decide), hS 9 (by decide), hS 10 (by decide), hS 11 (by decide), hS 12 (by decide), hS 13 (by decide)]
      exact inv.ter
    have i_kin : J_kin ((ci (mS T 15))) ((ci (mS T 17))) (mA T 22) (mA T 23) (mA T 24) (mB T 25) (mB T 26) := by
      rw [hS 15 (by decide), hS 17 (by decide), hA 22 (by decide), hA 23 (by decide), hA 24 (by decide), hB]
      exact inv.kin
    have i_row : J_row (mA T 1) (mA T 2) := by
      rw [hA 1 (by decide), hA 2 (by decide)]
      exact inv.row
    have i_acc : J_acc ((ci (mS T 16))) (mA T 28) (mB T 27) := by
      rw [hS 16 (by decide), hA 28 (by decide), hB]
      exact inv.acc
    have i_rec : J_rec ((ci (mS T 17))) ((ci (mS T 16))) ((ci (mS T 15))) (mA T 30) (mA T 31) (mA T 32) (mA T 34) (mB T 35) := by
      rw [hS 17 (by decide), hS 16 (by decide), hS 15 (by decide), hA 30 (by decide), hA 31 (by decide), hA 32 (by decide), hA 34 (by decide), hB]
      exact inv.rec
    have i_len : J_len ((ci (mS T 21))) (mS T 14) (mA T 57) (mA T 58) := by
      rw [hS 21 (by decide), hS 14 (by decide), hA 57 (by decide), hA 58 (by decide)]
      exact inv.len
    have i_tak : inq (mT T 63) 0 (600000000 * ((ci (mS T 17)) : Int)) := by
      rw [hT, hS 17 (by decide)]
      exact inv.tak
    have eL : nL T = nL S := by show ci (mS T 19) = ci (mS S 19); rw [hS 19 (by decide)]
    have eL' : nL (o_ln T d a f side sum order) = nL S + 1 := by
      show ci (nI (nL T + 1)) = _
      rw [eL, ci_nI (by omega)]
    have eA : nA T = nA S := by show ci (mS T 16) = ci (mS S 16); rw [hS 16 (by decide)]
    have eO : nO T = nO S := by show ci (mS T 18) = ci (mS S 18); rw [hS 18 (by decide)]
    unfold INV
    refine ⟨i_cK, i_cA, i_cR, i_cO, ?_, ?_, i_cE, i_cD, i_cU, ?_, ?_, i_ter, i_kin, i_row, i_acc, i_rec, ?_, ?_, ?_, i_len, ?_, i_tak⟩
    · show J_n (nI (nL T + 1)) 2000
      exact J_nI (by omega)
    · show J_n (mS T 20) 2000
      rw [hff.2.2]
      exact J_nI (by have := hff.2.1; omega)
    · rw [eL']
      have := hff.2.1
      show nF T ≤ _
      omega
    · rw [eL']
      show nL S + 1 + 3 * o_wt (mA T 42) (nO T) ≤ 2000
      rw [hA 42 (by decide), eO]
      exact hr
    · rw [eL']
      show J_ord (nO T) (nA T) (nL S + 1) (mA T 37) (mA T 38) (mA T 40) (mA T 41) (mA T 42) (mA T 43) (mA T 44) (mA T 46) (mA T 48) (mB T 47)
      rw [eO, eA, hA 37 (by decide), hA 38 (by decide), hA 40 (by decide), hA 41 (by decide), hA 42 (by decide), hA 43 (by decide), hA 44 (by decide), hA 46 (by decide), hA 48 (by decide), hB]
      refine And.intro (fun o' ho' => ?_) inv.ord.2
      have j := inv.ord.1 o' ho'
      refine ⟨j.1, j.2.1, j.2.2.1, j.2.2.2.1, j.2.2.2.2.1, j.2.2.2.2.2.1, j.2.2.2.2.2.2.1, j.2.2.2.2.2.2.2.1, ?_, j.2.2.2.2.2.2.2.2.2.1, j.2.2.2.2.2.2.2.2.2.2.1, j.2.2.2.2.2.2.2.2.2.2.2⟩
      have j9 := j.2.2.2.2.2.2.2.2.1
      omega
    · rw [eL']
      show J_lin (nL S + 1) (nA T) (mA (uA T 50 (nL T) a) 50) (mA (uA T 52 (nL T) side) 52)
      rw [eA, eL]
      intro i hi
      by_cases e : i = nL S
      · rw [e, uA_at, uA_at]
        exact ⟨ha, hs⟩
      · rw [uA_of e, uA_of e, hA 50 (by decide), hA 52 (by decide)]
        exact inv.lin i (by omega)
    · show J_fol (nF T) (nA T) (mA T 55) (mA T 56)
      rw [eA]
      exact hff.1
    · rw [eL']
      show o_cL (mA (uA T 53 (nL T) order) 53) (nL S + 1) ≤ o_cO (mA T 42) (mA T 46) (nO T)
      rw [eL, eO, hA 42 (by decide), hA 46 (by decide)]
      have e1 : o_cL (mA (uA T 53 (nL S) order) 53) (nL S) = o_cL (mA S 53) (nL S) := o_cL_c (fun j hj => by rw [uA_of (by omega), hA 53 (by decide)])
      have e2 : o_cL (mA S 53) (nL S) ≤ o_cO (mA S 42) (mA S 46) (nO S) := inv.sus
      show o_cL _ (nL S) + (if (mA (uA T 53 (nL S) order) 53 (nL S)).toInt = -1 then 0 else 1) ≤ _
      rw [e1, uA_at]
      split <;> omega
theorem inv_mov {S : z_M} {o : Nat} (inv : INV S) (ho : o < nO S) (hw : (mA S 42 o).toInt = 0) (hl : (mA S 46 o).toInt = -1) : INV (o_mov S o) ∧ nL S + 3 * o_wt (mA (o_mov S o) 42) (nO S) + 3 ≤ 2000 ∧ o_cL (mA S 53) (nL S) + 1 ≤ o_cO (mA (o_mov S o) 42) (mA (o_mov S o) 46) (nO S) := by
  have e42 : mA (o_mov S o) 42 = mA (uA S 42 o 1) 42 := rfl
  have e46 : mA (o_mov S o) 46 = mA S 46 := rfl
  have one : (1 : Int32).toInt = 1 := rfl
  have hw' : o_wt (mA (uA S 42 o 1) 42) (nO S) + 1 = o_wt (mA S 42) (nO S) := o_wt_u ho (fun j hj => uA_of hj) hw (by rw [uA_at]; omega)
  have hr := inv.rm
  have hc : o_cO (mA (uA S 42 o 1) 42) (mA S 46) (nO S) = o_cO (mA S 42) (mA S 46) (nO S) + 1 := o_cO_u ho (fun j hj => ⟨uA_of hj, rfl⟩) (by
    rw [uA_at]
    unfold o_cc
    rw [if_pos one, if_pos hl, if_neg (by omega)])
  have hs : o_cL (mA S 53) (nL S) ≤ o_cO (mA S 42) (mA S 46) (nO S) := inv.sus
  rw [e42, e46]
  refine ⟨?_, by omega, by omega⟩
  have jo := inv.ord.1 o ho
  have k1 := ci_lt jo.1
  have k2 := ci_lt jo.2.1
  unfold INV
  refine ⟨inv.cK, inv.cA, inv.cR, inv.cO, inv.cL, inv.cF, inv.cE, inv.cD, inv.cU, inv.fl, ?_, inv.ter, inv.kin, inv.row, ?_, inv.rec, ?_, inv.lin, inv.fol, inv.len, ?_, inv.tak⟩
  · show nL S + 3 * o_wt (mA (uA S 42 o 1) 42) (nO S) ≤ 2000
    omega
  · intro a' h1 h2
    have h1' : nA S ≤ a' := h1
    refine ⟨(inv.acc a' h1 h2).1, ?_⟩
    unfold o_mov
    rw [uB_of (by omega), uB_of (by omega)]
    exact (inv.acc a' h1 h2).2
  · refine And.intro (fun o' ho' => ?_) inv.ord.2
    have j := inv.ord.1 o' ho'
    refine ⟨j.1, j.2.1, j.2.2.1, j.2.2.2.1, ?_, j.2.2.2.2.2.1, j.2.2.2.2.2.2.1, j.2.2.2.2.2.2.2.1, j.2.2.2.2.2.2.2.2.1, j.2.2.2.2.2.2.2.2.2.1, j.2.2.2.2.2.2.2.2.2.2.1, ?_⟩
    · show inp (mA (uA S 42 o 1) 42 o') 0 3
      by_cases e : o' = o
      · rw [e, uA_at]; omega
      · rw [uA_of e]; exact j.2.2.2.2.1
    · show (mA (uA S 42 o 1) 42 o').toInt = 0 → _
      by_cases e : o' = o
      · rw [e, uA_at]; omega
      · rw [uA_of e]; exact j.2.2.2.2.2.2.2.2.2.2.2
  · show o_cL (mA S 53) (nL S) ≤ o_cO (mA (uA S 42 o 1) 42) (mA S 46) (nO S)
    omega
theorem inv_bring {S : z_M} {a k : Int32} {n : Int32} {w b : Int64} (inv : INV S) (ha : isx a (nA S)) (hk : isx k (nK S)) (hR : nR S < 200) (hn : inp n 1 60) (hw : inq w 0 6000000) (hb : inq b 0 600000000) : INV (o_bring S a k n w b) := by
  have eR : nR (o_bring S a k n w b) = nR S + 1 := by
    show ci (nI (nR S + 1)) = _
    exact ci_nI (by omega)
  have ka := ci_lt ha
  have kk := ci_lt hk
  unfold INV
  rw [eR]
  refine ⟨inv.cK, inv.cA, ?_, inv.cO, inv.cL, inv.cF, inv.cE, inv.cD, inv.cU, inv.fl, inv.rm, inv.ter, ?_, inv.row, ?_, ?_, inv.ord, inv.lin, inv.fol, inv.len, inv.sus, ?_⟩
  · show J_n (nI (nR S + 1)) 200
    exact J_nI (by omega)
  · show J_kin (nK S) (nR S + 1) (mA S 22) (mA S 23) (mA S 24) (mB (uB S 25 (ci k) (mB S 25 (ci k) + n.toInt64)) 25) (mB (uB S 26 (ci k) (mB S 26 (ci k) + w)) 26)
    refine And.intro (fun j hj => ?_) (fun j h1 h2 => ?_)
    · have q := inv.kin.1 j hj
      refine ⟨q.1, q.2.1, q.2.2.1, q.2.2.2.1, ?_⟩
      have q5 := q.2.2.2.2
      by_cases e : j = ci k
      · rw [e, uB_at]
        rw [e] at q5
        unfold inq
        rw [add64 (by rw [Int32.toInt_toInt64]; omega) (by rw [Int32.toInt_toInt64]; omega), Int32.toInt_toInt64]
        omega
      · rw [uB_of e]
        omega
    · rw [uB_of (by omega), uB_of (by omega)]
      exact inv.kin.2 j h1 h2
  · intro a' h1 h2
    have h1' : nA S ≤ a' := h1
    refine ⟨(inv.acc a' h1 h2).1, ?_⟩
    show mB (uB S 27 (ci a) (mB S 27 (ci a) + b)) 27 a' = 0
    rw [uB_of (by omega)]
    exact (inv.acc a' h1 h2).2
  · show J_rec (nR S + 1) (nA S) (nK S) (mA (uA S 30 (nR S) a) 30) (mA (uA S 31 (nR S) k) 31) (mA (uA S 32 (nR S) n) 32) (mA (uA S 34 (nR S) 0) 34) (mB (uB S 35 (nR S) w) 35)
    intro r hr
    by_cases e : r = nR S
    · rw [e, uA_at, uA_at, uA_at, uA_at, uB_at]
      exact ⟨ha, hk, by omega, hw, by decide⟩
    · rw [uA_of e, uA_of e, uA_of e, uA_of e, uB_of e]
      exact inv.rec r (by omega)
  · show inq (mT S 63 + b) 0 (600000000 * ((nR S + 1 : Nat) : Int))
    have t := inv.tak
    unfold inq
    rw [add64 (by omega) (by omega)]
    omega
theorem inv_cw {S : z_M} {k : Nat} {v x : Int64} (inv : INV S) (hk : k < nK S) (hv : 0 ≤ v.toInt ∧ v.toInt ≤ (mB S 25 k).toInt) : INV (uB (uB S 25 k v) 26 k x) := by
  unfold INV
  refine ⟨inv.cK, inv.cA, inv.cR, inv.cO, inv.cL, inv.cF, inv.cE, inv.cD, inv.cU, inv.fl, inv.rm, inv.ter, ?_, inv.row, inv.acc, inv.rec, inv.ord, inv.lin, inv.fol, inv.len, inv.sus, inv.tak⟩
  show J_kin (nK S) (nR S) (mA S 22) (mA S 23) (mA S 24) (mB (uB S 25 k v) 25) (mB (uB S 26 k x) 26)
  refine And.intro (fun j hj => ?_) (fun j h1 h2 => ?_)
  · have q := inv.kin.1 j hj
    refine ⟨q.1, q.2.1, q.2.2.1, q.2.2.2.1, ?_⟩
    have q5 := q.2.2.2.2
    by_cases e : j = k
    · rw [e, uB_at]
      rw [e] at q5
      omega
    · rw [uB_of e]
      omega
  · rw [uB_of (by omega), uB_of (by omega)]
    exact inv.kin.2 j h1 h2
theorem inv_rhow {S : z_M} {r : Nat} {v : Int32} (inv : INV S) (hv : inp v 0 2) : INV (uA S 34 r v) := by
  unfold INV
  refine ⟨inv.cK, inv.cA, inv.cR, inv.cO, inv.cL, inv.cF, inv.cE, inv.cD, inv.cU, inv.fl, inv.rm, inv.ter, inv.kin, inv.row, inv.acc, ?_, inv.ord, inv.lin, inv.fol, inv.len, inv.sus, inv.tak⟩
  intro j hj
  have q := inv.rec j hj
  refine ⟨q.1, q.2.1, q.2.2.1, q.2.2.2.1, ?_⟩
  by_cases e : j = r
  · rw [e, uA_at]; exact hv
  · rw [uA_of e]; exact q.2.2.2.2
theorem inv_rdm {S : z_M} {r : Nat} {v x : Int64} (inv : INV S) (hr : r < nR S) (h1 : (mA S 32 r).toInt ≤ (mB S 25 (ci (mA S 31 r))).toInt) : INV (uT (uA (uB (uB S 25 (ci (mA S 31 r)) (mB S 25 (ci (mA S 31 r)) - (mA S 32 r).toInt64)) 26 (ci (mA S 31 r)) v) 34 r 1) 64 x) := by
  have jr := inv.rec r hr
  have kk := ci_lt jr.2.1
  have jk := inv.kin.1 (ci (mA S 31 r)) kk
  have rb : nR S ≤ 200 := inv.cR.2
  have e1 : (mB S 25 (ci (mA S 31 r)) - (mA S 32 r).toInt64).toInt = (mB S 25 (ci (mA S 31 r))).toInt - (mA S 32 r).toInt := by
    have := jk.2.2.2.2
    have := jr.2.2.1
    rw [sub64 (by rw [Int32.toInt_toInt64]; omega) (by rw [Int32.toInt_toInt64]; omega), Int32.toInt_toInt64]
  have i1 := inv_cw (k := ci (mA S 31 r)) (v := mB S 25 (ci (mA S 31 r)) - (mA S 32 r).toInt64) (x := v) inv kk (by rw [e1]; have := jr.2.2.1; omega)
  exact inv_rhow (r := r) (v := 1) i1 (by decide)
end
section
/-! the invariant over the primitive changes (pure) -/
theorem inv_due {S : z_M} {r : Nat} {v : Int32} {x : Int64} (inv : INV S) : INV (uT (uA S 33 r v) 64 x) := inv
theorem o_nin_t {v g : Int64} {i n : Nat} (hi : i < n) (h : o_sw v i = v + g) : o_nin v g n = true := by
  induction n with
  | zero => omega
  | succ n ih =>
    show (o_nin v g n || decide (o_sw v n = v + g)) = true
    by_cases e : i = n
    · subst e
      rw [decide_eq_true h, Bool.or_true]
    · rw [ih (by omega), Bool.true_or]
theorem ix32c {s i : Int32} (hs : 0 ≤ s.toInt) (hi : 0 ≤ i.toInt) : 32 * s + i = nI (32 * ci s + ci i) := by
  rw [← ix32, ← ci_e hs, ← ci_e hi]
theorem o_un_ne {p : Nat} (h : p ≤ 8) : ¬ o_un p = 0 := by
  have : ∀ p, p < 9 → ¬ o_un p = 0 := by decide
  exact this p (by omega)
theorem z_u2_ne {α : Type} {f : Nat → Nat → α} {k j k' : Nat} {v : α} (h : k' ≠ k) : z_u2 f k j v k' = f k' := by
  funext j'
  show (if k' = k ∧ j' = j then v else f k' j') = _
  rw [if_neg (fun q => h q.1)]
theorem mA_ne {S : z_M} {k j k' : Nat} {v : Int32} (h : k' ≠ k) : mA (uA S k j v) k' = mA S k' := z_u2_ne h
theorem mB_ne {S : z_M} {k j k' : Nat} {v : Int64} (h : k' ≠ k) : mB (uB S k j v) k' = mB S k' := z_u2_ne h
theorem wr_A {S : z_M} {d a side order : Int32} {sum : Int64} {k : Nat} (h : k ≠ 49 ∧ k ≠ 50 ∧ k ≠ 51 ∧ k ≠ 52 ∧ k ≠ 53 ∧ k ≠ 55 ∧ k ≠ 56) : mA (o_writes S d a side sum order).2 k = mA S k := by
  unfold o_writes o_ff o_ln
  obtain ⟨h1, h2, h3, h4, h5, h6, h7⟩ := h
  split
  · rfl
  · split
    · rw [mA_uS, mA_ne h5, mA_uB, mA_ne h4, mA_ne h3, mA_ne h2, mA_ne h1, mA_ne h7, mA_uS, mA_ne h7, mA_ne h6]
    · rw [mA_uS, mA_ne h5, mA_uB, mA_ne h4, mA_ne h3, mA_ne h2, mA_ne h1, mA_ne h7]
theorem wr_B {S : z_M} {d a side order : Int32} {sum : Int64} {k : Nat} (h : k ≠ 54) : mB (o_writes S d a side sum order).2 k = mB S k := by
  unfold o_writes o_ff o_ln
  split
  · rfl
  · split <;> simp only [mB_uS, mB_uA, mB_ne h]
theorem wr_S {S : z_M} {d a side order : Int32} {sum : Int64} {k : Nat} (h : k ≠ 19 ∧ k ≠ 20) : mS (o_writes S d a side sum order).2 k = mS S k := by
  unfold o_writes o_ff o_ln
  split
  · rfl
  · split <;> simp only [mS_uS, mS_uA, mS_uB, if_neg h.1, if_neg h.2]
theorem wr_T {S : z_M} {d a side order : Int32} {sum : Int64} : mT (o_writes S d a side sum order).2 = mT S := by
  unfold o_writes o_ff o_ln
  split
  · rfl
  · split <;> simp only [mT_uS, mT_uA, mT_uB]
theorem pays_B36 {S : z_M} {a : Int32} {sum : Int64} : mB (o_pays S a sum) 36 = mB S 36 := (wr_B (by decide)).trans (mB_ne (by decide))
section CPM
variable {l : Launch} {G : z_G} {d MC MS : Nat} {own : String} {idx : Nat} {h : z_H} {ce sl : Nat} {k : Option z_V → z_H → Nat → Nat → Prop}
theorem cp_lmin {x v : Int64} (hd : 1 ≤ d) (hl : Cond.methodLink own idx yJ9_min_f86c9 ∈ z_tbl) (hc : ce ≤ MC) (hs : sl ≤ MS) (hk : k (some (z_l (if v < x then v else x))) h ce sl) : z_CP l G d MC MS own idx 1 [z_l x, z_l v] h ce sl k := ⟨hd, Or.inr ⟨rfl, hc, hs, 3, hl, hk⟩⟩
theorem cp_lmax {x v : Int64} (hd : 1 ≤ d) (hl : Cond.methodLink own idx yJ9_max_f86c9 ∈ z_tbl) (hc : ce ≤ MC) (hs : sl ≤ MS) (hk : k (some (z_l (if v < x then x else v))) h ce sl) : z_CP l G d MC MS own idx 1 [z_l x, z_l v] h ce sl k := ⟨hd, Or.inr ⟨rfl, hc, hs, 2, hl, hk⟩⟩
theorem cp_imin {x v : Int32} (hd : 1 ≤ d) (hl : Cond.methodLink own idx yJ9_min_7cf53 ∈ z_tbl) (hc : ce ≤ MC) (hs : sl ≤ MS) (hk : k (some (z_i (if v < x then v else x))) h ce sl) : z_CP l G d MC MS own idx 1 [z_i x, z_i v] h ce sl k := ⟨hd, Or.inr ⟨rfl, hc, hs, 1, hl, hk⟩⟩
theorem cp_imax {x v : Int32} (hd : 1 ≤ d) (hl : Cond.methodLink own idx yJ9_max_7cf53 ∈ z_tbl) (hc : ce ≤ MC) (hs : sl ≤ MS) (hk : k (some (z_i (if x < v then v else x))) h ce sl) : z_CP l G d MC MS own idx 1 [z_i x, z_i v] h ce sl k := ⟨hd, Or.inr ⟨rfl, hc, hs, 0, hl, hk⟩⟩
end CPM
theorem o_tn_le {lo hi : Int32} {c : Nat → Int64} {b : Nat} : ∀ n, o_tn lo hi c b n ≤ n := by
  intro n
  induction n with
  | zero => exact Nat.le_refl _
  | succ n ih =>
    unfold o_tn
    split <;> omega
theorem o_tw_in {lo hi : Int32} {c : Nat → Int64} {b : Nat} (hlo : 0 ≤ lo.toInt) (hhi : hi.toInt ≤ 100000) : ∀ n, n ≤ 60 → 0 ≤ (o_tw lo hi c b n).toInt ∧ (o_tw lo hi c b n).toInt ≤ 100000 * (n : Int) := by
  intro n
  induction n with
  | zero => exact fun _ => (show (0 : Int) ≤ (0 : Int64).toInt ∧ (0 : Int64).toInt ≤ 100000 * ((0 : Nat) : Int) from by decide)
  | succ n ih =>
    intro hn
    have i1 := ih (by omega)
    unfold o_tw
    split
    · rename_i hq
      have q1 := hq.1
      have q2 := hq.2
      rw [add64 (by omega) (by omega)]
      omega
    · omega
theorem mul64 {x y : Int64} (h1 : -9223372036854775808 ≤ x.toInt * y.toInt) (h2 : x.toInt * y.toInt ≤ 9223372036854775807) : (x * y).toInt = x.toInt * y.toInt := by
  rw [Int64.toInt_mul]
  show (x.toInt * y.toInt).bmod 18446744073709551616 = _
  unfold Int.bmod
  simp only []
  split <;> omega
theorem div64 {x y : Int64} (h : 0 < y.toInt) : (x / y).toInt = x.toInt.tdiv y.toInt := by
  have hb := i64b x
  rw [Int64.toInt_div]
  have h1 : x.toInt.tdiv y.toInt ≤ 9223372036854775807 ∧ -9223372036854775808 ≤ x.toInt.tdiv y.toInt := by
    rcases Int.le_total 0 x.toInt with q | q
    · have a1 : x.toInt.tdiv y.toInt = x.toInt / y.toInt := Int.tdiv_eq_ediv_of_nonneg q
      have a2 := Int.ediv_le_self y.toInt q
      have a3 := Int.ediv_nonneg q (Int.le_of_lt h)
      omega
    · have a1 : x.toInt.tdiv y.toInt = -((-x.toInt) / y.toInt) := by
        rw [← Int.tdiv_eq_ediv_of_nonneg (by omega : 0 ≤ -x.toInt), Int.neg_tdiv, Int.neg_neg]
      have a2 := Int.ediv_le_self y.toInt (by omega : 0 ≤ -x.toInt)
      have a3 := Int.ediv_nonneg (by omega : 0 ≤ -x.toInt) (Int.le_of_lt h)
      omega
  show (x.toInt.tdiv y.toInt).bmod 18446744073709551616 = _
  unfold Int.bmod
  simp only []
  split <;> omega
theorem o_b_in {p r : Int32} {v : Int64} (hp : inp p 1 1000) (hr : inp r 1 100000) (hv : inq v 0 6000000) : inq (o_b p r v) 0 600000000 := by
  unfold o_b
  have m1 : 0 ≤ v.toInt * p.toInt ∧ v.toInt * p.toInt ≤ 6000000 * 1000 := ⟨Int.mul_nonneg hv.1 (by omega), Int.mul_le_mul hv.2 hp.2 (by omega) (by omega)⟩
  have e1 : (v * p.toInt64).toInt = v.toInt * p.toInt := by rw [mul64 (by rw [Int32.toInt_toInt64]; omega) (by rw [Int32.toInt_toInt64]; omega), Int32.toInt_toInt64]
  have e2 : (v * p.toInt64 / 1000).toInt = v.toInt * p.toInt / 1000 := by
    rw [div64 (by decide), e1]
    exact Int.tdiv_eq_ediv_of_nonneg m1.1
  have b2 : 0 ≤ (v * p.toInt64 / 1000).toInt ∧ (v * p.toInt64 / 1000).toInt ≤ 6000000 := by rw [e2]; omega
  generalize (v * p.toInt64 / 1000) = z at *
  have m2 : 0 ≤ z.toInt * r.toInt ∧ z.toInt * r.toInt ≤ 6000000 * 100000 := ⟨Int.mul_nonneg b2.1 (by omega), Int.mul_le_mul b2.2 hr.2 (by omega) (by omega)⟩
  have e3 : (z * r.toInt64).toInt = z.toInt * r.toInt := by rw [mul64 (by rw [Int32.toInt_toInt64]; omega) (by rw [Int32.toInt_toInt64]; omega), Int32.toInt_toInt64]
  have e4 : (z * r.toInt64 / 1000).toInt = z.toInt * r.toInt / 1000 := by
    rw [div64 (by decide), e3]
    exact Int.tdiv_eq_ediv_of_nonneg m2.1
  show 0 ≤ (z * r.toInt64 / 1000).toInt ∧ (z * r.toInt64 / 1000).toInt ≤ 600000000
  rw [e4]
  omega
theorem deb_A {S : z_M} {o k : Nat} (h : k ≠ 42 ∧ k ≠ 45 ∧ k ≠ 49 ∧ k ≠ 50 ∧ k ≠ 51 ∧ k ≠ 52 ∧ k ≠ 53 ∧ k ≠ 55 ∧ k ≠ 56) : mA (o_deb S o) k = mA S k := by
  unfold o_deb
  rw [wr_A (by omega)]
  unfold o_mov
  rw [mA_uB, mA_uB, mA_ne (by omega), mA_ne (by omega)]
theorem deb_A43 {S : z_M} {o : Nat} : mA (o_deb S o) 43 = mA S 43 := deb_A (by decide)
theorem deb_A44 {S : z_M} {o : Nat} : mA (o_deb S o) 44 = mA S 44 := deb_A (by decide)
theorem deb_S14 {S : z_M} {o : Nat} : mS (o_deb S o) 14 = mS S 14 := by
  unfold o_deb
  rw [wr_S (by decide)]
  rfl
theorem wr_nL {S : z_M} {d a side order : Int32} {sum : Int64} (inv : INV S) : nL (o_writes S d a side sum order).2 ≤ nL S + 1 := by
  have hb := inv.cL.2
  unfold o_writes o_ff o_ln
  split
  · exact Nat.le_succ _
  · split <;> (show ci (nI _) ≤ _; rw [ci_nI (by show ci (mS S 19) + 1 < 2 ^ 31; omega)]; exact Nat.le_refl _)
theorem inv_deb {S : z_M} {o : Nat} (inv : INV S) (ho : o < nO S) (hw : (mA S 42 o).toInt = 0) : INV (o_deb S o) ∧ nL (o_deb S o) < 2000 ∧ nL (o_deb S o) + 3 * o_wt (mA (o_deb S o) 42) (nO S) + 2 ≤ 2000 := by
  have jo := inv.ord.1 o ho
  have a := inv_mov inv ho hw (by have := jo.2.2.2.2.2.2.2.2.2.2.2 hw; exact this)
  have b := wr_nL (d := dy S) (a := mA S 37 o) (side := 0) (sum := mB S 47 o) (order := nI o) a.1
  have c : nL (o_mov S o) = nL S := rfl
  have e : nO (o_mov S o) = nO S := rfl
  have f : mA (o_deb S o) 42 = mA (o_mov S o) 42 := wr_A (by decide)
  refine ⟨inv_wr a.1 jo.1 (by decide) (by rw [c, e]; omega) (Or.inr (by rw [e]; exact a.2.2)), ?_, ?_⟩
  · unfold o_deb
    omega
  · rw [f]
    unfold o_deb
    omega
end
section
/-! suspects and the close: what holds of the states between (pure) -/
theorem su_A {S : z_M} {d : Int32} {g : Int64} {n k : Nat} (h : k ≠ 60 ∧ k ≠ 61) : mA (o_su S d g n) k = mA S k := by
  induction n with
  | zero => rfl
  | succ n ih =>
    unfold o_su
    split
    · rw [mA_uS, mA_ne h.2, mA_ne h.1, ih]
    · exact ih
theorem su_B {S : z_M} {d : Int32} {g : Int64} {n : Nat} : mB (o_su S d g n) = mB S := by
  induction n with
  | zero => rfl
  | succ n ih =>
    unfold o_su
    split
    · exact ih
    · exact ih
theorem su_S {S : z_M} {d : Int32} {g : Int64} {n k : Nat} (h : k ≠ 62) : mS (o_su S d g n) k = mS S k := by
  induction n with
  | zero => exact if_neg h
  | succ n ih =>
    unfold o_su
    split
    · rw [mS_uS, if_neg h]
      exact ih
    · exact ih
theorem su_T {S : z_M} {d : Int32} {g : Int64} {n : Nat} : mT (o_su S d g n) = mT S := by
  induction n with
  | zero => rfl
  | succ n ih =>
    unfold o_su
    split
    · exact ih
    · exact ih
theorem o_cL_le {w : Nat → Int32} {i n : Nat} (h : i ≤ n) : o_cL w i ≤ o_cL w n := by
  induction n with
  | zero => rw [Nat.le_zero.mp h]; exact Nat.le_refl _
  | succ n ih =>
    by_cases e : i = n + 1
    · rw [e]; exact Nat.le_refl _
    · have := ih (by omega)
      show _ ≤ o_cL w n + _
      omega
theorem o_cL_b {w : Nat → Int32} {n : Nat} : o_cL w n ≤ n := by
  induction n with
  | zero => exact Nat.le_refl _
  | succ n ih =>
    show o_cL w n + (if _ then 0 else 1) ≤ _
    split <;> omega
theorem su_n {S : z_M} {d : Int32} {g : Int64} {n : Nat} (hn : n < 2000000000) : mS (o_su S d g n) 62 = nI (nU (o_su S d g n)) ∧ nU (o_su S d g n) ≤ o_cL (mA S 53) n := by
  induction n with
  | zero => exact ⟨rfl, Nat.le_refl _⟩
  | succ n ih =>
    have i1 := ih (by omega)
    have b := o_cL_b (w := mA S 53) (n := n)
    have c : o_cL (mA S 53) (n + 1) = o_cL (mA S 53) n + (if (mA S 53 n).toInt = -1 then 0 else 1) := rfl
    unfold o_su
    split
    · rename_i hq
      rw [c, if_neg hq.1.2]
      have e : nU (uS (uA (uA (o_su S d g n) 60 (nU (o_su S d g n)) (nI n)) 61 (nU (o_su S d g n)) (o_how S n g)) 62 (nI (nU (o_su S d g n) + 1))) = nU (o_su S d g n) + 1 := ci_nI (by omega)
      rw [e]
      exact ⟨rfl, by omega⟩
    · rw [c]
      exact ⟨i1.1, by omega⟩
theorem inv_su {S : z_M} {d : Int32} {g : Int64} {n : Nat} (inv : INV S) (hn : n ≤ nL S) : INV (o_su S d g n) := by
  have hS : ∀ k, k ≠ 62 → mS (o_su S d g n) k = mS S k := fun k h => su_S h
  have hA : ∀ k, (k ≠ 60 ∧ k ≠ 61) → mA (o_su S d g n) k = mA S k := fun k h => su_A h
  have hB : mB (o_su S d g n) = mB S := su_B
  have hT : mT (o_su S d g n) = mT S := su_T
  have hl : nL S ≤ 2000 := inv.cL.2
  have hu := su_n (S := S) (d := d) (g := g) (n := n) (by omega)
  have h1 := o_cL_le (w := mA S 53) hn
  have h2 : o_cL (mA S 53) (nL S) ≤ o_cO (mA S 42) (mA S 46) (nO S) := inv.sus
  have h3 := o_cO_le (a := mA S 42) (b := mA S 46) (n := nO S)
  have h4 : nO S ≤ 300 := inv.cO.2
  generalize o_su S d g n = T at *
  have i_cK : J_n (mS T 15) 6 := by
    rw [hS 15 (by decide)]
    exact inv.cK
  have i_cA : J_n (mS T 16) 24 := by
    rw [hS 16 (by decide)]
    exact inv.cA
  have i_cR : J_n (mS T 17) 200 := by
    rw [hS 17 (by decide)]
    exact inv.cR
  have i_cO : J_n (mS T 18) 300 := by
    rw [hS 18 (by decide)]
    exact inv.cO
  have i_cL : J_n (mS T 19) 2000 := by
    rw [hS 19 (by decide)]
    exact inv.cL
  have i_cF : J_n (mS T 20) 2000 := by
    rw [hS 20 (by decide)]
    exact inv.cF
  have i_cE : J_n (mS T 21) 20 := by
    rw [hS 21 (by decide)]
    exact inv.cE
  have i_cD : J_n (mS T 14) 5000 := by
    rw [hS 14 (by decide)]
    exact inv.cD
  have i_fl : (ci (mS T 20)) ≤ (ci (mS T 19)) := by
    rw [hS 20 (by decide), hS 19 (by decide)]
    exact inv.fl
  have i_rm : (ci (mS T 19)) + 3 * o_wt (mA T 42) ((ci (mS T 18))) ≤ 2000 := by
    rw [hS 19 (by decide), hA 42 (by decide), hS 18 (by decide)]
    exact inv.rm
  have i_ter : J_ter (mS T 5) (mS T 6) (mS T 7) (mS T 8) (mS T 9) (mS T 10) (mS T 11) (mS T 12) (mS T 13) := by
    rw [hS 5 (by decide), hS 6 (by decide), hS 7 (by decide), hS 8 (by decide), hS 9 (by decide), hS 10 (by decide), hS 11 (by decide), hS 12 (by decide), hS 13 (by decide)]
    exact inv.ter
  have i_kin : J_kin ((ci (mS T 15))) ((ci (mS T 17))) (mA T 22) (mA T 23) (mA T 24) (mB T 25) (mB T 26) := by
    rw [hS 15 (by decide), hS 17 (by decide), hA 22 (by decide), hA 23 (by decide), hA 24 (by decide), hB]
    exact inv.kin
  have i_row : J_row (mA T 1) (mA T 2) := by
    rw [hA 1 (by decide), hA 2 (by decide)]
    exact inv.row
  have i_acc : J_acc ((ci (mS T 16))) (mA T 28) (mB T 27) := by
    rw [hS 16 (by decide), hA 28 (by decide), hB]
    exact inv.acc
  have i_rec : J_rec ((ci (mS T 17))) ((ci (mS T 16))) ((ci (mS T 15))) (mA T 30) (mA T 31) (mA T 32) (mA T 34) (mB T 35) := by
    rw [hS 17 (by decide), hS 16 (by decide), hS 15 (by decide), hA 30 (by decide), hA 31 (by decide), hA 32 (by decide), hA 34 (by decide), hB]
    exact inv.rec
  have i_ord : J_ord ((ci (mS T 18))) ((ci (mS T 16))) ((ci (mS T 19))) (mA T 37) (mA T 38) (mA T 40) (mA T 41) (mA T 42) (mA T 43) (mA T 44) (mA T 46) (mA T 48) (mB T 47) := by
    rw [hS 18 (by decide), hS 16 (by decide), hS 19 (by decide), hA 37 (by decide), hA 38 (by decide), hA 40 (by decide), hA 41 (by decide), hA 42 (by decide), hA 43 (by decide), hA 44 (by decide), hA 46 (by decide), hA 48 (by decide), hB]
    exact inv.ord
  have i_lin : J_lin ((ci (mS T 19))) ((ci (mS T 16))) (mA T 50) (mA T 52) := by
    rw [hS 19 (by decide), hS 16 (by decide), hA 50 (by decide), hA 52 (by decide)]
    exact inv.lin
  have i_fol : J_fol ((ci (mS T 20))) ((ci (mS T 16))) (mA T 55) (mA T 56) := by
    rw [hS 20 (by decide), hS 16 (by decide), hA 55 (by decide), hA 56 (by decide)]
    exact inv.fol
  have i_len : J_len ((ci (mS T 21))) (mS T 14) (mA T 57) (mA T 58) := by
    rw [hS 21 (by decide), hS 14 (by decide), hA 57 (by decide), hA 58 (by decide)]
    exact inv.len
  have i_sus : J_sus ((ci (mS T 19))) ((ci (mS T 18))) (mA T 53) (mA T 42) (mA T 46) := by
    rw [hS 19 (by decide), hS 18 (by decide), hA 53 (by decide), hA 42 (by decide), hA 46 (by decide)]
    exact inv.sus
  have i_tak : inq (mT T 63) 0 (600000000 * ((ci (mS T 17)) : Int)) := by
    rw [hT, hS 17 (by decide)]
    exact inv.tak
  unfold INV
  refine ⟨i_cK, i_cA, i_cR, i_cO, i_cL, i_cF, i_cE, i_cD, ?_, i_fl, i_rm, i_ter, i_kin, i_row, i_acc, i_rec, i_ord, i_lin, i_fol, i_len, i_sus, i_tak⟩
  rw [hu.1]
  exact J_nI (by omega)
theorem inv_pays {S : z_M} {a : Int32} {sum : Int64} (inv : INV S) (ha : isx a (nA S)) (hr : nL S + 1 + 3 * o_wt (mA S 42) (nO S) ≤ 2000) : INV (o_pays S a sum) := by
  unfold o_pays
  exact inv_wr (S := uB S 27 (ci a) (mB S 27 (ci a) - sum)) (inv_bal inv (ci_lt ha)) ha (by decide) hr (Or.inl (by decide))
theorem uA_same {S : z_M} {k j : Nat} {v : Int32} (h : mA S k j = v) : uA S k j v = S := by
  refine z_M_ext (fun k' j' => ?_) (fun _ _ => rfl) (fun _ => rfl) (fun _ => rfl)
  rw [mA_uA]
  split
  · rename_i q
    rw [q.1, q.2, h]
  · rfl
theorem inv_wr2 {S : z_M} {d a side : Int32} {sum : Int64} {o : Nat} (inv : INV S) (ha : isx a (nA S)) (hs : inp side 0 1) (hr : nL S + 1 + 3 * o_wt (mA S 42) (nO S) ≤ 2000) (ho : o < nO S) (hw : (mA S 42 o).toInt = 1) (hl : (mA S 46 o).toInt = -1) : INV (uA (o_writes S d a side sum (nI o)).2 46 o (o_writes S d a side sum (nI o)).1) := by
  unfold o_writes
  split
  · show INV (uA S 46 o (-1))
    rw [uA_same (show mA S 46 o = -1 from Int32.toInt_inj.mp hl)]
    exact inv
  · have hfl := inv.fl
    have hff := ff_fol inv ha (by omega)
    have hS : ∀ k, k ≠ 20 → mS (o_ff S a).2 k = mS S k := fun k h => ff_S h
    have hA : ∀ k, (k ≠ 55 ∧ k ≠ 56) → mA (o_ff S a).2 k = mA S k := fun k h => ff_A h
    have hB : mB (o_ff S a).2 = mB S := ff_B
    have hT : mT (o_ff S a).2 = mT S := ff_T
    show INV (uA (o_ln (o_ff S a).2 d a (o_ff S a).1 side sum (nI o)) 46 o (nI (nL S)))
    generalize (o_ff S a).1 = f
    generalize (o_ff S a).2 = T at *
    have i_cK : J_n (mS T 15) 6 := by
      rw [hS 15 (by decide)]
      exact inv.cK
    have i_cA : J_n (mS T 16) 24 := by
      rw [hS 16 (by decide)]
      exact inv.cA
    have i_cR : J_n (mS T 17) 200 := by
      rw [hS 17 (by decide)]
      exact inv.cR
    have i_cO : J_n (mS T 18) 300 := by
      rw [hS 18 (by decide)]
      exact inv.cO
    have i_cE : J_n (mS T 21) 20 := by
      rw [hS 21 (by decide)]
      exact inv.cE
    have i_cD : J_n (mS T 14) 5000 := by
      rw [hS 14 (by decide)]
      exact inv.cD
    have i_cU : J_n (mS T 62) 600 := by
      rw [hS 62 (by decide)]
      exact inv.cU
    have i_ter : J_ter (mS T 5) (mS T 6) (mS T 7) (mS T 8) (mS T 9) (mS T 10) (mS T 11) (mS T 12) (mS T 13) := by
      rw [hS 5 (by decide), hS 6 (by decide), hS 7 (by decide), hS 8 (by decide), hS 9 (by decide), hS 10 (by decide), hS 11 (by decide), hS 12 (by decide), hS 13 (by decide)]
      exact inv.ter
    have i_kin : J_kin ((ci (mS T 15))) ((ci (mS T 17))) (mA T 22) (mA T 23) (mA T 24) (mB T 25) (mB T 26) := by
      rw [hS 15 (by decide), hS 17 (by decide), hA 22 (by decide), hA 23 (by decide), hA 24 (by decide), hB]
      exact inv.kin
    have i_row : J_row (mA T 1) (mA T 2) := by
      rw [hA 1 (by decide), hA 2 (by decide)]
      exact inv.row
    have i_acc : J_acc ((ci (mS T 16))) (mA T 28) (mB T 27) := by
      rw [hS 16 (by decide), hA 28 (by decide), hB]
      exact inv.acc
    have i_rec : J_rec ((ci (mS T 17))) ((ci (mS T 16))) ((ci (mS T 15))) (mA T 30) (mA T 31) (mA T 32) (mA T 34) (mB T 35) := by
      rw [hS 17 (by decide), hS 16 (by decide), hS 15 (by decide), hA 30 (by decide), hA 31 (by decide), hA 32 (by decide), hA 34 (by decide), hB]
      exact inv.rec
    have i_len : J_len ((ci (mS T 21))) (mS T 14) (mA T 57) (mA T 58) := by
      rw [hS 21 (by decide), hS 14 (by decide), hA 57 (by decide), hA 58 (by decide)]
      exact inv.len
    have i_tak : inq (mT T 63) 0 (600000000 * ((ci (mS T 17)) : Int)) := by
      rw [hT, hS 17 (by decide)]
      exact inv.tak
    have eL : nL T = nL S := by show ci (mS T 19) = ci (mS S 19); rw [hS 19 (by decide)]
    have eL' : nL (uA (o_ln T d a f side sum (nI o)) 46 o (nI (nL S))) = nL S + 1 := by
      show ci (nI (nL T + 1)) = _
      rw [eL, ci_nI (by omega)]
    have eA : nA T = nA S := by show ci (mS T 16) = ci (mS S 16); rw [hS 16 (by decide)]
    have eO : nO T = nO S := by show ci (mS T 18) = ci (mS S 18); rw [hS 18 (by decide)]
    unfold INV
    refine ⟨i_cK, i_cA, i_cR, i_cO, ?_, ?_, i_cE, i_cD, i_cU, ?_, ?_, i_ter, i_kin, i_row, i_acc, i_rec, ?_, ?_, ?_, i_len, ?_, i_tak⟩
    · show J_n (nI (nL T + 1)) 2000
      exact J_nI (by omega)
    · show J_n (mS T 20) 2000
      rw [hff.2.2]
      exact J_nI (by have := hff.2.1; omega)
    · rw [eL']
      have := hff.2.1
      show nF T ≤ _
      omega
    · rw [eL']
      show nL S + 1 + 3 * o_wt (mA T 42) (nO T) ≤ 2000
      rw [hA 42 (by decide), eO]
      exact hr
    · rw [eL']
      show J_ord (nO T) (nA T) (nL S + 1) (mA T 37) (mA T 38) (mA T 40) (mA T 41) (mA T 42) (mA T 43) (mA T 44) (mA (uA T 46 o (nI (nL S))) 46) (mA T 48) (mB T 47)
      rw [eO, eA, hA 37 (by decide), hA 38 (by decide), hA 40 (by decide), hA 41 (by decide), hA 42 (by decide), hA 43 (by decide), hA 44 (by decide), hA 48 (by decide), hB]
      refine And.intro (fun o' ho' => ?_) inv.ord.2
      have j := inv.ord.1 o' ho'
      refine ⟨j.1, j.2.1, j.2.2.1, j.2.2.2.1, j.2.2.2.2.1, j.2.2.2.2.2.1, j.2.2.2.2.2.2.1, j.2.2.2.2.2.2.2.1, ?_, j.2.2.2.2.2.2.2.2.2.1, j.2.2.2.2.2.2.2.2.2.2.1, ?_⟩
      · by_cases e : o' = o
        · rw [e, uA_at]
          have := nI_toInt (show nL S < 2 ^ 31 by omega)
          omega
        · rw [uA_of e, hA 46 (by decide)]
          have j9 := j.2.2.2.2.2.2.2.2.1
          omega
      · by_cases e : o' = o
        · rw [e]
          intro q
          omega
        · rw [uA_of e, hA 46 (by decide)]
          exact j.2.2.2.2.2.2.2.2.2.2.2
    · rw [eL']
      show J_lin (nL S + 1) (nA T) (mA (uA T 50 (nL T) a) 50) (mA (uA T 52 (nL T) side) 52)
      rw [eA, eL]
      intro i hi
      by_cases e : i = nL S
      · rw [e, uA_at, uA_at]
        exact ⟨ha, hs⟩
      · rw [uA_of e, uA_of e, hA 50 (by decide), hA 52 (by decide)]
        exact inv.lin i (by omega)
    · show J_fol (nF T) (nA T) (mA T 55) (mA T 56)
      rw [eA]
      exact hff.1
    · rw [eL']
      show o_cL (mA (uA T 53 (nL T) (nI o)) 53) (nL S + 1) ≤ o_cO (mA T 42) (mA (uA T 46 o (nI (nL S))) 46) (nO T)
      rw [eL, eO, hA 42 (by decide)]
      have e1 : o_cL (mA (uA T 53 (nL S) (nI o)) 53) (nL S) = o_cL (mA S 53) (nL S) := o_cL_c (fun j hj => by rw [uA_of (by omega), hA 53 (by decide)])
      have e2 : o_cL (mA S 53) (nL S) ≤ o_cO (mA S 42) (mA S 46) (nO S) := inv.sus
      have e3 : o_cO (mA S 42) (mA (uA T 46 o (nI (nL S))) 46) (nO S) = o_cO (mA S 42) (mA S 46) (nO S) + 1 := o_cO_u ho (fun j hj => ⟨rfl, by rw [uA_of hj, hA 46 (by decide)]⟩) (by
        rw [uA_at]
        have := nI_toInt (show nL S < 2 ^ 31 by omega)
        unfold o_cc
        rw [if_pos hw, if_pos hw, if_pos hl, if_neg (by omega)])
      show o_cL _ (nL S) + (if (mA (uA T 53 (nL S) (nI o)) 53 (nL S)).toInt = -1 then 0 else 1) ≤ _
      rw [e1, e3]
      split <;> omega
theorem deb_42 {S : z_M} {o : Nat} : mA (o_deb S o) 42 = mA (uA S 42 o 1) 42 := wr_A (by decide)
theorem deb_46 {S : z_M} {o : Nat} : mA (o_deb S o) 46 = mA S 46 := wr_A (by decide)
theorem deb_S {S : z_M} {o k : Nat} (h : k ≠ 19 ∧ k ≠ 20) : mS (o_deb S o) k = mS S k := (wr_S h).trans rfl
theorem cr_ok {S : z_M} {o : Nat} (inv : INV S) (ho : o < nO S) : isx (o_ca S o) (nA S) ∧ inp (o_cs S o) 0 1 := by
  have jo := inv.ord.1 o ho
  unfold o_ca o_cs
  refine ⟨?_, ?_⟩
  · split
    · rename_i q
      exact jo.2.2.2.2.2.2.2.1 q
    · exact jo.2.1
  · split <;> decide
theorem inv_does {S : z_M} {o : Nat} (inv : INV S) (ho : o < nO S) (hw : (mA S 42 o).toInt = 0) : INV (o_does S o).2 := by
  have jo := inv.ord.1 o ho
  have hl := jo.2.2.2.2.2.2.2.2.2.2.2 hw
  unfold o_does
  split
  · exact (inv_how inv ho hw (by decide)).1
  · split
    · have a := inv_how (x := 3) inv ho hw (by decide)
      exact inv_pays (S := uT (uA S 42 o 3) 64 (mT S 64 + o_fine S o)) a.1 jo.1 (by have := a.2; show nL S + 1 + 3 * o_wt (mA (uA S 42 o 3) 42) (nO S) ≤ 2000; omega)
    · have b := inv_deb inv ho hw
      split
      · exact b.1
      · have e1 : nO (o_deb S o) = nO S := by show ci _ = ci _; rw [deb_S (by decide)]
        have e2 : nA (o_deb S o) = nA S := by show ci _ = ci _; rw [deb_S (by decide)]
        have c := cr_ok inv ho
        refine inv_wr2 b.1 (by rw [e2]; exact c.1) c.2 (by rw [e1]; have := b.2.2; omega) (by rw [e1]; exact ho) ?_ ?_
        · rw [deb_42, uA_at]; rfl
        · rw [deb_46]; exact hl
theorem pays_A {S : z_M} {a : Int32} {sum : Int64} {k : Nat} (h : k ≠ 49 ∧ k ≠ 50 ∧ k ≠ 51 ∧ k ≠ 52 ∧ k ≠ 53 ∧ k ≠ 55 ∧ k ≠ 56) : mA (o_pays S a sum) k = mA S k := (wr_A h).trans rfl
theorem pays_S {S : z_M} {a : Int32} {sum : Int64} {k : Nat} (h : k ≠ 19 ∧ k ≠ 20) : mS (o_pays S a sum) k = mS S k := (wr_S h).trans rfl
theorem pays_T {S : z_M} {a : Int32} {sum : Int64} : mT (o_pays S a sum) = mT S := wr_T.trans rfl
theorem pays_B {S : z_M} {a : Int32} {sum : Int64} {k : Nat} (h : k ≠ 27 ∧ k ≠ 54) : mB (o_pays S a sum) k = mB S k := (wr_B h.2).trans (mB_ne h.1)
theorem does_S {S : z_M} {o k : Nat} (h : k ≠ 19 ∧ k ≠ 20) : mS (o_does S o).2 k = mS S k := by
  unfold o_does
  split
  · rfl
  · split
    · exact (pays_S h).trans rfl
    · split
      · exact deb_S h
      · show mS (o_writes (o_deb S o) (dy S) (o_ca S o) (o_cs S o) (o_cm S o) (nI o)).2 k = _
        rw [wr_S h, deb_S h]
theorem does_A {S : z_M} {o k : Nat} (h : k ≠ 42 ∧ k ≠ 45 ∧ k ≠ 46 ∧ k ≠ 49 ∧ k ≠ 50 ∧ k ≠ 51 ∧ k ≠ 52 ∧ k ≠ 53 ∧ k ≠ 55 ∧ k ≠ 56) : mA (o_does S o).2 k = mA S k := by
  unfold o_does
  split
  · exact mA_ne h.1
  · split
    · exact (pays_A (by omega)).trans (mA_ne h.1)
    · split
      · exact deb_A (by omega)
      · show mA (uA _ 46 o _) k = _
        rw [mA_ne h.2.2.1, wr_A (by omega), deb_A (by omega)]
theorem does_B {S : z_M} {o k : Nat} (h : k ≠ 27 ∧ k ≠ 54) : mB (o_does S o).2 k = mB S k := by
  have hd : mB (o_deb S o) k = mB S k := by
    unfold o_deb
    rw [wr_B h.2]
    unfold o_mov
    rw [mB_ne h.1, mB_ne h.1]
    rfl
  unfold o_does
  split
  · rfl
  · split
    · exact (pays_B h).trans rfl
    · split
      · exact hd
      · show mB (o_writes (o_deb S o) (dy S) (o_ca S o) (o_cs S o) (o_cm S o) (nI o)).2 k = _
        rw [wr_B h.2, hd]
theorem does_42 {S : z_M} {o : Nat} : (∀ j, j ≠ o → mA (o_does S o).2 42 j = mA S 42 j) ∧ ((mA (o_does S o).2 42 o).toInt = 1 ∨ (mA (o_does S o).2 42 o).toInt = 2 ∨ (mA (o_does S o).2 42 o).toInt = 3) ∧ ((o_does S o).1 = true ↔ (mA (o_does S o).2 42 o).toInt = 1) := by
  unfold o_does
  split
  · exact ⟨fun j hj => uA_of hj, by rw [uA_at]; decide, by rw [uA_at]; first | exact (show (false = true ↔ Int32.toInt 2 = 1) by decide) | exact (show (false = true ↔ Int32.toInt 3 = 1) by decide) | exact (show (true = true ↔ Int32.toInt 1 = 1) by decide) | exact (show (True ↔ Int32.toInt 1 = 1) by decide)⟩
  · split
    · have e : mA (o_pays (uT (uA S 42 o 3) 64 (mT S 64 + o_fine S o)) (mA S 37 o) (o_fine S o)) 42 = mA (uA S 42 o 3) 42 := (pays_A (by decide)).trans rfl
      show (∀ j, j ≠ o → mA (o_pays _ _ _) 42 j = _) ∧ _ ∧ _
      simp only [e]
      exact ⟨fun j hj => uA_of hj, by rw [uA_at]; decide, by rw [uA_at]; first | exact (show (false = true ↔ Int32.toInt 2 = 1) by decide) | exact (show (false = true ↔ Int32.toInt 3 = 1) by decide) | exact (show (true = true ↔ Int32.toInt 1 = 1) by decide) | exact (show (True ↔ Int32.toInt 1 = 1) by decide)⟩
    · split
      · show (∀ j, j ≠ o → mA (o_deb S o) 42 j = _) ∧ _ ∧ _
        simp only [deb_42]
        exact ⟨fun j hj => uA_of hj, by rw [uA_at]; decide, by rw [uA_at]; first | exact (show (false = true ↔ Int32.toInt 2 = 1) by decide) | exact (show (false = true ↔ Int32.toInt 3 = 1) by decide) | exact (show (true = true ↔ Int32.toInt 1 = 1) by decide) | exact (show (True ↔ Int32.toInt 1 = 1) by decide)⟩
      · have e : mA (uA (o_writes (o_deb S o) (dy S) (o_ca S o) (o_cs S o) (o_cm S o) (nI o)).2 46 o (o_writes (o_deb S o) (dy S) (o_ca S o) (o_cs S o) (o_cm S o) (nI o)).1) 42 = mA (uA S 42 o 1) 42 := by
          rw [mA_ne (by decide), wr_A (by decide), deb_42]
        simp only [e]
        exact ⟨fun j hj => uA_of hj, by rw [uA_at]; decide, by rw [uA_at]; first | exact (show (false = true ↔ Int32.toInt 2 = 1) by decide) | exact (show (false = true ↔ Int32.toInt 3 = 1) by decide) | exact (show (true = true ↔ Int32.toInt 1 = 1) by decide) | exact (show (True ↔ Int32.toInt 1 = 1) by decide)⟩
/-- what holds between the steps of a close -/
def QI (S : z_M) (q : z_Q) : Prop := INV q.2.2 ∧ (∀ k, k ≠ 19 ∧ k ≠ 20 → mS q.2.2 k = mS S k) ∧ q.1 + o_wt (mA q.2.2 42) (nO S) ≤ nO S ∧ (0 ≤ q.2.1.toInt ∧ q.2.1.toInt ≤ 1000000000 * (q.1 : Int)) ∧ (∀ k, k = 39 ∨ k = 40 ∨ k = 33 ∨ k = 34 → mA q.2.2 k = mA S k) ∧ mB q.2.2 47 = mB S 47 ∧ (mT q.2.2 63 = mT S 63 ∧ mT q.2.2 65 = mT S 65 ∧ mT q.2.2 66 = mT S 66)
theorem does_T {S : z_M} {o k : Nat} (h : k ≠ 64) : mT (o_does S o).2 k = mT S k := by
  unfold o_does
  split
  · rfl
  · split
    · show mT (o_pays _ _ _) k = _
      rw [pays_T, mT_uT, if_neg h]
      rfl
    · have e : mT (o_deb S o) k = mT S k := by
        unfold o_deb
        rw [wr_T]
        rfl
      split
      · exact e
      · show mT (o_writes (o_deb S o) (dy S) (o_ca S o) (o_cs S o) (o_cm S o) (nI o)).2 k = _
        rw [wr_T, e]
theorem QI.start {S : z_M} (inv : INV S) : QI S (0, 0, S) := by
  refine ⟨inv, fun _ _ => rfl, ?_, (show 0 ≤ (0 : Int64).toInt ∧ (0 : Int64).toInt ≤ 1000000000 * ((0 : Nat) : Int) from by decide), fun _ _ => rfl, rfl, rfl, rfl, rfl⟩
  have : ∀ n, o_wt (mA S 42) n ≤ n := by
    intro n
    induction n with
    | zero => exact Nat.le_refl _
    | succ n ih =>
      show o_wt (mA S 42) n + (if _ then 1 else 0) ≤ _
      split <;> omega
  have := this (nO S)
  show 0 + o_wt (mA S 42) (nO S) ≤ nO S
  omega
theorem QI.does {S : z_M} {q : z_Q} {o : Nat} (a : QI S q) (ho : o < nO S) (hw : (mA q.2.2 42 o).toInt = 0) : QI S (if (o_does q.2.2 o).1 = true then (q.1 + 1, q.2.1 + mB q.2.2 47 o, (o_does q.2.2 o).2) else (q.1, q.2.1, (o_does q.2.2 o).2)) := by
  obtain ⟨a1, a2, a3, a4, a5, a6, a7⟩ := a
  have eO : nO q.2.2 = nO S := by show ci _ = ci _; rw [a2 18 (by decide)]
  have ho' : o < nO q.2.2 := by omega
  have hi := inv_does a1 ho' hw
  have h42 := does_42 (S := q.2.2) (o := o)
  have hwt : o_wt (mA (o_does q.2.2 o).2 42) (nO S) + 1 = o_wt (mA q.2.2 42) (nO S) := o_wt_u ho h42.1 hw (by omega)
  have hb : nO q.2.2 ≤ 300 := a1.cO.2
  have jo := (a1.ord.1 o ho').2.2.2.2.2.2.2.2.2.1
  have x1 : ∀ k, k ≠ 19 ∧ k ≠ 20 → mS (o_does q.2.2 o).2 k = mS S k := fun k h => by rw [does_S h, a2 k h]
  have x2 : ∀ k, k = 39 ∨ k = 40 ∨ k = 33 ∨ k = 34 → mA (o_does q.2.2 o).2 k = mA S k := fun k h => by rw [does_A (by omega), a5 k h]
  have x3 : mB (o_does q.2.2 o).2 47 = mB S 47 := by rw [does_B (by decide), a6]
  have x4 : mT (o_does q.2.2 o).2 63 = mT S 63 ∧ mT (o_does q.2.2 o).2 65 = mT S 65 ∧ mT (o_does q.2.2 o).2 66 = mT S 66 := by
    rw [does_T (by decide), does_T (by decide), does_T (by decide)]
    exact a7
  split
  · refine ⟨hi, x1, ?_, ?_, x2, x3, x4⟩
    · show q.1 + 1 + o_wt (mA (o_does q.2.2 o).2 42) (nO S) ≤ nO S
      omega
    · show 0 ≤ (q.2.1 + mB q.2.2 47 o).toInt ∧ (q.2.1 + mB q.2.2 47 o).toInt ≤ 1000000000 * ((q.1 + 1 : Nat) : Int)
      rw [add64 (by omega) (by omega)]
      omega
  · refine ⟨hi, x1, ?_, a4, x2, x3, x4⟩
    show q.1 + o_wt (mA (o_does q.2.2 o).2 42) (nO S) ≤ nO S
    omega
theorem QI.st {S : z_M} {q : z_Q} {o hour : Nat} (a : QI S q) (ho : o < nO S) : QI S (o_st hour o q) := by
  unfold o_st
  split
  · rename_i h
    exact a.does ho h.1
  · exact a
theorem QI.hs {S : z_M} {q : z_Q} {hour n : Nat} (a : QI S q) (hn : n ≤ nO S) : QI S (o_hs hour n q) := by
  induction n with
  | zero => exact a
  | succ n ih => exact (ih (by omega)).st (by omega)
theorem QI.cl {S : z_M} {q : z_Q} {n h : Nat} (a : QI S q) (hn : n ≤ nO S) : QI S (o_cl n h q) := by
  induction h with
  | zero => exact a
  | succ h ih => exact ih.hs hn
end
