section
-- ===== PART A: goes FIRST, ahead of the names: the tables' words, and 'selects' of the private methods out of them =====
/-- a private method of a class that the tables say can be made, by its rows of tables_1 -/
def lw_okq (q : MethodName × Nat) : Prop := (q.1.cls ≠ "java/lang/invoke/MethodHandle" ∧ q.1.cls ≠ "java/lang/invoke/VarHandle") ∧ Cond.instantiable q.1.cls q.2 ∈ tables_1 ∧ Cond.privateMethod q.1 ∈ tables_1 ∧ Cond.instanceMethod q.1 ∈ tables_1
theorem lw_p0 : lw_okq (⟨"java/lang/Throwable", "fillInStackTrace", "(I)Ljava/lang/Throwable;"⟩, 6) := ⟨⟨by decide +kernel, by decide +kernel⟩, List.mem_of_getElem? (i := 296) (by decide +kernel), List.mem_of_getElem? (i := 294) (by decide +kernel), List.mem_of_getElem? (i := 295) (by decide +kernel)⟩
theorem lw_p1 : lw_okq (⟨"CountedHouse", "checkRequest", "(I)V"⟩, 4) := ⟨⟨by decide +kernel, by decide +kernel⟩, List.mem_of_getElem? (i := 21) (by decide +kernel), List.mem_of_getElem? (i := 361) (by decide +kernel), List.mem_of_getElem? (i := 362) (by decide +kernel)⟩
theorem lw_p2 : lw_okq (⟨"CountedHouse$Book", "isVoid", "(IIIII)Z"⟩, 4) := ⟨⟨by decide +kernel, by decide +kernel⟩, List.mem_of_getElem? (i := 58) (by decide +kernel), List.mem_of_getElem? (i := 416) (by decide +kernel), List.mem_of_getElem? (i := 417) (by decide +kernel)⟩
theorem lw_p3 : lw_okq (⟨"CountedHouse$Book", "makeRow", "(III)V"⟩, 4) := ⟨⟨by decide +kernel, by decide +kernel⟩, List.mem_of_getElem? (i := 58) (by decide +kernel), List.mem_of_getElem? (i := 444) (by decide +kernel), List.mem_of_getElem? (i := 445) (by decide +kernel)⟩
theorem lw_p4 : lw_okq (⟨"CountedHouse$Counter", "isBinding", "(I)Z"⟩, 3) := ⟨⟨by decide +kernel, by decide +kernel⟩, List.mem_of_getElem? (i := 67) (by decide +kernel), List.mem_of_getElem? (i := 452) (by decide +kernel), List.mem_of_getElem? (i := 453) (by decide +kernel)⟩
theorem lw_p5 : lw_okq (⟨"CountedHouse$Server", "nextSender", "()I"⟩, 10) := ⟨⟨by decide +kernel, by decide +kernel⟩, List.mem_of_getElem? (i := 119) (by decide +kernel), List.mem_of_getElem? (i := 472) (by decide +kernel), List.mem_of_getElem? (i := 473) (by decide +kernel)⟩
theorem lw_p6 : lw_okq (⟨"CountedHouse$Server", "waits", "(II)Z"⟩, 10) := ⟨⟨by decide +kernel, by decide +kernel⟩, List.mem_of_getElem? (i := 119) (by decide +kernel), List.mem_of_getElem? (i := 488) (by decide +kernel), List.mem_of_getElem? (i := 489) (by decide +kernel)⟩
theorem lw_p7 : lw_okq (⟨"CountedHouse$Server", "take", "(II)V"⟩, 10) := ⟨⟨by decide +kernel, by decide +kernel⟩, List.mem_of_getElem? (i := 119) (by decide +kernel), List.mem_of_getElem? (i := 500) (by decide +kernel), List.mem_of_getElem? (i := 501) (by decide +kernel)⟩
theorem lw_p8 : lw_okq (⟨"CountedHouse$Server", "enterView", "(IZ)V"⟩, 10) := ⟨⟨by decide +kernel, by decide +kernel⟩, List.mem_of_getElem? (i := 119) (by decide +kernel), List.mem_of_getElem? (i := 524) (by decide +kernel), List.mem_of_getElem? (i := 525) (by decide +kernel)⟩
theorem lw_p9 : lw_okq (⟨"CountedHouse$Server", "doWhatIsDue", "()V"⟩, 10) := ⟨⟨by decide +kernel, by decide +kernel⟩, List.mem_of_getElem? (i := 119) (by decide +kernel), List.mem_of_getElem? (i := 532) (by decide +kernel), List.mem_of_getElem? (i := 533) (by decide +kernel)⟩
theorem lw_p10 : lw_okq (⟨"CountedHouse", "checkMessage", "(II)V"⟩, 4) := ⟨⟨by decide +kernel, by decide +kernel⟩, List.mem_of_getElem? (i := 21) (by decide +kernel), List.mem_of_getElem? (i := 594) (by decide +kernel), List.mem_of_getElem? (i := 595) (by decide +kernel)⟩
theorem lw_p11 : lw_okq (⟨"CountedHouse", "checkLiar", "(I)V"⟩, 4) := ⟨⟨by decide +kernel, by decide +kernel⟩, List.mem_of_getElem? (i := 21) (by decide +kernel), List.mem_of_getElem? (i := 700) (by decide +kernel), List.mem_of_getElem? (i := 701) (by decide +kernel)⟩
theorem lw_p12 : lw_okq (⟨"CountedHouse", "canStandIn", "(II)Z"⟩, 4) := ⟨⟨by decide +kernel, by decide +kernel⟩, List.mem_of_getElem? (i := 21) (by decide +kernel), List.mem_of_getElem? (i := 709) (by decide +kernel), List.mem_of_getElem? (i := 710) (by decide +kernel)⟩
theorem lw_p13 : lw_okq (⟨"CountedHouseModel", "isRequest", "(I)Z"⟩, 41) := ⟨⟨by decide +kernel, by decide +kernel⟩, List.mem_of_getElem? (i := 807) (by decide +kernel), List.mem_of_getElem? (i := 949) (by decide +kernel), List.mem_of_getElem? (i := 950) (by decide +kernel)⟩
theorem lw_p14 : lw_okq (⟨"CountedHouseModel", "bad", "(ZI)Z"⟩, 41) := ⟨⟨by decide +kernel, by decide +kernel⟩, List.mem_of_getElem? (i := 807) (by decide +kernel), List.mem_of_getElem? (i := 956) (by decide +kernel), List.mem_of_getElem? (i := 957) (by decide +kernel)⟩
theorem lw_p15 : lw_okq (⟨"CountedHouseModel", "certifies", "(IIIII)I"⟩, 41) := ⟨⟨by decide +kernel, by decide +kernel⟩, List.mem_of_getElem? (i := 807) (by decide +kernel), List.mem_of_getElem? (i := 963) (by decide +kernel), List.mem_of_getElem? (i := 964) (by decide +kernel)⟩
def lw_privs_1 : List (MethodName × Nat) := [(⟨"java/lang/Throwable", "fillInStackTrace", "(I)Ljava/lang/Throwable;"⟩, 6), (⟨"CountedHouse", "checkRequest", "(I)V"⟩, 4), (⟨"CountedHouse$Book", "isVoid", "(IIIII)Z"⟩, 4), (⟨"CountedHouse$Book", "makeRow", "(III)V"⟩, 4), (⟨"CountedHouse$Counter", "isBinding", "(I)Z"⟩, 3), (⟨"CountedHouse$Server", "nextSender", "()I"⟩, 10), (⟨"CountedHouse$Server", "waits", "(II)Z"⟩, 10), (⟨"CountedHouse$Server", "take", "(II)V"⟩, 10), (⟨"CountedHouse$Server", "enterView", "(IZ)V"⟩, 10), (⟨"CountedHouse$Server", "doWhatIsDue", "()V"⟩, 10), (⟨"CountedHouse", "checkMessage", "(II)V"⟩, 4), (⟨"CountedHouse", "checkLiar", "(I)V"⟩, 4), (⟨"CountedHouse", "canStandIn", "(II)Z"⟩, 4), (⟨"CountedHouseModel", "isRequest", "(I)Z"⟩, 41), (⟨"CountedHouseModel", "bad", "(ZI)Z"⟩, 41), (⟨"CountedHouseModel", "certifies", "(IIIII)I"⟩, 41)]
theorem lw_r1 : ∀ q ∈ lw_privs_1, lw_okq q := List.forall_mem_cons.mpr ⟨lw_p0, List.forall_mem_cons.mpr ⟨lw_p1, List.forall_mem_cons.mpr ⟨lw_p2, List.forall_mem_cons.mpr ⟨lw_p3, List.forall_mem_cons.mpr ⟨lw_p4, List.forall_mem_cons.mpr ⟨lw_p5, List.forall_mem_cons.mpr ⟨lw_p6, List.forall_mem_cons.mpr ⟨lw_p7, List.forall_mem_cons.mpr ⟨lw_p8, List.forall_mem_cons.mpr ⟨lw_p9, List.forall_mem_cons.mpr ⟨lw_p10, List.forall_mem_cons.mpr ⟨lw_p11, List.forall_mem_cons.mpr ⟨lw_p12, List.forall_mem_cons.mpr ⟨lw_p13, List.forall_mem_cons.mpr ⟨lw_p14, List.forall_mem_cons.mpr ⟨lw_p15, fun _ h => absurd h List.not_mem_nil⟩⟩⟩⟩⟩⟩⟩⟩⟩⟩⟩⟩⟩⟩⟩⟩
theorem lw_p16 : lw_okq (⟨"CountedHouseModel", "read", "(III)V"⟩, 41) := ⟨⟨by decide +kernel, by decide +kernel⟩, List.mem_of_getElem? (i := 807) (by decide +kernel), List.mem_of_getElem? (i := 967) (by decide +kernel), List.mem_of_getElem? (i := 968) (by decide +kernel)⟩
theorem lw_p17 : lw_okq (⟨"CountedHouseModel", "isVoid", "(II)Z"⟩, 41) := ⟨⟨by decide +kernel, by decide +kernel⟩, List.mem_of_getElem? (i := 807) (by decide +kernel), List.mem_of_getElem? (i := 971) (by decide +kernel), List.mem_of_getElem? (i := 972) (by decide +kernel)⟩
theorem lw_p18 : lw_okq (⟨"CountedHouseModel", "isVoidPrepare", "(II)Z"⟩, 41) := ⟨⟨by decide +kernel, by decide +kernel⟩, List.mem_of_getElem? (i := 807) (by decide +kernel), List.mem_of_getElem? (i := 975) (by decide +kernel), List.mem_of_getElem? (i := 976) (by decide +kernel)⟩
theorem lw_p19 : lw_okq (⟨"CountedHouseModel", "opening", "(I)I"⟩, 41) := ⟨⟨by decide +kernel, by decide +kernel⟩, List.mem_of_getElem? (i := 807) (by decide +kernel), List.mem_of_getElem? (i := 979) (by decide +kernel), List.mem_of_getElem? (i := 980) (by decide +kernel)⟩
theorem lw_p20 : lw_okq (⟨"CountedHouseModel", "isVoidNew", "(II)Z"⟩, 41) := ⟨⟨by decide +kernel, by decide +kernel⟩, List.mem_of_getElem? (i := 807) (by decide +kernel), List.mem_of_getElem? (i := 983) (by decide +kernel), List.mem_of_getElem? (i := 984) (by decide +kernel)⟩
theorem lw_p21 : lw_okq (⟨"CountedHouseModel", "isChange", "(III)Z"⟩, 41) := ⟨⟨by decide +kernel, by decide +kernel⟩, List.mem_of_getElem? (i := 807) (by decide +kernel), List.mem_of_getElem? (i := 987) (by decide +kernel), List.mem_of_getElem? (i := 988) (by decide +kernel)⟩
theorem lw_p22 : lw_okq (⟨"CountedHouseModel", "isThere", "(II)Z"⟩, 41) := ⟨⟨by decide +kernel, by decide +kernel⟩, List.mem_of_getElem? (i := 807) (by decide +kernel), List.mem_of_getElem? (i := 991) (by decide +kernel), List.mem_of_getElem? (i := 992) (by decide +kernel)⟩
theorem lw_p23 : lw_okq (⟨"CountedHouseModel", "hasLeft", "(III)Z"⟩, 41) := ⟨⟨by decide +kernel, by decide +kernel⟩, List.mem_of_getElem? (i := 807) (by decide +kernel), List.mem_of_getElem? (i := 995) (by decide +kernel), List.mem_of_getElem? (i := 996) (by decide +kernel)⟩
theorem lw_p24 : lw_okq (⟨"CountedHouseModel", "isVoidCommit", "(II)Z"⟩, 41) := ⟨⟨by decide +kernel, by decide +kernel⟩, List.mem_of_getElem? (i := 807) (by decide +kernel), List.mem_of_getElem? (i := 999) (by decide +kernel), List.mem_of_getElem? (i := 1000) (by decide +kernel)⟩
theorem lw_p25 : lw_okq (⟨"CountedHouseModel", "readPrepare", "(II)V"⟩, 41) := ⟨⟨by decide +kernel, by decide +kernel⟩, List.mem_of_getElem? (i := 807) (by decide +kernel), List.mem_of_getElem? (i := 1003) (by decide +kernel), List.mem_of_getElem? (i := 1004) (by decide +kernel)⟩
theorem lw_p26 : lw_okq (⟨"CountedHouseModel", "readChange", "(IIII)V"⟩, 41) := ⟨⟨by decide +kernel, by decide +kernel⟩, List.mem_of_getElem? (i := 807) (by decide +kernel), List.mem_of_getElem? (i := 1007) (by decide +kernel), List.mem_of_getElem? (i := 1008) (by decide +kernel)⟩
theorem lw_p27 : lw_okq (⟨"CountedHouseModel", "readNew", "(III)V"⟩, 41) := ⟨⟨by decide +kernel, by decide +kernel⟩, List.mem_of_getElem? (i := 807) (by decide +kernel), List.mem_of_getElem? (i := 1011) (by decide +kernel), List.mem_of_getElem? (i := 1012) (by decide +kernel)⟩
theorem lw_p28 : lw_okq (⟨"CountedHouseModel", "turnsTo", "(IIZ)V"⟩, 41) := ⟨⟨by decide +kernel, by decide +kernel⟩, List.mem_of_getElem? (i := 807) (by decide +kernel), List.mem_of_getElem? (i := 1015) (by decide +kernel), List.mem_of_getElem? (i := 1016) (by decide +kernel)⟩
theorem lw_p29 : lw_okq (⟨"CountedHouseModel", "does", "(I)V"⟩, 41) := ⟨⟨by decide +kernel, by decide +kernel⟩, List.mem_of_getElem? (i := 807) (by decide +kernel), List.mem_of_getElem? (i := 1019) (by decide +kernel), List.mem_of_getElem? (i := 1020) (by decide +kernel)⟩
theorem lw_p30 : lw_okq (⟨"CountedHouseModel", "rows", "(I)V"⟩, 41) := ⟨⟨by decide +kernel, by decide +kernel⟩, List.mem_of_getElem? (i := 807) (by decide +kernel), List.mem_of_getElem? (i := 1023) (by decide +kernel), List.mem_of_getElem? (i := 1024) (by decide +kernel)⟩
theorem lw_p31 : lw_okq (⟨"CountedHouseModel", "before", "(I)I"⟩, 41) := ⟨⟨by decide +kernel, by decide +kernel⟩, List.mem_of_getElem? (i := 807) (by decide +kernel), List.mem_of_getElem? (i := 1027) (by decide +kernel), List.mem_of_getElem? (i := 1028) (by decide +kernel)⟩
def lw_privs_2 : List (MethodName × Nat) := [(⟨"CountedHouseModel", "read", "(III)V"⟩, 41), (⟨"CountedHouseModel", "isVoid", "(II)Z"⟩, 41), (⟨"CountedHouseModel", "isVoidPrepare", "(II)Z"⟩, 41), (⟨"CountedHouseModel", "opening", "(I)I"⟩, 41), (⟨"CountedHouseModel", "isVoidNew", "(II)Z"⟩, 41), (⟨"CountedHouseModel", "isChange", "(III)Z"⟩, 41), (⟨"CountedHouseModel", "isThere", "(II)Z"⟩, 41), (⟨"CountedHouseModel", "hasLeft", "(III)Z"⟩, 41), (⟨"CountedHouseModel", "isVoidCommit", "(II)Z"⟩, 41), (⟨"CountedHouseModel", "readPrepare", "(II)V"⟩, 41), (⟨"CountedHouseModel", "readChange", "(IIII)V"⟩, 41), (⟨"CountedHouseModel", "readNew", "(III)V"⟩, 41), (⟨"CountedHouseModel", "turnsTo", "(IIZ)V"⟩, 41), (⟨"CountedHouseModel", "does", "(I)V"⟩, 41), (⟨"CountedHouseModel", "rows", "(I)V"⟩, 41), (⟨"CountedHouseModel", "before", "(I)I"⟩, 41)]
theorem lw_r2 : ∀ q ∈ lw_privs_2, lw_okq q := List.forall_mem_cons.mpr ⟨lw_p16, List.forall_mem_cons.mpr ⟨lw_p17, List.forall_mem_cons.mpr ⟨lw_p18, List.forall_mem_cons.mpr ⟨lw_p19, List.forall_mem_cons.mpr ⟨lw_p20, List.forall_mem_cons.mpr ⟨lw_p21, List.forall_mem_cons.mpr ⟨lw_p22, List.forall_mem_cons.mpr ⟨lw_p23, List.forall_mem_cons.mpr ⟨lw_p24, List.forall_mem_cons.mpr ⟨lw_p25, List.forall_mem_cons.mpr ⟨lw_p26, List.forall_mem_cons.mpr ⟨lw_p27, List.forall_mem_cons.mpr ⟨lw_p28, List.forall_mem_cons.mpr ⟨lw_p29, List.forall_mem_cons.mpr ⟨lw_p30, List.forall_mem_cons.mpr ⟨lw_p31, fun _ h => absurd h List.not_mem_nil⟩⟩⟩⟩⟩⟩⟩⟩⟩⟩⟩⟩⟩⟩⟩⟩
theorem lw_p32 : lw_okq (⟨"CountedHouseModel", "hasOf", "(III)Z"⟩, 41) := ⟨⟨by decide +kernel, by decide +kernel⟩, List.mem_of_getElem? (i := 807) (by decide +kernel), List.mem_of_getElem? (i := 1031) (by decide +kernel), List.mem_of_getElem? (i := 1032) (by decide +kernel)⟩
theorem lw_p33 : lw_okq (⟨"CountedHouseModel", "adds", "(II)V"⟩, 41) := ⟨⟨by decide +kernel, by decide +kernel⟩, List.mem_of_getElem? (i := 807) (by decide +kernel), List.mem_of_getElem? (i := 1035) (by decide +kernel), List.mem_of_getElem? (i := 1036) (by decide +kernel)⟩
theorem lw_p34 : lw_okq (⟨"CountedHouseModel", "tells", "(IIII)Z"⟩, 41) := ⟨⟨by decide +kernel, by decide +kernel⟩, List.mem_of_getElem? (i := 807) (by decide +kernel), List.mem_of_getElem? (i := 1039) (by decide +kernel), List.mem_of_getElem? (i := 1040) (by decide +kernel)⟩
theorem lw_p35 : lw_okq (⟨"CountedHouseModel", "doOne", "(II)V"⟩, 41) := ⟨⟨by decide +kernel, by decide +kernel⟩, List.mem_of_getElem? (i := 807) (by decide +kernel), List.mem_of_getElem? (i := 1043) (by decide +kernel), List.mem_of_getElem? (i := 1044) (by decide +kernel)⟩
theorem lw_p36 : lw_okq (⟨"CountedHouseModel", "readsOn", "(I)I"⟩, 41) := ⟨⟨by decide +kernel, by decide +kernel⟩, List.mem_of_getElem? (i := 807) (by decide +kernel), List.mem_of_getElem? (i := 1047) (by decide +kernel), List.mem_of_getElem? (i := 1048) (by decide +kernel)⟩
theorem lw_p37 : lw_okq (⟨"CountedHouseModel", "waits", "(III)Z"⟩, 41) := ⟨⟨by decide +kernel, by decide +kernel⟩, List.mem_of_getElem? (i := 807) (by decide +kernel), List.mem_of_getElem? (i := 1051) (by decide +kernel), List.mem_of_getElem? (i := 1052) (by decide +kernel)⟩
theorem lw_p38 : lw_okq (⟨"CountedHouseModel", "turns", "(I)Z"⟩, 41) := ⟨⟨by decide +kernel, by decide +kernel⟩, List.mem_of_getElem? (i := 807) (by decide +kernel), List.mem_of_getElem? (i := 1063) (by decide +kernel), List.mem_of_getElem? (i := 1064) (by decide +kernel)⟩
def lw_privs_3 : List (MethodName × Nat) := [(⟨"CountedHouseModel", "hasOf", "(III)Z"⟩, 41), (⟨"CountedHouseModel", "adds", "(II)V"⟩, 41), (⟨"CountedHouseModel", "tells", "(IIII)Z"⟩, 41), (⟨"CountedHouseModel", "doOne", "(II)V"⟩, 41), (⟨"CountedHouseModel", "readsOn", "(I)I"⟩, 41), (⟨"CountedHouseModel", "waits", "(III)Z"⟩, 41), (⟨"CountedHouseModel", "turns", "(I)Z"⟩, 41)]
theorem lw_r3 : ∀ q ∈ lw_privs_3, lw_okq q := List.forall_mem_cons.mpr ⟨lw_p32, List.forall_mem_cons.mpr ⟨lw_p33, List.forall_mem_cons.mpr ⟨lw_p34, List.forall_mem_cons.mpr ⟨lw_p35, List.forall_mem_cons.mpr ⟨lw_p36, List.forall_mem_cons.mpr ⟨lw_p37, List.forall_mem_cons.mpr ⟨lw_p38, fun _ h => absurd h List.not_mem_nil⟩⟩⟩⟩⟩⟩⟩
def lw_privs : List (MethodName × Nat) := lw_privs_1 ++ (lw_privs_2 ++ (lw_privs_3))
def lw_tbl : List Cond := k2_sels lw_privs ++ tables_1
theorem lw_privs_ok : ∀ q ∈ lw_privs, lw_okq q := by
  show ∀ q ∈ lw_privs_1 ++ (lw_privs_2 ++ (lw_privs_3)), lw_okq q
  exact List.forall_mem_append.mpr ⟨lw_r1, List.forall_mem_append.mpr ⟨lw_r2, lw_r3⟩⟩
end
section
def RX0 : String := "CountedHouse$Answers"
def TX0 : u_T := fun k => match k with
  | 0 => ("CountedHouse$Answers", "brought", "[Z", true)
  | 1 => ("CountedHouse$Answers", "last", "[I", true)
  | 2 => ("CountedHouse$Answers", "answered", "[Z", true)
  | _ => ("CountedHouse$Answers", "answer", "[I", true)
def tyX0 : Nat → FieldType := fun k => match k with
  | 0 => .array .boolean
  | 1 => .array .int
  | 2 => .array .boolean
  | _ => .array .int
abbrev wsX00 : List Cond := u_ws RX0 TX0 4
theorem nmX0 : ∀ a, a < 4 → ∀ b, b < 4 → a ≠ b → (TX0 a).2.1 ≠ (TX0 b).2.1 := by decide +kernel
theorem tyX0_ok : ∀ k, k < 4 → parseFieldDescriptor (TX0 k).2.2.1 = some (tyX0 k) := by decide +kernel
abbrev cX0_init : ByteArray := prog_2_method_1_code
def yX0_init : MethodName := ⟨RX0, "<init>", "()V"⟩
abbrev cX0_take : ByteArray := prog_2_method_2_code
def yX0_take : MethodName := ⟨RX0, "take", "(III)V"⟩
abbrev cX0_isAnswered : ByteArray := prog_2_method_3_code
def yX0_isAnswered : MethodName := ⟨RX0, "isAnswered", "(I)Z"⟩
abbrev cX0_answerTo : ByteArray := prog_2_method_4_code
def yX0_answerTo : MethodName := ⟨RX0, "answerTo", "(I)I"⟩
def RX1 : String := "CountedHouse$Book"
def TX1 : u_T := fun k => match k with
  | 0 => ("CountedHouse$Book", "counters", "[LCountedHouse$Counter;", true)
  | 1 => ("CountedHouse$Book", "openings", "[I", true)
  | 2 => ("CountedHouse$Book", "rows", "[[I", true)
  | _ => ("CountedHouse$Book", "marks", "[Z", true)
def tyX1 : Nat → FieldType := fun k => match k with
  | 0 => .array (.object "CountedHouse$Counter")
  | 1 => .array .int
  | 2 => .array (.array .int)
  | _ => .array .boolean
abbrev wsX10 : List Cond := u_ws RX1 TX1 4
theorem nmX1 : ∀ a, a < 4 → ∀ b, b < 4 → a ≠ b → (TX1 a).2.1 ≠ (TX1 b).2.1 := by decide +kernel
theorem tyX1_ok : ∀ k, k < 4 → parseFieldDescriptor (TX1 k).2.2.1 = some (tyX1 k) := by decide +kernel
abbrev cX1_init : ByteArray := prog_3_method_1_code
def yX1_init : MethodName := ⟨RX1, "<init>", "()V"⟩
abbrev cX1_has : ByteArray := prog_3_method_2_code
def yX1_has : MethodName := ⟨RX1, "has", "(II)Z"⟩
abbrev cX1_countOf : ByteArray := prog_3_method_3_code
def yX1_countOf : MethodName := ⟨RX1, "countOf", "(I)I"⟩
abbrev cX1_tell : ByteArray := prog_3_method_4_code
def yX1_tell : MethodName := ⟨RX1, "tell", "(III)I"⟩
abbrev cX1_openingOf : ByteArray := prog_3_method_5_code
def yX1_openingOf : MethodName := ⟨RX1, "openingOf", "(I)I"⟩
abbrev cX1_rowOf : ByteArray := prog_3_method_6_code
def yX1_rowOf : MethodName := ⟨RX1, "rowOf", "(I)[I"⟩
abbrev cX1_hasPrepared : ByteArray := prog_3_method_7_code
def yX1_hasPrepared : MethodName := ⟨RX1, "hasPrepared", "(III)Z"⟩
abbrev cX1_enter : ByteArray := prog_3_method_8_code
def yX1_enter : MethodName := ⟨RX1, "enter", "(IIIII)I"⟩
abbrev cX1_isVoid : ByteArray := prog_3_method_9_code
def yX1_isVoid : MethodName := ⟨RX1, "isVoid", "(IIIII)Z"⟩
abbrev cX1_makeRow : ByteArray := prog_3_method_10_code
def yX1_makeRow : MethodName := ⟨RX1, "makeRow", "(III)V"⟩
def RX2 : String := "CountedHouse$Changes"
def TX2 : u_T := fun k => match k with
  | 0 => ("CountedHouse$Changes", "first", "[I", true)
  | _ => ("CountedHouse$Changes", "second", "[I", true)
def tyX2 : Nat → FieldType := fun k => match k with
  | 0 => .array .int
  | _ => .array .int
abbrev wsX20 : List Cond := u_ws RX2 TX2 2
theorem nmX2 : ∀ a, a < 2 → ∀ b, b < 2 → a ≠ b → (TX2 a).2.1 ≠ (TX2 b).2.1 := by decide +kernel
theorem tyX2_ok : ∀ k, k < 2 → parseFieldDescriptor (TX2 k).2.2.1 = some (tyX2 k) := by decide +kernel
abbrev cX2_init : ByteArray := prog_4_method_1_code
def yX2_init : MethodName := ⟨RX2, "<init>", "()V"⟩
abbrev cX2_note : ByteArray := prog_4_method_2_code
def yX2_note : MethodName := ⟨RX2, "note", "(II)V"⟩
abbrev cX2_areOfTwo : ByteArray := prog_4_method_3_code
def yX2_areOfTwo : MethodName := ⟨RX2, "areOfTwo", "(I)Z"⟩
def RX3 : String := "CountedHouse$Counter"
def TX3 : u_T := fun k => match k with
  | 0 => ("CountedHouse$Counter", "cells", "[I", true)
  | 1 => ("CountedHouse$Counter", "count", "I", false)
  | _ => ("CountedHouse$Counter", "greatestChange", "I", false)
def tyX3 : Nat → FieldType := fun k => match k with
  | 0 => .array .int
  | 1 => .int
  | _ => .int
abbrev wsX30 : List Cond := u_ws RX3 TX3 3
theorem nmX3 : ∀ a, a < 3 → ∀ b, b < 3 → a ≠ b → (TX3 a).2.1 ≠ (TX3 b).2.1 := by decide +kernel
theorem tyX3_ok : ∀ k, k < 3 → parseFieldDescriptor (TX3 k).2.2.1 = some (tyX3 k) := by decide +kernel
abbrev cX3_init : ByteArray := prog_5_method_1_code
def yX3_init : MethodName := ⟨RX3, "<init>", "()V"⟩
abbrev cX3_isFull : ByteArray := prog_5_method_2_code
def yX3_isFull : MethodName := ⟨RX3, "isFull", "()Z"⟩
abbrev cX3_has : ByteArray := prog_5_method_3_code
def yX3_has : MethodName := ⟨RX3, "has", "(I)Z"⟩
abbrev cX3_get : ByteArray := prog_5_method_4_code
def yX3_get : MethodName := ⟨RX3, "get", "(II)I"⟩
abbrev cX3_isOf : ByteArray := prog_5_method_5_code
def yX3_isOf : MethodName := ⟨RX3, "isOf", "(III)Z"⟩
abbrev cX3_add : ByteArray := prog_5_method_6_code
def yX3_add : MethodName := ⟨RX3, "add", "(IIIIZ)I"⟩
abbrev cX3_hasPrepared : ByteArray := prog_5_method_7_code
def yX3_hasPrepared : MethodName := ⟨RX3, "hasPrepared", "(II)Z"⟩
abbrev cX3_isBinding : ByteArray := prog_5_method_8_code
def yX3_isBinding : MethodName := ⟨RX3, "isBinding", "(I)Z"⟩
abbrev cX3_lastViewBelow : ByteArray := prog_5_method_9_code
def yX3_lastViewBelow : MethodName := ⟨RX3, "lastViewBelow", "(II)I"⟩
abbrev cX3_markTold : ByteArray := prog_5_method_10_code
def yX3_markTold : MethodName := ⟨RX3, "markTold", "(II[Z)V"⟩
abbrev cX3_rowBehind : ByteArray := prog_5_method_11_code
def yX3_rowBehind : MethodName := ⟨RX3, "rowBehind", "([II[Z)[I"⟩
def RX4 : String := "CountedHouse$Inbox"
def TX4 : u_T := fun k => match k with
  | 0 => ("CountedHouse$Inbox", "brought", "[Z", true)
  | _ => ("CountedHouse$Inbox", "next", "[I", true)
def tyX4 : Nat → FieldType := fun k => match k with
  | 0 => .array .boolean
  | _ => .array .int
abbrev wsX40 : List Cond := u_ws RX4 TX4 2
theorem nmX4 : ∀ a, a < 2 → ∀ b, b < 2 → a ≠ b → (TX4 a).2.1 ≠ (TX4 b).2.1 := by decide +kernel
theorem tyX4_ok : ∀ k, k < 2 → parseFieldDescriptor (TX4 k).2.2.1 = some (tyX4 k) := by decide +kernel
abbrev cX4_init : ByteArray := prog_6_method_1_code
def yX4_init : MethodName := ⟨RX4, "<init>", "()V"⟩
abbrev cX4_put : ByteArray := prog_6_method_2_code
def yX4_put : MethodName := ⟨RX4, "put", "(II)V"⟩
abbrev cX4_holdsNext : ByteArray := prog_6_method_3_code
def yX4_holdsNext : MethodName := ⟨RX4, "holdsNext", "(I)Z"⟩
abbrev cX4_nextOf : ByteArray := prog_6_method_4_code
def yX4_nextOf : MethodName := ⟨RX4, "nextOf", "(I)I"⟩
abbrev cX4_pass : ByteArray := prog_6_method_5_code
def yX4_pass : MethodName := ⟨RX4, "pass", "(I)V"⟩
def RX5 : String := "CountedHouse$Requests"
def TX5 : u_T := fun k => match k with
  | 0 => ("CountedHouse$Requests", "client", "[I", true)
  | 1 => ("CountedHouse$Requests", "ownNumber", "[I", true)
  | 2 => ("CountedHouse$Requests", "kind", "[I", true)
  | 3 => ("CountedHouse$Requests", "key", "[I", true)
  | 4 => ("CountedHouse$Requests", "operand", "[I", true)
  | 5 => ("CountedHouse$Requests", "madeBy", "[I", true)
  | _ => ("CountedHouse$Requests", "count", "I", false)
def tyX5 : Nat → FieldType := fun k => match k with
  | 0 => .array .int
  | 1 => .array .int
  | 2 => .array .int
  | 3 => .array .int
  | 4 => .array .int
  | 5 => .array .int
  | _ => .int
abbrev wsX50 : List Cond := u_ws RX5 TX5 7
theorem nmX5 : ∀ a, a < 7 → ∀ b, b < 7 → a ≠ b → (TX5 a).2.1 ≠ (TX5 b).2.1 := by decide +kernel
theorem tyX5_ok : ∀ k, k < 7 → parseFieldDescriptor (TX5 k).2.2.1 = some (tyX5 k) := by decide +kernel
abbrev cX5_init : ByteArray := prog_7_method_1_code
def yX5_init : MethodName := ⟨RX5, "<init>", "()V"⟩
abbrev cX5_isFull : ByteArray := prog_7_method_2_code
def yX5_isFull : MethodName := ⟨RX5, "isFull", "()Z"⟩
abbrev cX5_has : ByteArray := prog_7_method_3_code
def yX5_has : MethodName := ⟨RX5, "has", "(I)Z"⟩
abbrev cX5_add : ByteArray := prog_7_method_4_code
def yX5_add : MethodName := ⟨RX5, "add", "(IIII)I"⟩
abbrev cX5_clientOf : ByteArray := prog_7_method_5_code
def yX5_clientOf : MethodName := ⟨RX5, "clientOf", "(I)I"⟩
abbrev cX5_ownNumberOf : ByteArray := prog_7_method_6_code
def yX5_ownNumberOf : MethodName := ⟨RX5, "ownNumberOf", "(I)I"⟩
abbrev cX5_keyOf : ByteArray := prog_7_method_7_code
def yX5_keyOf : MethodName := ⟨RX5, "keyOf", "(I)I"⟩
abbrev cX5_valueAfter : ByteArray := prog_7_method_8_code
def yX5_valueAfter : MethodName := ⟨RX5, "valueAfter", "(II)I"⟩
abbrev cX5_resultOf : ByteArray := prog_7_method_9_code
def yX5_resultOf : MethodName := ⟨RX5, "resultOf", "(II)I"⟩
def RX6 : String := "CountedHouse$Server"
def TX6 : u_T := fun k => match k with
  | 0 => ("CountedHouse$Server", "id", "I", true)
  | 1 => ("CountedHouse$Server", "book", "LCountedHouse$Book;", true)
  | 2 => ("CountedHouse$Server", "store", "LCountedHouse$Store;", true)
  | 3 => ("CountedHouse$Server", "inbox", "LCountedHouse$Inbox;", true)
  | 4 => ("CountedHouse$Server", "term", "LCountedHouse$Term;", true)
  | 5 => ("CountedHouse$Server", "changes", "LCountedHouse$Changes;", true)
  | 6 => ("CountedHouse$Server", "asked", "[I", true)
  | 7 => ("CountedHouse$Server", "view", "I", false)
  | 8 => ("CountedHouse$Server", "active", "Z", false)
  | _ => ("CountedHouse$Server", "lied", "Z", false)
def tyX6 : Nat → FieldType := fun k => match k with
  | 0 => .int
  | 1 => .object "CountedHouse$Book"
  | 2 => .object "CountedHouse$Store"
  | 3 => .object "CountedHouse$Inbox"
  | 4 => .object "CountedHouse$Term"
  | 5 => .object "CountedHouse$Changes"
  | 6 => .array .int
  | 7 => .int
  | 8 => .boolean
  | _ => .boolean
abbrev wsX60 : List Cond := u_ws RX6 TX6 10
theorem nmX6 : ∀ a, a < 10 → ∀ b, b < 10 → a ≠ b → (TX6 a).2.1 ≠ (TX6 b).2.1 := by decide +kernel
theorem tyX6_ok : ∀ k, k < 10 → parseFieldDescriptor (TX6 k).2.2.1 = some (tyX6 k) := by decide +kernel
abbrev cX6_init : ByteArray := prog_8_method_1_code
def yX6_init : MethodName := ⟨RX6, "<init>", "(ILCountedHouse$Requests;LCountedHouse$Book;)V"⟩
abbrev cX6_viewNow : ByteArray := prog_8_method_2_code
def yX6_viewNow : MethodName := ⟨RX6, "viewNow", "()I"⟩
abbrev cX6_isActive : ByteArray := prog_8_method_3_code
def yX6_isActive : MethodName := ⟨RX6, "isActive", "()Z"⟩
abbrev cX6_hasLied : ByteArray := prog_8_method_4_code
def yX6_hasLied : MethodName := ⟨RX6, "hasLied", "()Z"⟩
abbrev cX6_storeOf : ByteArray := prog_8_method_5_code
def yX6_storeOf : MethodName := ⟨RX6, "storeOf", "()LCountedHouse$Store;"⟩
abbrev cX6_greatestAsked : ByteArray := prog_8_method_6_code
def yX6_greatestAsked : MethodName := ⟨RX6, "greatestAsked", "()I"⟩
abbrev cX6_readsNext : ByteArray := prog_8_method_7_code
def yX6_readsNext : MethodName := ⟨RX6, "readsNext", "(I)I"⟩
abbrev cX6_startLying : ByteArray := prog_8_method_8_code
def yX6_startLying : MethodName := ⟨RX6, "startLying", "()V"⟩
abbrev cX6_claimAsking : ByteArray := prog_8_method_9_code
def yX6_claimAsking : MethodName := ⟨RX6, "claimAsking", "(I)V"⟩
abbrev cX6_hearAsking : ByteArray := prog_8_method_10_code
def yX6_hearAsking : MethodName := ⟨RX6, "hearAsking", "(II)V"⟩
abbrev cX6_followsAskings : ByteArray := prog_8_method_11_code
def yX6_followsAskings : MethodName := ⟨RX6, "followsAskings", "()Z"⟩
abbrev cX6_prepares : ByteArray := prog_8_method_12_code
def yX6_prepares : MethodName := ⟨RX6, "prepares", "(I)Z"⟩
abbrev cX6_receive : ByteArray := prog_8_method_13_code
def yX6_receive : MethodName := ⟨RX6, "receive", "(II)V"⟩
abbrev cX6_readAll : ByteArray := prog_8_method_14_code
def yX6_readAll : MethodName := ⟨RX6, "readAll", "()I"⟩
abbrev cX6_nextSender : ByteArray := prog_8_method_15_code
def yX6_nextSender : MethodName := ⟨RX6, "nextSender", "()I"⟩
abbrev cX6_waits : ByteArray := prog_8_method_16_code
def yX6_waits : MethodName := ⟨RX6, "waits", "(II)Z"⟩
abbrev cX6_take : ByteArray := prog_8_method_17_code
def yX6_take : MethodName := ⟨RX6, "take", "(II)V"⟩
abbrev cX6_enterView : ByteArray := prog_8_method_18_code
def yX6_enterView : MethodName := ⟨RX6, "enterView", "(IZ)V"⟩
abbrev cX6_doWhatIsDue : ByteArray := prog_8_method_19_code
def yX6_doWhatIsDue : MethodName := ⟨RX6, "doWhatIsDue", "()V"⟩
def RX7 : String := "CountedHouse$Store"
def TX7 : u_T := fun k => match k with
  | 0 => ("CountedHouse$Store", "requests", "LCountedHouse$Requests;", true)
  | 1 => ("CountedHouse$Store", "values", "[I", true)
  | 2 => ("CountedHouse$Store", "lastDone", "[I", true)
  | 3 => ("CountedHouse$Store", "done", "[I", true)
  | 4 => ("CountedHouse$Store", "replied", "[Z", true)
  | 5 => ("CountedHouse$Store", "replies", "[I", true)
  | _ => ("CountedHouse$Store", "doneCount", "I", false)
def tyX7 : Nat → FieldType := fun k => match k with
  | 0 => .object "CountedHouse$Requests"
  | 1 => .array .int
  | 2 => .array .int
  | 3 => .array .int
  | 4 => .array .boolean
  | 5 => .array .int
  | _ => .int
abbrev wsX70 : List Cond := u_ws RX7 TX7 7
theorem nmX7 : ∀ a, a < 7 → ∀ b, b < 7 → a ≠ b → (TX7 a).2.1 ≠ (TX7 b).2.1 := by decide +kernel
theorem tyX7_ok : ∀ k, k < 7 → parseFieldDescriptor (TX7 k).2.2.1 = some (tyX7 k) := by decide +kernel
abbrev cX7_init : ByteArray := prog_9_method_1_code
def yX7_init : MethodName := ⟨RX7, "<init>", "(LCountedHouse$Requests;)V"⟩
abbrev cX7_length : ByteArray := prog_9_method_2_code
def yX7_length : MethodName := ⟨RX7, "length", "()I"⟩
abbrev cX7_doneAt : ByteArray := prog_9_method_3_code
def yX7_doneAt : MethodName := ⟨RX7, "doneAt", "(I)I"⟩
abbrev cX7_valueAt : ByteArray := prog_9_method_4_code
def yX7_valueAt : MethodName := ⟨RX7, "valueAt", "(I)I"⟩
abbrev cX7_hasReply : ByteArray := prog_9_method_5_code
def yX7_hasReply : MethodName := ⟨RX7, "hasReply", "(I)Z"⟩
abbrev cX7_replyTo : ByteArray := prog_9_method_6_code
def yX7_replyTo : MethodName := ⟨RX7, "replyTo", "(I)I"⟩
abbrev cX7_setReply : ByteArray := prog_9_method_7_code
def yX7_setReply : MethodName := ⟨RX7, "setReply", "(II)V"⟩
abbrev cX7_perform : ByteArray := prog_9_method_8_code
def yX7_perform : MethodName := ⟨RX7, "perform", "(I)V"⟩
def RX8 : String := "CountedHouse$Term"
def TX8 : u_T := fun k => match k with
  | 0 => ("CountedHouse$Term", "prepares", "[I", true)
  | 1 => ("CountedHouse$Term", "voted", "[Z", true)
  | 2 => ("CountedHouse$Term", "count", "I", false)
  | 3 => ("CountedHouse$Term", "doneCount", "I", false)
  | _ => ("CountedHouse$Term", "openingDone", "Z", false)
def tyX8 : Nat → FieldType := fun k => match k with
  | 0 => .array .int
  | 1 => .array .boolean
  | 2 => .int
  | 3 => .int
  | _ => .boolean
abbrev wsX80 : List Cond := u_ws RX8 TX8 5
theorem nmX8 : ∀ a, a < 5 → ∀ b, b < 5 → a ≠ b → (TX8 a).2.1 ≠ (TX8 b).2.1 := by decide +kernel
theorem tyX8_ok : ∀ k, k < 5 → parseFieldDescriptor (TX8 k).2.2.1 = some (tyX8 k) := by decide +kernel
abbrev cX8_init : ByteArray := prog_10_method_1_code
def yX8_init : MethodName := ⟨RX8, "<init>", "()V"⟩
abbrev cX8_begin : ByteArray := prog_10_method_2_code
def yX8_begin : MethodName := ⟨RX8, "begin", "()V"⟩
abbrev cX8_put : ByteArray := prog_10_method_3_code
def yX8_put : MethodName := ⟨RX8, "put", "(I)V"⟩
abbrev cX8_vote : ByteArray := prog_10_method_4_code
def yX8_vote : MethodName := ⟨RX8, "vote", "(I)V"⟩
abbrev cX8_hasVote : ByteArray := prog_10_method_5_code
def yX8_hasVote : MethodName := ⟨RX8, "hasVote", "(I)Z"⟩
abbrev cX8_nextToDo : ByteArray := prog_10_method_6_code
def yX8_nextToDo : MethodName := ⟨RX8, "nextToDo", "()I"⟩
def RX9 : String := "CountedHouse"
def TX9 : u_T := fun k => match k with
  | 0 => ("CountedHouse", "requests", "LCountedHouse$Requests;", true)
  | 1 => ("CountedHouse", "book", "LCountedHouse$Book;", true)
  | 2 => ("CountedHouse", "answers", "LCountedHouse$Answers;", true)
  | _ => ("CountedHouse", "servers", "[LCountedHouse$Server;", true)
def tyX9 : Nat → FieldType := fun k => match k with
  | 0 => .object "CountedHouse$Requests"
  | 1 => .object "CountedHouse$Book"
  | 2 => .object "CountedHouse$Answers"
  | _ => .array (.object "CountedHouse$Server")
abbrev wsX90 : List Cond := u_ws RX9 TX9 4
theorem nmX9 : ∀ a, a < 4 → ∀ b, b < 4 → a ≠ b → (TX9 a).2.1 ≠ (TX9 b).2.1 := by decide +kernel
theorem tyX9_ok : ∀ k, k < 4 → parseFieldDescriptor (TX9 k).2.2.1 = some (tyX9 k) := by decide +kernel
abbrev cX9_init : ByteArray := prog_1_method_1_code
def yX9_init : MethodName := ⟨RX9, "<init>", "()V"⟩
abbrev cX9_request : ByteArray := prog_1_method_2_code
def yX9_request : MethodName := ⟨RX9, "request", "(IIII)I"⟩
abbrev cX9_bring : ByteArray := prog_1_method_3_code
def yX9_bring : MethodName := ⟨RX9, "bring", "(II)I"⟩
abbrev cX9_send : ByteArray := prog_1_method_4_code
def yX9_send : MethodName := ⟨RX9, "send", "(III)I"⟩
abbrev cX9_late : ByteArray := prog_1_method_5_code
def yX9_late : MethodName := ⟨RX9, "late", "(I)I"⟩
abbrev cX9_ask : ByteArray := prog_1_method_6_code
def yX9_ask : MethodName := ⟨RX9, "ask", "(II)I"⟩
abbrev cX9_reply : ByteArray := prog_1_method_7_code
def yX9_reply : MethodName := ⟨RX9, "reply", "(II)I"⟩
abbrev cX9_lie : ByteArray := prog_1_method_8_code
def yX9_lie : MethodName := ⟨RX9, "lie", "(I)Z"⟩
abbrev cX9_certify : ByteArray := prog_1_method_9_code
def yX9_certify : MethodName := ⟨RX9, "certify", "(IIIII)I"⟩
abbrev cX9_askFor : ByteArray := prog_1_method_10_code
def yX9_askFor : MethodName := ⟨RX9, "askFor", "(II)V"⟩
abbrev cX9_replyWith : ByteArray := prog_1_method_11_code
def yX9_replyWith : MethodName := ⟨RX9, "replyWith", "(III)V"⟩
abbrev cX9_state : ByteArray := prog_1_method_12_code
def yX9_state : MethodName := ⟨RX9, "state", "(II)I"⟩
abbrev cX9_history : ByteArray := prog_1_method_13_code
def yX9_history : MethodName := ⟨RX9, "history", "(II)I"⟩
abbrev cX9_message : ByteArray := prog_1_method_14_code
def yX9_message : MethodName := ⟨RX9, "message", "(III)I"⟩
abbrev cX9_row : ByteArray := prog_1_method_15_code
def yX9_row : MethodName := ⟨RX9, "row", "(II)I"⟩
abbrev cX9_told : ByteArray := prog_1_method_16_code
def yX9_told : MethodName := ⟨RX9, "told", "(II)I"⟩
abbrev cX9_result : ByteArray := prog_1_method_17_code
def yX9_result : MethodName := ⟨RX9, "result", "(II)I"⟩
abbrev cX9_checkServer : ByteArray := prog_1_method_18_code
def yX9_checkServer : MethodName := ⟨RX9, "checkServer", "(I)V"⟩
abbrev cX9_checkRequest : ByteArray := prog_1_method_19_code
def yX9_checkRequest : MethodName := ⟨RX9, "checkRequest", "(I)V"⟩
abbrev cX9_checkMessage : ByteArray := prog_1_method_20_code
def yX9_checkMessage : MethodName := ⟨RX9, "checkMessage", "(II)V"⟩
abbrev cX9_checkNotSame : ByteArray := prog_1_method_21_code
def yX9_checkNotSame : MethodName := ⟨RX9, "checkNotSame", "(II)V"⟩
abbrev cX9_checkView : ByteArray := prog_1_method_22_code
def yX9_checkView : MethodName := ⟨RX9, "checkView", "(I)V"⟩
abbrev cX9_checkLiar : ByteArray := prog_1_method_23_code
def yX9_checkLiar : MethodName := ⟨RX9, "checkLiar", "(I)V"⟩
abbrev cX9_canStandIn : ByteArray := prog_1_method_24_code
def yX9_canStandIn : MethodName := ⟨RX9, "canStandIn", "(II)Z"⟩
abbrev cX9_leaderOf : ByteArray := prog_1_method_25_code
def yX9_leaderOf : MethodName := ⟨RX9, "leaderOf", "(I)I"⟩
abbrev cX9_pairOf : ByteArray := prog_1_method_26_code
def yX9_pairOf : MethodName := ⟨RX9, "pairOf", "(II)I"⟩
abbrev cX9_serverOf : ByteArray := prog_1_method_27_code
def yX9_serverOf : MethodName := ⟨RX9, "serverOf", "(I)I"⟩
abbrev cX9_numberOf : ByteArray := prog_1_method_28_code
def yX9_numberOf : MethodName := ⟨RX9, "numberOf", "(I)I"⟩
def RX10 : String := "CountedHouseModel"
def TX10 : u_T := fun k => match k with
  | 0 => ("CountedHouseModel", "thrown", "I", false)
  | 1 => ("CountedHouseModel", "rClient", "[I", true)
  | 2 => ("CountedHouseModel", "rOwn", "[I", true)
  | 3 => ("CountedHouseModel", "rKind", "[I", true)
  | 4 => ("CountedHouseModel", "rKey", "[I", true)
  | 5 => ("CountedHouseModel", "rNumber", "[I", true)
  | 6 => ("CountedHouseModel", "answered", "[Z", true)
  | 7 => ("CountedHouseModel", "answer", "[I", true)
  | 8 => ("CountedHouseModel", "requests", "I", false)
  | 9 => ("CountedHouseModel", "kinds", "[I", true)
  | 10 => ("CountedHouseModel", "views", "[I", true)
  | 11 => ("CountedHouseModel", "as", "[I", true)
  | 12 => ("CountedHouseModel", "bs", "[I", true)
  | 13 => ("CountedHouseModel", "moment", "[I", true)
  | 14 => ("CountedHouseModel", "many", "[I", true)
  | 15 => ("CountedHouseModel", "moments", "I", false)
  | 16 => ("CountedHouseModel", "row", "[I", true)
  | 17 => ("CountedHouseModel", "rowMany", "I", false)
  | 18 => ("CountedHouseModel", "down", "[I", true)
  | 19 => ("CountedHouseModel", "view", "[I", true)
  | 20 => ("CountedHouseModel", "active", "[Z", true)
  | 21 => ("CountedHouseModel", "lied", "[Z", true)
  | 22 => ("CountedHouseModel", "map", "[I", true)
  | 23 => ("CountedHouseModel", "history", "[I", true)
  | 24 => ("CountedHouseModel", "done", "[I", true)
  | 25 => ("CountedHouseModel", "last", "[I", true)
  | 26 => ("CountedHouseModel", "hasReply", "[Z", true)
  | 27 => ("CountedHouseModel", "replies", "[I", true)
  | 28 => ("CountedHouseModel", "got", "[Z", true)
  | 29 => ("CountedHouseModel", "gave", "[I", true)
  | 30 => ("CountedHouseModel", "brought", "[Z", true)
  | 31 => ("CountedHouseModel", "next", "[I", true)
  | 32 => ("CountedHouseModel", "asked", "[I", true)
  | 33 => ("CountedHouseModel", "prepares", "[I", true)
  | 34 => ("CountedHouseModel", "prepared", "[I", true)
  | 35 => ("CountedHouseModel", "prepareDone", "[I", true)
  | 36 => ("CountedHouseModel", "openDone", "[Z", true)
  | 37 => ("CountedHouseModel", "votes", "[Z", true)
  | 38 => ("CountedHouseModel", "changeRead", "[I", true)
  | 39 => ("CountedHouseModel", "changeNumber", "[I", true)
  | _ => ("CountedHouseModel", "reads", "I", false)
def tyX10 : Nat → FieldType := fun k => match k with
  | 0 => .int
  | 1 => .array .int
  | 2 => .array .int
  | 3 => .array .int
  | 4 => .array .int
  | 5 => .array .int
  | 6 => .array .boolean
  | 7 => .array .int
  | 8 => .int
  | 9 => .array .int
  | 10 => .array .int
  | 11 => .array .int
  | 12 => .array .int
  | 13 => .array .int
  | 14 => .array .int
  | 15 => .int
  | 16 => .array .int
  | 17 => .int
  | 18 => .array .int
  | 19 => .array .int
  | 20 => .array .boolean
  | 21 => .array .boolean
  | 22 => .array .int
  | 23 => .array .int
  | 24 => .array .int
  | 25 => .array .int
  | 26 => .array .boolean
  | 27 => .array .int
  | 28 => .array .boolean
  | 29 => .array .int
  | 30 => .array .boolean
  | 31 => .array .int
  | 32 => .array .int
  | 33 => .array .int
  | 34 => .array .int
  | 35 => .array .int
  | 36 => .array .boolean
  | 37 => .array .boolean
  | 38 => .array .int
  | 39 => .array .int
  | _ => .int
abbrev wsX100 : List Cond := u_ws RX10 TX10 41
theorem nmX10 : ∀ a, a < 41 → ∀ b, b < 41 → a ≠ b → (TX10 a).2.1 ≠ (TX10 b).2.1 := by decide +kernel
theorem tyX10_ok : ∀ k, k < 41 → parseFieldDescriptor (TX10 k).2.2.1 = some (tyX10 k) := by decide +kernel
abbrev cX10_init : ByteArray := prog_12_method_1_code
def yX10_init : MethodName := ⟨RX10, "<init>", "()V"⟩
abbrev cX10_thrown : ByteArray := prog_12_method_2_code
def yX10_thrown : MethodName := ⟨RX10, "thrown", "()I"⟩
abbrev cX10_request : ByteArray := prog_12_method_3_code
def yX10_request : MethodName := ⟨RX10, "request", "(IIII)I"⟩
abbrev cX10_at : ByteArray := prog_12_method_4_code
def yX10_at : MethodName := ⟨RX10, "at", "(II)I"⟩
abbrev cX10_isThere : ByteArray := prog_12_method_5_code
def yX10_isThere : MethodName := ⟨RX10, "isThere", "(II)Z"⟩
abbrev cX10_hasLeft : ByteArray := prog_12_method_6_code
def yX10_hasLeft : MethodName := ⟨RX10, "hasLeft", "(III)Z"⟩
abbrev cX10_isChange : ByteArray := prog_12_method_7_code
def yX10_isChange : MethodName := ⟨RX10, "isChange", "(III)Z"⟩
abbrev cX10_isVoidNew : ByteArray := prog_12_method_8_code
def yX10_isVoidNew : MethodName := ⟨RX10, "isVoidNew", "(II)Z"⟩
abbrev cX10_opening : ByteArray := prog_12_method_9_code
def yX10_opening : MethodName := ⟨RX10, "opening", "(I)I"⟩
abbrev cX10_isVoidPrepare : ByteArray := prog_12_method_10_code
def yX10_isVoidPrepare : MethodName := ⟨RX10, "isVoidPrepare", "(II)Z"⟩
abbrev cX10_isVoidCommit : ByteArray := prog_12_method_11_code
def yX10_isVoidCommit : MethodName := ⟨RX10, "isVoidCommit", "(II)Z"⟩
abbrev cX10_isVoid : ByteArray := prog_12_method_12_code
def yX10_isVoid : MethodName := ⟨RX10, "isVoid", "(II)Z"⟩
abbrev cX10_hasOf : ByteArray := prog_12_method_13_code
def yX10_hasOf : MethodName := ⟨RX10, "hasOf", "(III)Z"⟩
abbrev cX10_tells : ByteArray := prog_12_method_14_code
def yX10_tells : MethodName := ⟨RX10, "tells", "(IIII)Z"⟩
abbrev cX10_before : ByteArray := prog_12_method_15_code
def yX10_before : MethodName := ⟨RX10, "before", "(I)I"⟩
abbrev cX10_adds : ByteArray := prog_12_method_16_code
def yX10_adds : MethodName := ⟨RX10, "adds", "(II)V"⟩
abbrev cX10_rows : ByteArray := prog_12_method_17_code
def yX10_rows : MethodName := ⟨RX10, "rows", "(I)V"⟩
abbrev cX10_turnsTo : ByteArray := prog_12_method_18_code
def yX10_turnsTo : MethodName := ⟨RX10, "turnsTo", "(IIZ)V"⟩
abbrev cX10_certifies : ByteArray := prog_12_method_19_code
def yX10_certifies : MethodName := ⟨RX10, "certifies", "(IIIII)I"⟩
abbrev cX10_read : ByteArray := prog_12_method_20_code
def yX10_read : MethodName := ⟨RX10, "read", "(III)V"⟩
abbrev cX10_readPrepare : ByteArray := prog_12_method_21_code
def yX10_readPrepare : MethodName := ⟨RX10, "readPrepare", "(II)V"⟩
abbrev cX10_readNew : ByteArray := prog_12_method_22_code
def yX10_readNew : MethodName := ⟨RX10, "readNew", "(III)V"⟩
abbrev cX10_readChange : ByteArray := prog_12_method_23_code
def yX10_readChange : MethodName := ⟨RX10, "readChange", "(IIII)V"⟩
abbrev cX10_does : ByteArray := prog_12_method_24_code
def yX10_does : MethodName := ⟨RX10, "does", "(I)V"⟩
abbrev cX10_doOne : ByteArray := prog_12_method_25_code
def yX10_doOne : MethodName := ⟨RX10, "doOne", "(II)V"⟩
abbrev cX10_readsOn : ByteArray := prog_12_method_26_code
def yX10_readsOn : MethodName := ⟨RX10, "readsOn", "(I)I"⟩
abbrev cX10_waits : ByteArray := prog_12_method_27_code
def yX10_waits : MethodName := ⟨RX10, "waits", "(III)Z"⟩
abbrev cX10_isServer : ByteArray := prog_12_method_28_code
def yX10_isServer : MethodName := ⟨RX10, "isServer", "(I)Z"⟩
abbrev cX10_isRequest : ByteArray := prog_12_method_29_code
def yX10_isRequest : MethodName := ⟨RX10, "isRequest", "(I)Z"⟩
abbrev cX10_bad : ByteArray := prog_12_method_30_code
def yX10_bad : MethodName := ⟨RX10, "bad", "(ZI)Z"⟩
abbrev cX10_bring : ByteArray := prog_12_method_31_code
def yX10_bring : MethodName := ⟨RX10, "bring", "(II)I"⟩
abbrev cX10_send : ByteArray := prog_12_method_32_code
def yX10_send : MethodName := ⟨RX10, "send", "(III)I"⟩
abbrev cX10_turns : ByteArray := prog_12_method_33_code
def yX10_turns : MethodName := ⟨RX10, "turns", "(I)Z"⟩
abbrev cX10_late : ByteArray := prog_12_method_34_code
def yX10_late : MethodName := ⟨RX10, "late", "(I)I"⟩
abbrev cX10_ask : ByteArray := prog_12_method_35_code
def yX10_ask : MethodName := ⟨RX10, "ask", "(II)I"⟩
abbrev cX10_reply : ByteArray := prog_12_method_36_code
def yX10_reply : MethodName := ⟨RX10, "reply", "(II)I"⟩
abbrev cX10_lie : ByteArray := prog_12_method_37_code
def yX10_lie : MethodName := ⟨RX10, "lie", "(I)Z"⟩
abbrev cX10_certify : ByteArray := prog_12_method_38_code
def yX10_certify : MethodName := ⟨RX10, "certify", "(IIIII)I"⟩
abbrev cX10_askFor : ByteArray := prog_12_method_39_code
def yX10_askFor : MethodName := ⟨RX10, "askFor", "(II)V"⟩
abbrev cX10_replyWith : ByteArray := prog_12_method_40_code
def yX10_replyWith : MethodName := ⟨RX10, "replyWith", "(III)V"⟩
abbrev cX10_state : ByteArray := prog_12_method_41_code
def yX10_state : MethodName := ⟨RX10, "state", "(II)I"⟩
abbrev cX10_history : ByteArray := prog_12_method_42_code
def yX10_history : MethodName := ⟨RX10, "history", "(II)I"⟩
abbrev cX10_message : ByteArray := prog_12_method_43_code
def yX10_message : MethodName := ⟨RX10, "message", "(III)I"⟩
abbrev cX10_row : ByteArray := prog_12_method_44_code
def yX10_row : MethodName := ⟨RX10, "row", "(II)I"⟩
abbrev cX10_told : ByteArray := prog_12_method_45_code
def yX10_told : MethodName := ⟨RX10, "told", "(II)I"⟩
abbrev cX10_result : ByteArray := prog_12_method_46_code
def yX10_result : MethodName := ⟨RX10, "result", "(II)I"⟩
def RL : String := "CountedHouseLaw"
abbrev cL_request : ByteArray := method_3_code
def yL_request : MethodName := ⟨RL, "request", "(LCountedHouse;IIII[J)I"⟩
abbrev cL_bring : ByteArray := method_4_code
def yL_bring : MethodName := ⟨RL, "bring", "(LCountedHouse;II[J)I"⟩
abbrev cL_send : ByteArray := method_5_code
def yL_send : MethodName := ⟨RL, "send", "(LCountedHouse;III[J)I"⟩
abbrev cL_late : ByteArray := method_6_code
def yL_late : MethodName := ⟨RL, "late", "(LCountedHouse;I[J)I"⟩
abbrev cL_ask : ByteArray := method_7_code
def yL_ask : MethodName := ⟨RL, "ask", "(LCountedHouse;II[J)I"⟩
abbrev cL_reply : ByteArray := method_8_code
def yL_reply : MethodName := ⟨RL, "reply", "(LCountedHouse;II[J)I"⟩
abbrev cL_lie : ByteArray := method_9_code
def yL_lie : MethodName := ⟨RL, "lie", "(LCountedHouse;I[J)I"⟩
abbrev cL_certify : ByteArray := method_10_code
def yL_certify : MethodName := ⟨RL, "certify", "(LCountedHouse;IIIII[J)I"⟩
abbrev cL_askFor : ByteArray := method_11_code
def yL_askFor : MethodName := ⟨RL, "askFor", "(LCountedHouse;II)I"⟩
abbrev cL_replyWith : ByteArray := method_12_code
def yL_replyWith : MethodName := ⟨RL, "replyWith", "(LCountedHouse;III)I"⟩
abbrev cL_state : ByteArray := method_13_code
def yL_state : MethodName := ⟨RL, "state", "(LCountedHouse;II[J)I"⟩
abbrev cL_history : ByteArray := method_14_code
def yL_history : MethodName := ⟨RL, "history", "(LCountedHouse;II[J)I"⟩
abbrev cL_message : ByteArray := method_15_code
def yL_message : MethodName := ⟨RL, "message", "(LCountedHouse;III[J)I"⟩
abbrev cL_row : ByteArray := method_16_code
def yL_row : MethodName := ⟨RL, "row", "(LCountedHouse;II[J)I"⟩
abbrev cL_told : ByteArray := method_17_code
def yL_told : MethodName := ⟨RL, "told", "(LCountedHouse;II[J)I"⟩
abbrev cL_result : ByteArray := method_18_code
def yL_result : MethodName := ⟨RL, "result", "(LCountedHouse;II[J)I"⟩
abbrev cL_law : ByteArray := code
def yL_law : MethodName := ⟨RL, "law", "([I)Z"⟩
abbrev vwCl : List vw_C := [(RX0, TX0, 4), (RX1, TX1, 4), (RX2, TX2, 2), (RX3, TX3, 3), (RX4, TX4, 2), (RX5, TX5, 7), (RX6, TX6, 10), (RX7, TX7, 7), (RX8, TX8, 5), (RX9, TX9, 4), (RX10, TX10, 41)]
end
section
def xi_0 : List (Nat × Instr × Nat) := [(0, .aload_n 0, 1), (1, .invokespecial 3, 3), (4, .aload_n 0, 1), (5, .sipush 180, 3), (8, .newarray .boolean, 2), (10, .putfield 9, 3), (13, .aload_n 0, 1), (14, .sipush 180, 3), (17, .newarray .int, 2), (19, .putfield 15, 3), (22, .aload_n 0, 1), (23, .bipush 60, 2), (25, .newarray .boolean, 2), (27, .putfield 19, 3), (30, .aload_n 0, 1), (31, .bipush 60, 2), (33, .newarray .int, 2), (35, .putfield 22, 3), (38, .return_, 1)]
def xi_1 : List (Nat × Instr × Nat) := [(0, .iload_n 1, 1), (1, .ifCond .lt 18, 3), (4, .iload_n 1, 1), (5, .bipush 60, 2), (7, .if_icmp .ge 12, 3), (10, .iload_n 2, 1), (11, .ifCond .lt 8, 3), (14, .iload_n 2, 1), (15, .iconst 3, 1), (16, .if_icmp .lt 4, 3), (19, .return_, 1), (20, .iload_n 1, 1), (21, .iconst 3, 1), (22, .imul, 1), (23, .istore 4, 2), (25, .aload_n 0, 1), (26, .getfield 9, 3), (29, .iload 4, 2), (31, .iload_n 2, 1), (32, .iadd, 1), (33, .iconst 1, 1), (34, .bastore, 1), (35, .aload_n 0, 1), (36, .getfield 15, 3), (39, .iload 4, 2), (41, .iload_n 2, 1), (42, .iadd, 1), (43, .iload_n 3, 1), (44, .iastore, 1), (45, .iconst 0, 1), (46, .istore 5, 2), (48, .iload 5, 2), (50, .iconst 3, 1), (51, .if_icmp .ge 65, 3), (54, .aload_n 0, 1), (55, .getfield 19, 3), (58, .iload_n 1, 1), (59, .baload, 1), (60, .ifCond .ne 56, 3), (63, .iload 5, 2), (65, .iload_n 2, 1), (66, .if_icmp .eq 44, 3), (69, .aload_n 0, 1), (70, .getfield 9, 3), (73, .iload 4, 2), (75, .iload 5, 2), (77, .iadd, 1), (78, .baload, 1), (79, .ifCond .eq 31, 3), (82, .aload_n 0, 1), (83, .getfield 15, 3), (86, .iload 4, 2), (88, .iload 5, 2), (90, .iadd, 1), (91, .iaload, 1), (92, .iload_n 3, 1), (93, .if_icmp .ne 17, 3), (96, .aload_n 0, 1), (97, .getfield 19, 3), (100, .iload_n 1, 1), (101, .iconst 1, 1), (102, .bastore, 1), (103, .aload_n 0, 1), (104, .getfield 22, 3), (107, .iload_n 1, 1), (108, .iload_n 3, 1), (109, .iastore, 1), (110, .iinc 5 1, 3), (113, .goto (-65), 3), (116, .return_, 1)]
def xi_2 : List (Nat × Instr × Nat) := [(0, .iload_n 1, 1), (1, .ifCond .lt 22, 3), (4, .iload_n 1, 1), (5, .bipush 60, 2), (7, .if_icmp .ge 16, 3), (10, .aload_n 0, 1), (11, .getfield 19, 3), (14, .iload_n 1, 1), (15, .baload, 1), (16, .ifCond .eq 7, 3), (19, .iconst 1, 1), (20, .goto 4, 3), (23, .iconst 0, 1), (24, .ireturn, 1)]
def xi_3 : List (Nat × Instr × Nat) := [(0, .aload_n 0, 1), (1, .iload_n 1, 1), (2, .invokevirtual 25, 3), (5, .ifCond .eq 12, 3), (8, .aload_n 0, 1), (9, .getfield 22, 3), (12, .iload_n 1, 1), (13, .iaload, 1), (14, .goto 4, 3), (17, .iconst 0, 1), (18, .ireturn, 1)]
def xi_4 : List (Nat × Instr × Nat) := [(0, .aload_n 0, 1), (1, .invokespecial 3, 3), (4, .aload_n 0, 1), (5, .iconst 3, 1), (6, .anewarray 9, 3), (9, .putfield 11, 3), (12, .aload_n 0, 1), (13, .bipush 31, 2), (15, .newarray .int, 2), (17, .putfield 17, 3), (20, .aload_n 0, 1), (21, .bipush 31, 2), (23, .iconst 0, 1), (24, .multianewarray 21 2, 4), (28, .putfield 23, 3), (31, .aload_n 0, 1), (32, .bipush 101, 2), (34, .newarray .boolean, 2), (36, .putfield 26, 3), (39, .iconst 0, 1), (40, .istore_n 1, 1), (41, .iload_n 1, 1), (42, .iconst 3, 1), (43, .if_icmp .ge 22, 3), (46, .aload_n 0, 1), (47, .getfield 11, 3), (50, .iload_n 1, 1), (51, .new 9, 3), (54, .dup, 1), (55, .invokespecial 30, 3), (58, .aastore, 1), (59, .iinc 1 1, 3), (62, .goto (-21), 3), (65, .return_, 1)]
def xi_5 : List (Nat × Instr × Nat) := [(0, .aload_n 0, 1), (1, .getfield 11, 3), (4, .iload_n 1, 1), (5, .aaload, 1), (6, .iload_n 2, 1), (7, .invokevirtual 31, 3), (10, .ireturn, 1)]
def xi_6 : List (Nat × Instr × Nat) := [(0, .aload_n 0, 1), (1, .getfield 11, 3), (4, .iload_n 1, 1), (5, .aaload, 1), (6, .getfield 35, 3), (9, .ireturn, 1)]
def xi_7 : List (Nat × Instr × Nat) := [(0, .aload_n 0, 1), (1, .getfield 11, 3), (4, .iload_n 1, 1), (5, .aaload, 1), (6, .iload_n 2, 1), (7, .iload_n 3, 1), (8, .invokevirtual 39, 3), (11, .ireturn, 1)]
def xi_8 : List (Nat × Instr × Nat) := [(0, .aload_n 0, 1), (1, .getfield 17, 3), (4, .iload_n 1, 1), (5, .iaload, 1), (6, .ireturn, 1)]
def xi_9 : List (Nat × Instr × Nat) := [(0, .aload_n 0, 1), (1, .getfield 23, 3), (4, .iload_n 1, 1), (5, .aaload, 1), (6, .areturn, 1)]
def xi_10 : List (Nat × Instr × Nat) := [(0, .aload_n 0, 1), (1, .getfield 11, 3), (4, .iload_n 1, 1), (5, .aaload, 1), (6, .iload_n 2, 1), (7, .iload_n 3, 1), (8, .invokevirtual 43, 3), (11, .ireturn, 1)]
def xi_11 : List (Nat × Instr × Nat) := [(0, .aload_n 0, 1), (1, .getfield 11, 3), (4, .iload_n 1, 1), (5, .aaload, 1), (6, .astore 6, 2), (8, .aload 6, 2), (10, .invokevirtual 47, 3), (13, .ifCond .eq 5, 3), (16, .iconst (-1), 1), (17, .ireturn, 1), (18, .aload_n 0, 1), (19, .iload_n 1, 1), (20, .iload_n 2, 1), (21, .iload_n 3, 1), (22, .iload 4, 2), (24, .iload 5, 2), (26, .invokevirtual 51, 3), (29, .istore 7, 2), (31, .aload 6, 2), (33, .iload_n 2, 1), (34, .iload_n 3, 1), (35, .iload 4, 2), (37, .iload 5, 2), (39, .iload 7, 2), (41, .invokevirtual 55, 3), (44, .istore 8, 2), (46, .iload_n 2, 1), (47, .iconst 3, 1), (48, .if_icmp .ne 34, 3), (51, .iload 7, 2), (53, .ifCond .ne 29, 3), (56, .aload_n 0, 1), (57, .getfield 17, 3), (60, .iload_n 3, 1), (61, .iaload, 1), (62, .ifCond .ne 20, 3), (65, .aload_n 0, 1), (66, .getfield 17, 3), (69, .iload_n 3, 1), (70, .iload 8, 2), (72, .iastore, 1), (73, .aload_n 0, 1), (74, .iload_n 3, 1), (75, .iload 4, 2), (77, .iload 5, 2), (79, .invokevirtual 59, 3), (82, .iload 8, 2), (84, .ireturn, 1)]
def xi_12 : List (Nat × Instr × Nat) := [(0, .iload_n 2, 1), (1, .iconst 2, 1), (2, .if_icmp .ne 5, 3), (5, .iconst 0, 1), (6, .ireturn, 1), (7, .aload_n 0, 1), (8, .getfield 11, 3), (11, .iload_n 1, 1), (12, .aaload, 1), (13, .getfield 63, 3), (16, .iload_n 3, 1), (17, .if_icmp .le 5, 3), (20, .iconst 1, 1), (21, .ireturn, 1), (22, .iload_n 3, 1), (23, .invokestatic 66, 3), (26, .istore 6, 2), (28, .iload_n 2, 1), (29, .ifCond .ne 28, 3), (32, .iload 6, 2), (34, .iload_n 1, 1), (35, .if_icmp .ne 16, 3), (38, .iload_n 3, 1), (39, .ifCond .le 16, 3), (42, .aload_n 0, 1), (43, .getfield 17, 3), (46, .iload_n 3, 1), (47, .iaload, 1), (48, .ifCond .ne 7, 3), (51, .iconst 1, 1), (52, .goto 4, 3), (55, .iconst 0, 1), (56, .ireturn, 1), (57, .iload_n 2, 1), (58, .iconst 1, 1), (59, .if_icmp .ne 87, 3), (62, .aload_n 0, 1), (63, .getfield 11, 3), (66, .iload 6, 2), (68, .aaload, 1), (69, .astore 7, 2), (71, .iload 4, 2), (73, .ifCond .le 18, 3), (76, .iload 4, 2), (78, .aload_n 0, 1), (79, .getfield 17, 3), (82, .iload_n 3, 1), (83, .iaload, 1), (84, .if_icmp .ne 7, 3), (87, .iconst 1, 1), (88, .goto 4, 3), (91, .iconst 0, 1), (92, .istore 8, 2), (94, .aload 7, 2), (96, .iload 4, 2), (98, .iconst 0, 1), (99, .iload_n 3, 1), (100, .invokevirtual 70, 3), (103, .ifCond .eq 18, 3), (106, .aload 7, 2), (108, .iload 4, 2), (110, .iconst 4, 1), (111, .invokevirtual 39, 3), (114, .ifCond .ne 7, 3), (117, .iconst 1, 1), (118, .goto 4, 3), (121, .iconst 0, 1), (122, .istore 9, 2), (124, .iload 6, 2), (126, .iload_n 1, 1), (127, .if_icmp .eq 13, 3), (130, .iload 8, 2), (132, .ifCond .ne 12, 3), (135, .iload 9, 2), (137, .ifCond .ne 7, 3), (140, .iconst 1, 1), (141, .goto 4, 3), (144, .iconst 0, 1), (145, .ireturn, 1), (146, .iload 6, 2), (148, .iload_n 1, 1), (149, .if_icmp .ne 66, 3), (152, .iload_n 3, 1), (153, .ifCond .eq 62, 3), (156, .iload 4, 2), (158, .invokestatic 74, 3), (161, .iload 5, 2), (163, .invokestatic 74, 3), (166, .if_icmp .eq 49, 3), (169, .aload_n 0, 1), (170, .getfield 11, 3), (173, .iload 4, 2), (175, .invokestatic 74, 3), (178, .aaload, 1), (179, .iload 4, 2), (181, .invokestatic 77, 3), (184, .iconst 2, 1), (185, .iload_n 3, 1), (186, .invokevirtual 70, 3), (189, .ifCond .eq 26, 3), (192, .aload_n 0, 1), (193, .getfield 11, 3), (196, .iload 5, 2), (198, .invokestatic 74, 3), (201, .aaload, 1), (202, .iload 5, 2), (204, .invokestatic 77, 3), (207, .iconst 2, 1), (208, .iload_n 3, 1), (209, .invokevirtual 70, 3), (212, .ifCond .ne 7, 3), (215, .iconst 1, 1), (216, .goto 4, 3), (219, .iconst 0, 1), (220, .ireturn, 1)]
def xi_13 : List (Nat × Instr × Nat) := [(0, .aload_n 0, 1), (1, .getfield 11, 3), (4, .iload_n 2, 1), (5, .invokestatic 74, 3), (8, .aaload, 1), (9, .astore 4, 2), (11, .aload_n 0, 1), (12, .getfield 11, 3), (15, .iload_n 3, 1), (16, .invokestatic 74, 3), (19, .aaload, 1), (20, .astore 5, 2), (22, .aload 4, 2), (24, .iload_n 1, 1), (25, .iload_n 2, 1), (26, .invokestatic 77, 3), (29, .invokevirtual 80, 3), (32, .aload 5, 2), (34, .iload_n 1, 1), (35, .iload_n 3, 1), (36, .invokestatic 77, 3), (39, .invokevirtual 80, 3), (42, .invokestatic 83, 3), (45, .istore 6, 2), (47, .iconst 0, 1), (48, .istore 7, 2), (50, .iload 7, 2), (52, .aload_n 0, 1), (53, .getfield 26, 3), (56, .arraylength, 1), (57, .if_icmp .ge 17, 3), (60, .aload_n 0, 1), (61, .getfield 26, 3), (64, .iload 7, 2), (66, .iconst 0, 1), (67, .bastore, 1), (68, .iinc 7 1, 3), (71, .goto (-21), 3), (74, .aload 4, 2), (76, .iload 6, 2), (78, .iload_n 2, 1), (79, .invokestatic 77, 3), (82, .aload_n 0, 1), (83, .getfield 26, 3), (86, .invokevirtual 88, 3), (89, .aload 5, 2), (91, .iload 6, 2), (93, .iload_n 3, 1), (94, .invokestatic 77, 3), (97, .aload_n 0, 1), (98, .getfield 26, 3), (101, .invokevirtual 88, 3), (104, .aload_n 0, 1), (105, .getfield 23, 3), (108, .iload_n 1, 1), (109, .aload_n 0, 1), (110, .getfield 11, 3), (113, .iload 6, 2), (115, .invokestatic 66, 3), (118, .aaload, 1), (119, .aload_n 0, 1), (120, .getfield 23, 3), (123, .iload 6, 2), (125, .aaload, 1), (126, .iload 6, 2), (128, .aload_n 0, 1), (129, .getfield 26, 3), (132, .invokevirtual 92, 3), (135, .aastore, 1), (136, .return_, 1)]
def xi_14 : List (Nat × Instr × Nat) := [(0, .aload_n 0, 1), (1, .invokespecial 3, 3), (4, .aload_n 0, 1), (5, .bipush 31, 2), (7, .newarray .int, 2), (9, .putfield 9, 3), (12, .aload_n 0, 1), (13, .bipush 31, 2), (15, .newarray .int, 2), (17, .putfield 15, 3), (20, .return_, 1)]
def xi_15 : List (Nat × Instr × Nat) := [(0, .aload_n 0, 1), (1, .getfield 9, 3), (4, .iload_n 1, 1), (5, .iaload, 1), (6, .ifCond .ne 13, 3), (9, .aload_n 0, 1), (10, .getfield 9, 3), (13, .iload_n 1, 1), (14, .iload_n 2, 1), (15, .iastore, 1), (16, .goto 35, 3), (19, .aload_n 0, 1), (20, .getfield 15, 3), (23, .iload_n 1, 1), (24, .iaload, 1), (25, .ifCond .ne 26, 3), (28, .aload_n 0, 1), (29, .getfield 9, 3), (32, .iload_n 1, 1), (33, .iaload, 1), (34, .invokestatic 18, 3), (37, .iload_n 2, 1), (38, .invokestatic 18, 3), (41, .if_icmp .eq 10, 3), (44, .aload_n 0, 1), (45, .getfield 15, 3), (48, .iload_n 1, 1), (49, .iload_n 2, 1), (50, .iastore, 1), (51, .return_, 1)]
def xi_16 : List (Nat × Instr × Nat) := [(0, .aload_n 0, 1), (1, .getfield 15, 3), (4, .iload_n 1, 1), (5, .iaload, 1), (6, .ifCond .eq 7, 3), (9, .iconst 1, 1), (10, .goto 4, 3), (13, .iconst 0, 1), (14, .ireturn, 1)]
def xi_17 : List (Nat × Instr × Nat) := [(0, .aload_n 0, 1), (1, .invokespecial 3, 3), (4, .aload_n 0, 1), (5, .sipush 505, 3), (8, .newarray .int, 2), (10, .putfield 9, 3), (13, .aload_n 0, 1), (14, .iconst (-1), 1), (15, .putfield 15, 3), (18, .return_, 1)]
def xi_18 : List (Nat × Instr × Nat) := [(0, .aload_n 0, 1), (1, .getfield 19, 3), (4, .bipush 100, 2), (6, .if_icmp .lt 7, 3), (9, .iconst 1, 1), (10, .goto 4, 3), (13, .iconst 0, 1), (14, .ireturn, 1)]
def xi_19 : List (Nat × Instr × Nat) := [(0, .iload_n 1, 1), (1, .iconst 1, 1), (2, .if_icmp .lt 15, 3), (5, .iload_n 1, 1), (6, .aload_n 0, 1), (7, .getfield 19, 3), (10, .if_icmp .gt 7, 3), (13, .iconst 1, 1), (14, .goto 4, 3), (17, .iconst 0, 1), (18, .ireturn, 1)]
def xi_20 : List (Nat × Instr × Nat) := [(0, .aload_n 0, 1), (1, .iload_n 1, 1), (2, .invokevirtual 22, 3), (5, .ifCond .eq 25, 3), (8, .iload_n 2, 1), (9, .ifCond .lt 21, 3), (12, .iload_n 2, 1), (13, .iconst 5, 1), (14, .if_icmp .ge 16, 3), (17, .aload_n 0, 1), (18, .getfield 9, 3), (21, .iload_n 1, 1), (22, .iconst 5, 1), (23, .imul, 1), (24, .iload_n 2, 1), (25, .iadd, 1), (26, .iaload, 1), (27, .goto 4, 3), (30, .iconst (-1), 1), (31, .ireturn, 1)]
def xi_21 : List (Nat × Instr × Nat) := [(0, .iload_n 1, 1), (1, .iconst 1, 1), (2, .if_icmp .lt 43, 3), (5, .iload_n 1, 1), (6, .aload_n 0, 1), (7, .getfield 19, 3), (10, .if_icmp .gt 35, 3), (13, .aload_n 0, 1), (14, .getfield 9, 3), (17, .iload_n 1, 1), (18, .iconst 5, 1), (19, .imul, 1), (20, .iconst 0, 1), (21, .iadd, 1), (22, .iaload, 1), (23, .iload_n 2, 1), (24, .if_icmp .ne 21, 3), (27, .aload_n 0, 1), (28, .getfield 9, 3), (31, .iload_n 1, 1), (32, .iconst 5, 1), (33, .imul, 1), (34, .iconst 1, 1), (35, .iadd, 1), (36, .iaload, 1), (37, .iload_n 3, 1), (38, .if_icmp .ne 7, 3), (41, .iconst 1, 1), (42, .goto 4, 3), (45, .iconst 0, 1), (46, .ireturn, 1)]
def xi_22 : List (Nat × Instr × Nat) := [(0, .aload_n 0, 1), (1, .invokevirtual 26, 3), (4, .ifCond .eq 5, 3), (7, .iconst (-1), 1), (8, .ireturn, 1), (9, .aload_n 0, 1), (10, .dup, 1), (11, .getfield 19, 3), (14, .iconst 1, 1), (15, .iadd, 1), (16, .putfield 19, 3), (19, .aload_n 0, 1), (20, .getfield 19, 3), (23, .iconst 5, 1), (24, .imul, 1), (25, .istore 6, 2), (27, .aload_n 0, 1), (28, .getfield 9, 3), (31, .iload 6, 2), (33, .iconst 0, 1), (34, .iadd, 1), (35, .iload_n 1, 1), (36, .iastore, 1), (37, .aload_n 0, 1), (38, .getfield 9, 3), (41, .iload 6, 2), (43, .iconst 1, 1), (44, .iadd, 1), (45, .iload_n 2, 1), (46, .iastore, 1), (47, .aload_n 0, 1), (48, .getfield 9, 3), (51, .iload 6, 2), (53, .iconst 2, 1), (54, .iadd, 1), (55, .iload_n 3, 1), (56, .iastore, 1), (57, .aload_n 0, 1), (58, .getfield 9, 3), (61, .iload 6, 2), (63, .iconst 3, 1), (64, .iadd, 1), (65, .iload 4, 2), (67, .iastore, 1), (68, .aload_n 0, 1), (69, .getfield 9, 3), (72, .iload 6, 2), (74, .iconst 4, 1), (75, .iadd, 1), (76, .iload 5, 2), (78, .ifCond .eq 7, 3), (81, .iconst 1, 1), (82, .goto 4, 3), (85, .iconst 0, 1), (86, .iastore, 1), (87, .iload_n 1, 1), (88, .iconst 2, 1), (89, .if_icmp .ne 15, 3), (92, .aload_n 0, 1), (93, .aload_n 0, 1), (94, .getfield 15, 3), (97, .iload_n 2, 1), (98, .invokestatic 30, 3), (101, .putfield 15, 3), (104, .aload_n 0, 1), (105, .getfield 19, 3), (108, .ireturn, 1)]
def xi_23 : List (Nat × Instr × Nat) := [(0, .iconst 1, 1), (1, .istore_n 3, 1), (2, .iload_n 3, 1), (3, .aload_n 0, 1), (4, .getfield 19, 3), (7, .if_icmp .gt 35, 3), (10, .aload_n 0, 1), (11, .iload_n 3, 1), (12, .iconst 0, 1), (13, .iload_n 1, 1), (14, .invokevirtual 36, 3), (17, .ifCond .eq 19, 3), (20, .aload_n 0, 1), (21, .getfield 9, 3), (24, .iload_n 3, 1), (25, .iconst 5, 1), (26, .imul, 1), (27, .iconst 2, 1), (28, .iadd, 1), (29, .iaload, 1), (30, .iload_n 2, 1), (31, .if_icmp .ne 5, 3), (34, .iconst 1, 1), (35, .ireturn, 1), (36, .iinc 3 1, 3), (39, .goto (-37), 3), (42, .iconst 0, 1), (43, .ireturn, 1)]
def xi_24 : List (Nat × Instr × Nat) := [(0, .iload_n 1, 1), (1, .iconst 1, 1), (2, .if_icmp .lt 42, 3), (5, .iload_n 1, 1), (6, .aload_n 0, 1), (7, .getfield 19, 3), (10, .if_icmp .gt 34, 3), (13, .aload_n 0, 1), (14, .getfield 9, 3), (17, .iload_n 1, 1), (18, .iconst 5, 1), (19, .imul, 1), (20, .iconst 0, 1), (21, .iadd, 1), (22, .iaload, 1), (23, .iconst 2, 1), (24, .if_icmp .eq 20, 3), (27, .aload_n 0, 1), (28, .getfield 9, 3), (31, .iload_n 1, 1), (32, .iconst 5, 1), (33, .imul, 1), (34, .iconst 4, 1), (35, .iadd, 1), (36, .iaload, 1), (37, .ifCond .ne 7, 3), (40, .iconst 1, 1), (41, .goto 4, 3), (44, .iconst 0, 1), (45, .ireturn, 1)]
def xi_25 : List (Nat × Instr × Nat) := [(0, .iconst 0, 1), (1, .istore_n 3, 1), (2, .iconst 1, 1), (3, .istore 4, 2), (5, .iload 4, 2), (7, .aload_n 0, 1), (8, .getfield 19, 3), (11, .if_icmp .gt 50, 3), (14, .iload 4, 2), (16, .iload_n 2, 1), (17, .if_icmp .ge 44, 3), (20, .aload_n 0, 1), (21, .getfield 9, 3), (24, .iload 4, 2), (26, .iconst 5, 1), (27, .imul, 1), (28, .iconst 1, 1), (29, .iadd, 1), (30, .iaload, 1), (31, .istore 5, 2), (33, .iload 5, 2), (35, .iload_n 1, 1), (36, .if_icmp .ge 19, 3), (39, .aload_n 0, 1), (40, .iload 4, 2), (42, .invokevirtual 40, 3), (45, .ifCond .eq 10, 3), (48, .iload_n 3, 1), (49, .iload 5, 2), (51, .invokestatic 30, 3), (54, .istore_n 3, 1), (55, .iinc 4 1, 3), (58, .goto (-53), 3), (61, .iload_n 3, 1), (62, .ireturn, 1)]
def xi_26 : List (Nat × Instr × Nat) := [(0, .iconst 1, 1), (1, .istore 4, 2), (3, .iload 4, 2), (5, .aload_n 0, 1), (6, .getfield 19, 3), (9, .if_icmp .gt 92, 3), (12, .iload 4, 2), (14, .iload_n 2, 1), (15, .if_icmp .ge 86, 3), (18, .aload_n 0, 1), (19, .getfield 9, 3), (22, .iload 4, 2), (24, .iconst 5, 1), (25, .imul, 1), (26, .iconst 1, 1), (27, .iadd, 1), (28, .iaload, 1), (29, .iload_n 1, 1), (30, .if_icmp .ne 65, 3), (33, .aload_n 0, 1), (34, .iload 4, 2), (36, .invokevirtual 40, 3), (39, .ifCond .ne 6, 3), (42, .goto 53, 3), (45, .aload_n 0, 1), (46, .getfield 9, 3), (49, .iload 4, 2), (51, .iconst 5, 1), (52, .imul, 1), (53, .iconst 0, 1), (54, .iadd, 1), (55, .iaload, 1), (56, .iconst 1, 1), (57, .if_icmp .ne 17, 3), (60, .aload_n 0, 1), (61, .getfield 9, 3), (64, .iload 4, 2), (66, .iconst 5, 1), (67, .imul, 1), (68, .iconst 2, 1), (69, .iadd, 1), (70, .iaload, 1), (71, .goto 5, 3), (74, .iload 4, 2), (76, .istore 5, 2), (78, .iload 5, 2), (80, .ifCond .lt 15, 3), (83, .iload 5, 2), (85, .aload_n 3, 1), (86, .arraylength, 1), (87, .if_icmp .ge 8, 3), (90, .aload_n 3, 1), (91, .iload 5, 2), (93, .iconst 1, 1), (94, .bastore, 1), (95, .iinc 4 1, 3), (98, .goto (-95), 3), (101, .return_, 1)]
def xi_27 : List (Nat × Instr × Nat) := [(0, .aload_n 1, 1), (1, .arraylength, 1), (2, .istore 4, 2), (4, .iconst 1, 1), (5, .istore 5, 2), (7, .iload 5, 2), (9, .aload_n 0, 1), (10, .getfield 19, 3), (13, .if_icmp .gt 37, 3), (16, .iload 5, 2), (18, .aload_n 3, 1), (19, .arraylength, 1), (20, .if_icmp .ge 30, 3), (23, .aload_n 3, 1), (24, .iload 5, 2), (26, .baload, 1), (27, .ifCond .eq 17, 3), (30, .aload_n 0, 1), (31, .iload 5, 2), (33, .iconst 0, 1), (34, .iload_n 2, 1), (35, .invokevirtual 36, 3), (38, .ifCond .eq 6, 3), (41, .iinc 4 1, 3), (44, .iinc 5 1, 3), (47, .goto (-40), 3), (50, .iload 4, 2), (52, .newarray .int, 2), (54, .astore 5, 2), (56, .aload_n 1, 1), (57, .iconst 0, 1), (58, .aload 5, 2), (60, .iconst 0, 1), (61, .aload_n 1, 1), (62, .arraylength, 1), (63, .invokestatic 43, 3), (66, .aload_n 1, 1), (67, .arraylength, 1), (68, .istore 6, 2), (70, .iconst 1, 1), (71, .istore 7, 2), (73, .iload 7, 2), (75, .aload_n 0, 1), (76, .getfield 19, 3), (79, .if_icmp .gt 60, 3), (82, .iload 7, 2), (84, .aload_n 3, 1), (85, .arraylength, 1), (86, .if_icmp .ge 53, 3), (89, .iload 6, 2), (91, .iload 4, 2), (93, .if_icmp .ge 46, 3), (96, .aload_n 3, 1), (97, .iload 7, 2), (99, .baload, 1), (100, .ifCond .eq 33, 3), (103, .aload_n 0, 1), (104, .iload 7, 2), (106, .iconst 0, 1), (107, .iload_n 2, 1), (108, .invokevirtual 36, 3), (111, .ifCond .eq 22, 3), (114, .aload 5, 2), (116, .iload 6, 2), (118, .aload_n 0, 1), (119, .getfield 9, 3), (122, .iload 7, 2), (124, .iconst 5, 1), (125, .imul, 1), (126, .iconst 2, 1), (127, .iadd, 1), (128, .iaload, 1), (129, .iastore, 1), (130, .iinc 6 1, 3), (133, .iinc 7 1, 3), (136, .goto (-63), 3), (139, .aload 5, 2), (141, .areturn, 1)]
def xi_28 : List (Nat × Instr × Nat) := [(0, .aload_n 0, 1), (1, .invokespecial 3, 3), (4, .aload_n 0, 1), (5, .sipush 303, 3), (8, .newarray .boolean, 2), (10, .putfield 11, 3), (13, .aload_n 0, 1), (14, .iconst 3, 1), (15, .newarray .int, 2), (17, .putfield 15, 3), (20, .iconst 0, 1), (21, .istore_n 1, 1), (22, .iload_n 1, 1), (23, .iconst 3, 1), (24, .if_icmp .ge 16, 3), (27, .aload_n 0, 1), (28, .getfield 15, 3), (31, .iload_n 1, 1), (32, .iconst 1, 1), (33, .iastore, 1), (34, .iinc 1 1, 3), (37, .goto (-15), 3), (40, .return_, 1)]
def xi_29 : List (Nat × Instr × Nat) := [(0, .iload_n 2, 1), (1, .iconst 1, 1), (2, .if_icmp .lt 21, 3), (5, .iload_n 2, 1), (6, .bipush 101, 2), (8, .if_icmp .ge 15, 3), (11, .aload_n 0, 1), (12, .getfield 11, 3), (15, .iload_n 1, 1), (16, .bipush 101, 2), (18, .imul, 1), (19, .iload_n 2, 1), (20, .iadd, 1), (21, .iconst 1, 1), (22, .bastore, 1), (23, .return_, 1)]
def xi_30 : List (Nat × Instr × Nat) := [(0, .aload_n 0, 1), (1, .getfield 15, 3), (4, .iload_n 1, 1), (5, .iaload, 1), (6, .bipush 101, 2), (8, .if_icmp .ge 26, 3), (11, .aload_n 0, 1), (12, .getfield 11, 3), (15, .iload_n 1, 1), (16, .bipush 101, 2), (18, .imul, 1), (19, .aload_n 0, 1), (20, .getfield 15, 3), (23, .iload_n 1, 1), (24, .iaload, 1), (25, .iadd, 1), (26, .baload, 1), (27, .ifCond .eq 7, 3), (30, .iconst 1, 1), (31, .goto 4, 3), (34, .iconst 0, 1), (35, .ireturn, 1)]
def xi_31 : List (Nat × Instr × Nat) := [(0, .aload_n 0, 1), (1, .getfield 15, 3), (4, .iload_n 1, 1), (5, .iaload, 1), (6, .ireturn, 1)]
def xi_32 : List (Nat × Instr × Nat) := [(0, .aload_n 0, 1), (1, .getfield 15, 3), (4, .iload_n 1, 1), (5, .dup2, 1), (6, .iaload, 1), (7, .iconst 1, 1), (8, .iadd, 1), (9, .iastore, 1), (10, .return_, 1)]
def xi_33 : List (Nat × Instr × Nat) := [(0, .aload_n 0, 1), (1, .invokespecial 3, 3), (4, .aload_n 0, 1), (5, .bipush 60, 2), (7, .newarray .int, 2), (9, .putfield 9, 3), (12, .aload_n 0, 1), (13, .bipush 60, 2), (15, .newarray .int, 2), (17, .putfield 15, 3), (20, .aload_n 0, 1), (21, .bipush 60, 2), (23, .newarray .int, 2), (25, .putfield 18, 3), (28, .aload_n 0, 1), (29, .bipush 60, 2), (31, .newarray .int, 2), (33, .putfield 21, 3), (36, .aload_n 0, 1), (37, .bipush 60, 2), (39, .newarray .int, 2), (41, .putfield 24, 3), (44, .aload_n 0, 1), (45, .iconst 4, 1), (46, .newarray .int, 2), (48, .putfield 27, 3), (51, .return_, 1)]
def xi_34 : List (Nat × Instr × Nat) := [(0, .aload_n 0, 1), (1, .getfield 30, 3), (4, .bipush 60, 2), (6, .if_icmp .lt 7, 3), (9, .iconst 1, 1), (10, .goto 4, 3), (13, .iconst 0, 1), (14, .ireturn, 1)]
def xi_35 : List (Nat × Instr × Nat) := [(0, .iload_n 1, 1), (1, .ifCond .lt 15, 3), (4, .iload_n 1, 1), (5, .aload_n 0, 1), (6, .getfield 30, 3), (9, .if_icmp .ge 7, 3), (12, .iconst 1, 1), (13, .goto 4, 3), (16, .iconst 0, 1), (17, .ireturn, 1)]
def xi_36 : List (Nat × Instr × Nat) := [(0, .aload_n 0, 1), (1, .invokevirtual 34, 3), (4, .ifCond .ne 12, 3), (7, .iload_n 1, 1), (8, .ifCond .lt 8, 3), (11, .iload_n 1, 1), (12, .iconst 4, 1), (13, .if_icmp .lt 5, 3), (16, .iconst (-1), 1), (17, .ireturn, 1), (18, .aload_n 0, 1), (19, .getfield 27, 3), (22, .iload_n 1, 1), (23, .dup2, 1), (24, .iaload, 1), (25, .iconst 1, 1), (26, .iadd, 1), (27, .iastore, 1), (28, .aload_n 0, 1), (29, .getfield 9, 3), (32, .aload_n 0, 1), (33, .getfield 30, 3), (36, .iload_n 1, 1), (37, .iastore, 1), (38, .aload_n 0, 1), (39, .getfield 15, 3), (42, .aload_n 0, 1), (43, .getfield 30, 3), (46, .aload_n 0, 1), (47, .getfield 27, 3), (50, .iload_n 1, 1), (51, .iaload, 1), (52, .iastore, 1), (53, .aload_n 0, 1), (54, .getfield 18, 3), (57, .aload_n 0, 1), (58, .getfield 30, 3), (61, .iload_n 2, 1), (62, .iastore, 1), (63, .aload_n 0, 1), (64, .getfield 21, 3), (67, .aload_n 0, 1), (68, .getfield 30, 3), (71, .iload_n 3, 1), (72, .iastore, 1), (73, .aload_n 0, 1), (74, .getfield 24, 3), (77, .aload_n 0, 1), (78, .getfield 30, 3), (81, .iload 4, 2), (83, .iastore, 1), (84, .aload_n 0, 1), (85, .dup, 1), (86, .getfield 30, 3), (89, .iconst 1, 1), (90, .iadd, 1), (91, .putfield 30, 3), (94, .aload_n 0, 1), (95, .getfield 30, 3), (98, .iconst 1, 1), (99, .isub, 1), (100, .ireturn, 1)]
def xi_37 : List (Nat × Instr × Nat) := [(0, .aload_n 0, 1), (1, .iload_n 1, 1), (2, .invokevirtual 38, 3), (5, .ifCond .eq 12, 3), (8, .aload_n 0, 1), (9, .getfield 9, 3), (12, .iload_n 1, 1), (13, .iaload, 1), (14, .goto 4, 3), (17, .iconst (-1), 1), (18, .ireturn, 1)]
def xi_38 : List (Nat × Instr × Nat) := [(0, .aload_n 0, 1), (1, .iload_n 1, 1), (2, .invokevirtual 38, 3), (5, .ifCond .eq 12, 3), (8, .aload_n 0, 1), (9, .getfield 15, 3), (12, .iload_n 1, 1), (13, .iaload, 1), (14, .goto 4, 3), (17, .iconst (-1), 1), (18, .ireturn, 1)]
def xi_39 : List (Nat × Instr × Nat) := [(0, .aload_n 0, 1), (1, .iload_n 1, 1), (2, .invokevirtual 38, 3), (5, .ifCond .eq 12, 3), (8, .aload_n 0, 1), (9, .getfield 21, 3), (12, .iload_n 1, 1), (13, .iaload, 1), (14, .goto 4, 3), (17, .iconst (-1), 1), (18, .ireturn, 1)]
def xi_40 : List (Nat × Instr × Nat) := [(0, .aload_n 0, 1), (1, .iload_n 1, 1), (2, .invokevirtual 38, 3), (5, .ifCond .eq 12, 3), (8, .aload_n 0, 1), (9, .getfield 18, 3), (12, .iload_n 1, 1), (13, .iaload, 1), (14, .ifCond .ne 5, 3), (17, .iload_n 2, 1), (18, .ireturn, 1), (19, .aload_n 0, 1), (20, .getfield 18, 3), (23, .iload_n 1, 1), (24, .iaload, 1), (25, .iconst 1, 1), (26, .if_icmp .ne 12, 3), (29, .aload_n 0, 1), (30, .getfield 24, 3), (33, .iload_n 1, 1), (34, .iaload, 1), (35, .goto 11, 3), (38, .iload_n 2, 1), (39, .aload_n 0, 1), (40, .getfield 24, 3), (43, .iload_n 1, 1), (44, .iaload, 1), (45, .iadd, 1), (46, .ireturn, 1)]
def xi_41 : List (Nat × Instr × Nat) := [(0, .aload_n 0, 1), (1, .iload_n 1, 1), (2, .invokevirtual 38, 3), (5, .ifCond .eq 24, 3), (8, .aload_n 0, 1), (9, .getfield 18, 3), (12, .iload_n 1, 1), (13, .iaload, 1), (14, .iconst 2, 1), (15, .if_icmp .ne 14, 3), (18, .iload_n 2, 1), (19, .aload_n 0, 1), (20, .getfield 24, 3), (23, .iload_n 1, 1), (24, .iaload, 1), (25, .iadd, 1), (26, .goto 4, 3), (29, .iload_n 2, 1), (30, .ireturn, 1)]
def xi_42 : List (Nat × Instr × Nat) := [(0, .aload_n 0, 1), (1, .invokespecial 3, 3), (4, .aload_n 0, 1), (5, .new 9, 3), (8, .dup, 1), (9, .invokespecial 11, 3), (12, .putfield 12, 3), (15, .aload_n 0, 1), (16, .new 18, 3), (19, .dup, 1), (20, .invokespecial 20, 3), (23, .putfield 21, 3), (26, .aload_n 0, 1), (27, .new 25, 3), (30, .dup, 1), (31, .invokespecial 27, 3), (34, .putfield 28, 3), (37, .aload_n 0, 1), (38, .iconst 3, 1), (39, .newarray .int, 2), (41, .putfield 32, 3), (44, .aload_n 0, 1), (45, .iconst 1, 1), (46, .putfield 36, 3), (49, .aload_n 0, 1), (50, .iload_n 1, 1), (51, .putfield 40, 3), (54, .aload_n 0, 1), (55, .aload_n 3, 1), (56, .putfield 44, 3), (59, .aload_n 0, 1), (60, .new 48, 3), (63, .dup, 1), (64, .aload_n 2, 1), (65, .invokespecial 50, 3), (68, .putfield 53, 3), (71, .iconst 0, 1), (72, .istore 4, 2), (74, .iload 4, 2), (76, .iconst 3, 1), (77, .if_icmp .ge 17, 3), (80, .aload_n 0, 1), (81, .getfield 32, 3), (84, .iload 4, 2), (86, .iconst (-1), 1), (87, .iastore, 1), (88, .iinc 4 1, 3), (91, .goto (-17), 3), (94, .return_, 1)]
def xi_43 : List (Nat × Instr × Nat) := [(0, .aload_n 0, 1), (1, .getfield 57, 3), (4, .ireturn, 1)]
def xi_44 : List (Nat × Instr × Nat) := [(0, .aload_n 0, 1), (1, .getfield 36, 3), (4, .ireturn, 1)]
def xi_45 : List (Nat × Instr × Nat) := [(0, .aload_n 0, 1), (1, .getfield 60, 3), (4, .ireturn, 1)]
def xi_46 : List (Nat × Instr × Nat) := [(0, .aload_n 0, 1), (1, .getfield 53, 3), (4, .areturn, 1)]
def xi_47 : List (Nat × Instr × Nat) := [(0, .aload_n 0, 1), (1, .getfield 32, 3), (4, .aload_n 0, 1), (5, .getfield 40, 3), (8, .iaload, 1), (9, .ireturn, 1)]
def xi_48 : List (Nat × Instr × Nat) := [(0, .iload_n 1, 1), (1, .ifCond .lt 19, 3), (4, .iload_n 1, 1), (5, .iconst 3, 1), (6, .if_icmp .ge 14, 3), (9, .aload_n 0, 1), (10, .getfield 12, 3), (13, .iload_n 1, 1), (14, .invokevirtual 63, 3), (17, .goto 4, 3), (20, .iconst (-1), 1), (21, .ireturn, 1)]
def xi_49 : List (Nat × Instr × Nat) := [(0, .aload_n 0, 1), (1, .iconst 1, 1), (2, .putfield 60, 3), (5, .return_, 1)]
def xi_50 : List (Nat × Instr × Nat) := [(0, .aload_n 0, 1), (1, .getfield 32, 3), (4, .aload_n 0, 1), (5, .getfield 40, 3), (8, .iload_n 1, 1), (9, .iastore, 1), (10, .return_, 1)]
def xi_51 : List (Nat × Instr × Nat) := [(0, .aload_n 0, 1), (1, .getfield 32, 3), (4, .iload_n 1, 1), (5, .aload_n 0, 1), (6, .getfield 32, 3), (9, .iload_n 1, 1), (10, .iaload, 1), (11, .iload_n 2, 1), (12, .invokestatic 67, 3), (15, .iastore, 1), (16, .return_, 1)]
def xi_52 : List (Nat × Instr × Nat) := [(0, .aload_n 0, 1), (1, .getfield 32, 3), (4, .iconst 0, 1), (5, .iaload, 1), (6, .aload_n 0, 1), (7, .getfield 32, 3), (10, .iconst 1, 1), (11, .iaload, 1), (12, .invokestatic 73, 3), (15, .istore_n 1, 1), (16, .aload_n 0, 1), (17, .getfield 32, 3), (20, .iconst 0, 1), (21, .iaload, 1), (22, .aload_n 0, 1), (23, .getfield 32, 3), (26, .iconst 1, 1), (27, .iaload, 1), (28, .invokestatic 67, 3), (31, .istore_n 2, 1), (32, .iload_n 1, 1), (33, .iload_n 2, 1), (34, .aload_n 0, 1), (35, .getfield 32, 3), (38, .iconst 2, 1), (39, .iaload, 1), (40, .invokestatic 73, 3), (43, .invokestatic 67, 3), (46, .istore_n 3, 1), (47, .iload_n 3, 1), (48, .aload_n 0, 1), (49, .getfield 57, 3), (52, .if_icmp .gt 5, 3), (55, .iconst 0, 1), (56, .ireturn, 1), (57, .aload_n 0, 1), (58, .iload_n 3, 1), (59, .iconst 0, 1), (60, .invokevirtual 76, 3), (63, .aload_n 0, 1), (64, .getfield 44, 3), (67, .aload_n 0, 1), (68, .getfield 40, 3), (71, .iconst 2, 1), (72, .aload_n 0, 1), (73, .getfield 57, 3), (76, .iconst 0, 1), (77, .iconst 0, 1), (78, .invokevirtual 80, 3), (81, .pop, 1), (82, .iconst 1, 1), (83, .ireturn, 1)]
def xi_53 : List (Nat × Instr × Nat) := [(0, .aload_n 0, 1), (1, .getfield 60, 3), (4, .ifCond .ne 43, 3), (7, .aload_n 0, 1), (8, .getfield 36, 3), (11, .ifCond .eq 36, 3), (14, .aload_n 0, 1), (15, .getfield 57, 3), (18, .invokestatic 86, 3), (21, .aload_n 0, 1), (22, .getfield 40, 3), (25, .if_icmp .ne 22, 3), (28, .aload_n 0, 1), (29, .getfield 44, 3), (32, .aload_n 0, 1), (33, .getfield 40, 3), (36, .aload_n 0, 1), (37, .getfield 57, 3), (40, .iload_n 1, 1), (41, .invokevirtual 89, 3), (44, .ifCond .eq 5, 3), (47, .iconst 0, 1), (48, .ireturn, 1), (49, .aload_n 0, 1), (50, .getfield 44, 3), (53, .aload_n 0, 1), (54, .getfield 40, 3), (57, .iconst 0, 1), (58, .aload_n 0, 1), (59, .getfield 57, 3), (62, .iload_n 1, 1), (63, .iconst 0, 1), (64, .invokevirtual 80, 3), (67, .iconst (-1), 1), (68, .if_icmp .eq 7, 3), (71, .iconst 1, 1), (72, .goto 4, 3), (75, .iconst 0, 1), (76, .ireturn, 1)]
def xi_54 : List (Nat × Instr × Nat) := [(0, .aload_n 0, 1), (1, .getfield 12, 3), (4, .iload_n 1, 1), (5, .iload_n 2, 1), (6, .invokevirtual 93, 3), (9, .return_, 1)]
def xi_55 : List (Nat × Instr × Nat) := [(0, .iconst 0, 1), (1, .istore_n 1, 1), (2, .iconst 0, 1), (3, .istore_n 2, 1), (4, .iload_n 2, 1), (5, .sipush 300, 3), (8, .if_icmp .ge 61, 3), (11, .aload_n 0, 1), (12, .invokevirtual 97, 3), (15, .istore_n 3, 1), (16, .iload_n 3, 1), (17, .iconst (-1), 1), (18, .if_icmp .ne 5, 3), (21, .iload_n 1, 1), (22, .ireturn, 1), (23, .aload_n 0, 1), (24, .getfield 12, 3), (27, .iload_n 3, 1), (28, .invokevirtual 63, 3), (31, .istore 4, 2), (33, .aload_n 0, 1), (34, .getfield 12, 3), (37, .iload_n 3, 1), (38, .invokevirtual 101, 3), (41, .aload_n 0, 1), (42, .iload_n 3, 1), (43, .iload 4, 2), (45, .invokevirtual 105, 3), (48, .aload_n 0, 1), (49, .invokevirtual 108, 3), (52, .iload_n 3, 1), (53, .aload_n 0, 1), (54, .getfield 40, 3), (57, .if_icmp .eq 6, 3), (60, .iinc 1 1, 3), (63, .iinc 2 1, 3), (66, .goto (-62), 3), (69, .iload_n 1, 1), (70, .ireturn, 1)]
def xi_56 : List (Nat × Instr × Nat) := [(0, .aload_n 0, 1), (1, .getfield 12, 3), (4, .aload_n 0, 1), (5, .getfield 40, 3), (8, .invokevirtual 63, 3), (11, .aload_n 0, 1), (12, .getfield 44, 3), (15, .aload_n 0, 1), (16, .getfield 40, 3), (19, .invokevirtual 111, 3), (22, .if_icmp .gt 8, 3), (25, .aload_n 0, 1), (26, .getfield 40, 3), (29, .ireturn, 1), (30, .iconst 0, 1), (31, .istore_n 1, 1), (32, .iload_n 1, 1), (33, .iconst 3, 1), (34, .if_icmp .ge 46, 3), (37, .iload_n 1, 1), (38, .aload_n 0, 1), (39, .getfield 40, 3), (42, .if_icmp .eq 32, 3), (45, .aload_n 0, 1), (46, .getfield 12, 3), (49, .iload_n 1, 1), (50, .invokevirtual 114, 3), (53, .ifCond .eq 21, 3), (56, .aload_n 0, 1), (57, .iload_n 1, 1), (58, .aload_n 0, 1), (59, .getfield 12, 3), (62, .iload_n 1, 1), (63, .invokevirtual 63, 3), (66, .invokevirtual 118, 3), (69, .ifCond .ne 5, 3), (72, .iload_n 1, 1), (73, .ireturn, 1), (74, .iinc 1 1, 3), (77, .goto (-45), 3), (80, .iconst (-1), 1), (81, .ireturn, 1)]
def xi_57 : List (Nat × Instr × Nat) := [(0, .aload_n 0, 1), (1, .getfield 44, 3), (4, .iload_n 1, 1), (5, .iload_n 2, 1), (6, .iconst 0, 1), (7, .invokevirtual 122, 3), (10, .istore_n 3, 1), (11, .iload_n 3, 1), (12, .iconst 2, 1), (13, .if_icmp .eq 21, 3), (16, .iload_n 3, 1), (17, .iconst 3, 1), (18, .if_icmp .eq 16, 3), (21, .aload_n 0, 1), (22, .getfield 44, 3), (25, .iload_n 1, 1), (26, .iload_n 2, 1), (27, .iconst 4, 1), (28, .invokevirtual 122, 3), (31, .ifCond .eq 5, 3), (34, .iconst 0, 1), (35, .ireturn, 1), (36, .aload_n 0, 1), (37, .getfield 44, 3), (40, .iload_n 1, 1), (41, .iload_n 2, 1), (42, .iconst 1, 1), (43, .invokevirtual 122, 3), (46, .istore 4, 2), (48, .iload 4, 2), (50, .aload_n 0, 1), (51, .getfield 57, 3), (54, .if_icmp .gt 19, 3), (57, .iload 4, 2), (59, .aload_n 0, 1), (60, .getfield 57, 3), (63, .if_icmp .ne 14, 3), (66, .aload_n 0, 1), (67, .getfield 36, 3), (70, .ifCond .ne 7, 3), (73, .iconst 1, 1), (74, .goto 4, 3), (77, .iconst 0, 1), (78, .ireturn, 1)]
def xi_58 : List (Nat × Instr × Nat) := [(0, .aload_n 0, 1), (1, .getfield 44, 3), (4, .iload_n 1, 1), (5, .iload_n 2, 1), (6, .iconst 1, 1), (7, .invokevirtual 122, 3), (10, .istore_n 3, 1), (11, .aload_n 0, 1), (12, .getfield 44, 3), (15, .iload_n 1, 1), (16, .iload_n 2, 1), (17, .iconst 4, 1), (18, .invokevirtual 122, 3), (21, .ifCond .ne 17, 3), (24, .iload_n 3, 1), (25, .aload_n 0, 1), (26, .getfield 57, 3), (29, .if_icmp .lt 9, 3), (32, .iload_n 3, 1), (33, .bipush 31, 2), (35, .if_icmp .lt 4, 3), (38, .return_, 1), (39, .aload_n 0, 1), (40, .getfield 44, 3), (43, .iload_n 1, 1), (44, .iload_n 2, 1), (45, .iconst 0, 1), (46, .invokevirtual 122, 3), (49, .tableswitch 185 0 2 #[27, 65, 85], 27), (76, .aload_n 0, 1), (77, .getfield 21, 3), (80, .iload_n 2, 1), (81, .invokevirtual 126, 3), (84, .iload_n 1, 1), (85, .aload_n 0, 1), (86, .getfield 40, 3), (89, .if_icmp .eq 193, 3), (92, .aload_n 0, 1), (93, .getfield 44, 3), (96, .aload_n 0, 1), (97, .getfield 40, 3), (100, .iconst 1, 1), (101, .aload_n 0, 1), (102, .getfield 57, 3), (105, .iload_n 2, 1), (106, .iconst 0, 1), (107, .invokevirtual 80, 3), (110, .pop, 1), (111, .goto 171, 3), (114, .aload_n 0, 1), (115, .getfield 21, 3), (118, .aload_n 0, 1), (119, .getfield 44, 3), (122, .iload_n 1, 1), (123, .iload_n 2, 1), (124, .iconst 2, 1), (125, .invokevirtual 122, 3), (128, .invokevirtual 128, 3), (131, .goto 151, 3), (134, .aload_n 0, 1), (135, .getfield 28, 3), (138, .iload_n 3, 1), (139, .iload_n 1, 1), (140, .iload_n 2, 1), (141, .invokestatic 131, 3), (144, .invokevirtual 134, 3), (147, .iload_n 3, 1), (148, .aload_n 0, 1), (149, .getfield 57, 3), (152, .if_icmp .ne 130, 3), (155, .aload_n 0, 1), (156, .getfield 36, 3), (159, .ifCond .ne 123, 3), (162, .aload_n 0, 1), (163, .getfield 57, 3), (166, .invokestatic 86, 3), (169, .aload_n 0, 1), (170, .getfield 40, 3), (173, .if_icmp .ne 109, 3), (176, .aload_n 0, 1), (177, .getfield 28, 3), (180, .aload_n 0, 1), (181, .getfield 57, 3), (184, .invokevirtual 137, 3), (187, .ifCond .eq 95, 3), (190, .aload_n 0, 1), (191, .getfield 44, 3), (194, .aload_n 0, 1), (195, .getfield 40, 3), (198, .iconst 3, 1), (199, .aload_n 0, 1), (200, .getfield 57, 3), (203, .aload_n 0, 1), (204, .getfield 28, 3), (207, .getfield 140, 3), (210, .aload_n 0, 1), (211, .getfield 57, 3), (214, .iaload, 1), (215, .aload_n 0, 1), (216, .getfield 28, 3), (219, .getfield 143, 3), (222, .aload_n 0, 1), (223, .getfield 57, 3), (226, .iaload, 1), (227, .invokevirtual 80, 3), (230, .pop, 1), (231, .goto 51, 3), (234, .iload_n 3, 1), (235, .aload_n 0, 1), (236, .getfield 57, 3), (239, .if_icmp .gt 10, 3), (242, .aload_n 0, 1), (243, .getfield 36, 3), (246, .ifCond .ne 36, 3), (249, .aload_n 0, 1), (250, .iload_n 3, 1), (251, .iconst 1, 1), (252, .invokevirtual 76, 3), (255, .iload_n 1, 1), (256, .aload_n 0, 1), (257, .getfield 40, 3), (260, .if_icmp .eq 22, 3), (263, .aload_n 0, 1), (264, .getfield 44, 3), (267, .aload_n 0, 1), (268, .getfield 40, 3), (271, .iconst 1, 1), (272, .aload_n 0, 1), (273, .getfield 57, 3), (276, .iload_n 2, 1), (277, .iconst 0, 1), (278, .invokevirtual 80, 3), (281, .pop, 1), (282, .return_, 1)]
def xi_59 : List (Nat × Instr × Nat) := [(0, .aload_n 0, 1), (1, .iload_n 1, 1), (2, .putfield 57, 3), (5, .aload_n 0, 1), (6, .iload_n 2, 1), (7, .putfield 36, 3), (10, .aload_n 0, 1), (11, .getfield 21, 3), (14, .invokevirtual 146, 3), (17, .return_, 1)]
def xi_60 : List (Nat × Instr × Nat) := [(0, .aload_n 0, 1), (1, .getfield 36, 3), (4, .ifCond .ne 4, 3), (7, .return_, 1), (8, .aload_n 0, 1), (9, .getfield 21, 3), (12, .getfield 149, 3), (15, .ifCond .ne 75, 3), (18, .aload_n 0, 1), (19, .getfield 21, 3), (22, .aload_n 0, 1), (23, .getfield 44, 3), (26, .aload_n 0, 1), (27, .getfield 57, 3), (30, .invokevirtual 152, 3), (33, .invokevirtual 155, 3), (36, .ifCond .ne 4, 3), (39, .return_, 1), (40, .aload_n 0, 1), (41, .getfield 21, 3), (44, .iconst 1, 1), (45, .putfield 149, 3), (48, .aload_n 0, 1), (49, .getfield 44, 3), (52, .aload_n 0, 1), (53, .getfield 57, 3), (56, .invokevirtual 158, 3), (59, .astore_n 1, 1), (60, .aload_n 0, 1), (61, .getfield 53, 3), (64, .invokevirtual 162, 3), (67, .istore_n 2, 1), (68, .iload_n 2, 1), (69, .aload_n 1, 1), (70, .arraylength, 1), (71, .if_icmp .ge 19, 3), (74, .aload_n 0, 1), (75, .getfield 53, 3), (78, .aload_n 1, 1), (79, .iload_n 2, 1), (80, .iaload, 1), (81, .invokevirtual 165, 3), (84, .iinc 2 1, 3), (87, .goto (-19), 3), (90, .iconst 0, 1), (91, .istore_n 1, 1), (92, .iload_n 1, 1), (93, .bipush 100, 2), (95, .if_icmp .ge 62, 3), (98, .aload_n 0, 1), (99, .getfield 21, 3), (102, .invokevirtual 168, 3), (105, .iconst (-1), 1), (106, .if_icmp .eq 51, 3), (109, .aload_n 0, 1), (110, .getfield 53, 3), (113, .aload_n 0, 1), (114, .getfield 44, 3), (117, .aload_n 0, 1), (118, .getfield 57, 3), (121, .invokestatic 86, 3), (124, .aload_n 0, 1), (125, .getfield 21, 3), (128, .invokevirtual 168, 3), (131, .iconst 2, 1), (132, .invokevirtual 122, 3), (135, .invokevirtual 165, 3), (138, .aload_n 0, 1), (139, .getfield 21, 3), (142, .dup, 1), (143, .getfield 171, 3), (146, .iconst 1, 1), (147, .iadd, 1), (148, .putfield 171, 3), (151, .iinc 1 1, 3), (154, .goto (-62), 3), (157, .return_, 1)]
def xi_61 : List (Nat × Instr × Nat) := [(0, .aload_n 0, 1), (1, .invokespecial 3, 3), (4, .aload_n 0, 1), (5, .iconst 4, 1), (6, .newarray .int, 2), (8, .putfield 9, 3), (11, .aload_n 0, 1), (12, .iconst 4, 1), (13, .newarray .int, 2), (15, .putfield 15, 3), (18, .aload_n 0, 1), (19, .sipush 300, 3), (22, .newarray .int, 2), (24, .putfield 18, 3), (27, .aload_n 0, 1), (28, .bipush 60, 2), (30, .newarray .boolean, 2), (32, .putfield 21, 3), (35, .aload_n 0, 1), (36, .bipush 60, 2), (38, .newarray .int, 2), (40, .putfield 25, 3), (43, .aload_n 0, 1), (44, .aload_n 1, 1), (45, .putfield 28, 3), (48, .return_, 1)]
def xi_62 : List (Nat × Instr × Nat) := [(0, .aload_n 0, 1), (1, .getfield 32, 3), (4, .ireturn, 1)]
def xi_63 : List (Nat × Instr × Nat) := [(0, .iload_n 1, 1), (1, .ifCond .lt 20, 3), (4, .iload_n 1, 1), (5, .aload_n 0, 1), (6, .getfield 32, 3), (9, .if_icmp .ge 12, 3), (12, .aload_n 0, 1), (13, .getfield 18, 3), (16, .iload_n 1, 1), (17, .iaload, 1), (18, .goto 4, 3), (21, .iconst (-1), 1), (22, .ireturn, 1)]
def xi_64 : List (Nat × Instr × Nat) := [(0, .iload_n 1, 1), (1, .ifCond .lt 17, 3), (4, .iload_n 1, 1), (5, .iconst 4, 1), (6, .if_icmp .ge 12, 3), (9, .aload_n 0, 1), (10, .getfield 9, 3), (13, .iload_n 1, 1), (14, .iaload, 1), (15, .goto 4, 3), (18, .iconst 0, 1), (19, .ireturn, 1)]
def xi_65 : List (Nat × Instr × Nat) := [(0, .iload_n 1, 1), (1, .ifCond .lt 22, 3), (4, .iload_n 1, 1), (5, .bipush 60, 2), (7, .if_icmp .ge 16, 3), (10, .aload_n 0, 1), (11, .getfield 21, 3), (14, .iload_n 1, 1), (15, .baload, 1), (16, .ifCond .eq 7, 3), (19, .iconst 1, 1), (20, .goto 4, 3), (23, .iconst 0, 1), (24, .ireturn, 1)]
def xi_66 : List (Nat × Instr × Nat) := [(0, .aload_n 0, 1), (1, .iload_n 1, 1), (2, .invokevirtual 36, 3), (5, .ifCond .eq 12, 3), (8, .aload_n 0, 1), (9, .getfield 25, 3), (12, .iload_n 1, 1), (13, .iaload, 1), (14, .goto 4, 3), (17, .iconst 0, 1), (18, .ireturn, 1)]
def xi_67 : List (Nat × Instr × Nat) := [(0, .iload_n 1, 1), (1, .ifCond .lt 23, 3), (4, .iload_n 1, 1), (5, .bipush 60, 2), (7, .if_icmp .ge 17, 3), (10, .aload_n 0, 1), (11, .getfield 21, 3), (14, .iload_n 1, 1), (15, .iconst 1, 1), (16, .bastore, 1), (17, .aload_n 0, 1), (18, .getfield 25, 3), (21, .iload_n 1, 1), (22, .iload_n 2, 1), (23, .iastore, 1), (24, .return_, 1)]
def xi_68 : List (Nat × Instr × Nat) := [(0, .aload_n 0, 1), (1, .getfield 28, 3), (4, .iload_n 1, 1), (5, .invokevirtual 40, 3), (8, .ifCond .eq 13, 3), (11, .aload_n 0, 1), (12, .getfield 32, 3), (15, .sipush 300, 3), (18, .if_icmp .lt 4, 3), (21, .return_, 1), (22, .aload_n 0, 1), (23, .getfield 18, 3), (26, .aload_n 0, 1), (27, .getfield 32, 3), (30, .iload_n 1, 1), (31, .iastore, 1), (32, .aload_n 0, 1), (33, .dup, 1), (34, .getfield 32, 3), (37, .iconst 1, 1), (38, .iadd, 1), (39, .putfield 32, 3), (42, .aload_n 0, 1), (43, .getfield 28, 3), (46, .iload_n 1, 1), (47, .invokevirtual 45, 3), (50, .istore_n 2, 1), (51, .aload_n 0, 1), (52, .getfield 28, 3), (55, .iload_n 1, 1), (56, .invokevirtual 49, 3), (59, .istore_n 3, 1), (60, .aload_n 0, 1), (61, .getfield 28, 3), (64, .iload_n 1, 1), (65, .invokevirtual 52, 3), (68, .istore 4, 2), (70, .iload_n 2, 1), (71, .ifCond .lt 18, 3), (74, .iload 4, 2), (76, .ifCond .lt 13, 3), (79, .iload_n 3, 1), (80, .aload_n 0, 1), (81, .getfield 15, 3), (84, .iload_n 2, 1), (85, .iaload, 1), (86, .if_icmp .gt 4, 3), (89, .return_, 1), (90, .aload_n 0, 1), (91, .getfield 15, 3), (94, .iload_n 2, 1), (95, .iload_n 3, 1), (96, .iastore, 1), (97, .aload_n 0, 1), (98, .getfield 9, 3), (101, .iload 4, 2), (103, .iaload, 1), (104, .istore 5, 2), (106, .aload_n 0, 1), (107, .getfield 9, 3), (110, .iload 4, 2), (112, .aload_n 0, 1), (113, .getfield 28, 3), (116, .iload_n 1, 1), (117, .iload 5, 2), (119, .invokevirtual 55, 3), (122, .iastore, 1), (123, .aload_n 0, 1), (124, .iload_n 1, 1), (125, .aload_n 0, 1), (126, .getfield 28, 3), (129, .iload_n 1, 1), (130, .iload 5, 2), (132, .invokevirtual 59, 3), (135, .invokevirtual 62, 3), (138, .return_, 1)]
def xi_69 : List (Nat × Instr × Nat) := [(0, .aload_n 0, 1), (1, .invokespecial 3, 3), (4, .aload_n 0, 1), (5, .bipush 100, 2), (7, .newarray .int, 2), (9, .putfield 9, 3), (12, .aload_n 0, 1), (13, .bipush 101, 2), (15, .newarray .boolean, 2), (17, .putfield 15, 3), (20, .aload_n 0, 1), (21, .iconst 1, 1), (22, .putfield 19, 3), (25, .return_, 1)]
def xi_70 : List (Nat × Instr × Nat) := [(0, .aload_n 0, 1), (1, .iconst 0, 1), (2, .putfield 23, 3), (5, .aload_n 0, 1), (6, .iconst 0, 1), (7, .putfield 27, 3), (10, .aload_n 0, 1), (11, .iconst 0, 1), (12, .putfield 19, 3), (15, .iconst 0, 1), (16, .istore_n 1, 1), (17, .iload_n 1, 1), (18, .aload_n 0, 1), (19, .getfield 15, 3), (22, .arraylength, 1), (23, .if_icmp .ge 16, 3), (26, .aload_n 0, 1), (27, .getfield 15, 3), (30, .iload_n 1, 1), (31, .iconst 0, 1), (32, .bastore, 1), (33, .iinc 1 1, 3), (36, .goto (-19), 3), (39, .return_, 1)]
def xi_71 : List (Nat × Instr × Nat) := [(0, .aload_n 0, 1), (1, .getfield 23, 3), (4, .aload_n 0, 1), (5, .getfield 9, 3), (8, .arraylength, 1), (9, .if_icmp .ge 23, 3), (12, .aload_n 0, 1), (13, .getfield 9, 3), (16, .aload_n 0, 1), (17, .getfield 23, 3), (20, .iload_n 1, 1), (21, .iastore, 1), (22, .aload_n 0, 1), (23, .dup, 1), (24, .getfield 23, 3), (27, .iconst 1, 1), (28, .iadd, 1), (29, .putfield 23, 3), (32, .return_, 1)]
def xi_72 : List (Nat × Instr × Nat) := [(0, .iload_n 1, 1), (1, .ifCond .lt 19, 3), (4, .iload_n 1, 1), (5, .aload_n 0, 1), (6, .getfield 15, 3), (9, .arraylength, 1), (10, .if_icmp .ge 10, 3), (13, .aload_n 0, 1), (14, .getfield 15, 3), (17, .iload_n 1, 1), (18, .iconst 1, 1), (19, .bastore, 1), (20, .return_, 1)]
def xi_73 : List (Nat × Instr × Nat) := [(0, .iload_n 1, 1), (1, .ifCond .lt 25, 3), (4, .iload_n 1, 1), (5, .aload_n 0, 1), (6, .getfield 15, 3), (9, .arraylength, 1), (10, .if_icmp .ge 16, 3), (13, .aload_n 0, 1), (14, .getfield 15, 3), (17, .iload_n 1, 1), (18, .baload, 1), (19, .ifCond .eq 7, 3), (22, .iconst 1, 1), (23, .goto 4, 3), (26, .iconst 0, 1), (27, .ireturn, 1)]
def xi_74 : List (Nat × Instr × Nat) := [(0, .aload_n 0, 1), (1, .getfield 27, 3), (4, .aload_n 0, 1), (5, .getfield 23, 3), (8, .if_icmp .ge 31, 3), (11, .aload_n 0, 1), (12, .aload_n 0, 1), (13, .getfield 9, 3), (16, .aload_n 0, 1), (17, .getfield 27, 3), (20, .iaload, 1), (21, .invokevirtual 30, 3), (24, .ifCond .eq 15, 3), (27, .aload_n 0, 1), (28, .getfield 9, 3), (31, .aload_n 0, 1), (32, .getfield 27, 3), (35, .iaload, 1), (36, .goto 4, 3), (39, .iconst (-1), 1), (40, .ireturn, 1)]
def xi_75 : List (Nat × Instr × Nat) := [(0, .aload_n 0, 1), (1, .invokespecial 3, 3), (4, .aload_n 0, 1), (5, .new 9, 3), (8, .dup, 1), (9, .invokespecial 11, 3), (12, .putfield 12, 3), (15, .aload_n 0, 1), (16, .new 16, 3), (19, .dup, 1), (20, .invokespecial 18, 3), (23, .putfield 19, 3), (26, .aload_n 0, 1), (27, .new 23, 3), (30, .dup, 1), (31, .invokespecial 25, 3), (34, .putfield 26, 3), (37, .aload_n 0, 1), (38, .iconst 3, 1), (39, .anewarray 30, 3), (42, .putfield 32, 3), (45, .iconst 0, 1), (46, .istore_n 1, 1), (47, .iload_n 1, 1), (48, .iconst 3, 1), (49, .if_icmp .ge 31, 3), (52, .aload_n 0, 1), (53, .getfield 32, 3), (56, .iload_n 1, 1), (57, .new 30, 3), (60, .dup, 1), (61, .iload_n 1, 1), (62, .aload_n 0, 1), (63, .getfield 12, 3), (66, .aload_n 0, 1), (67, .getfield 19, 3), (70, .invokespecial 36, 3), (73, .aastore, 1), (74, .iinc 1 1, 3), (77, .goto (-30), 3), (80, .return_, 1)]
def xi_76 : List (Nat × Instr × Nat) := [(0, .iload_n 1, 1), (1, .ifCond .lt 8, 3), (4, .iload_n 1, 1), (5, .iconst 4, 1), (6, .if_icmp .lt 13, 3), (9, .new 39, 3), (12, .dup, 1), (13, .ldc 41, 2), (15, .invokespecial 43, 3), (18, .athrow, 1), (19, .iload_n 2, 1), (20, .ifCond .lt 8, 3), (23, .iload_n 2, 1), (24, .iconst 2, 1), (25, .if_icmp .le 13, 3), (28, .new 39, 3), (31, .dup, 1), (32, .ldc 46, 2), (34, .invokespecial 43, 3), (37, .athrow, 1), (38, .iload_n 3, 1), (39, .ifCond .lt 8, 3), (42, .iload_n 3, 1), (43, .iconst 4, 1), (44, .if_icmp .lt 13, 3), (47, .new 39, 3), (50, .dup, 1), (51, .ldc 48, 2), (53, .invokespecial 43, 3), (56, .athrow, 1), (57, .aload_n 0, 1), (58, .getfield 12, 3), (61, .invokevirtual 50, 3), (64, .ifCond .eq 13, 3), (67, .new 54, 3), (70, .dup, 1), (71, .ldc 56, 2), (73, .invokespecial 58, 3), (76, .athrow, 1), (77, .aload_n 0, 1), (78, .getfield 12, 3), (81, .iload_n 1, 1), (82, .iload_n 2, 1), (83, .iload_n 3, 1), (84, .iload 4, 2), (86, .invokevirtual 59, 3), (89, .ireturn, 1)]
def xi_77 : List (Nat × Instr × Nat) := [(0, .aload_n 0, 1), (1, .iload_n 1, 1), (2, .invokevirtual 63, 3), (5, .iload_n 2, 1), (6, .invokestatic 67, 3), (9, .aload_n 0, 1), (10, .getfield 32, 3), (13, .iload_n 2, 1), (14, .aaload, 1), (15, .astore_n 3, 1), (16, .aload_n 3, 1), (17, .iload_n 1, 1), (18, .invokevirtual 70, 3), (21, .ifCond .ne 5, 3), (24, .iconst 0, 1), (25, .ireturn, 1), (26, .aload_n 3, 1), (27, .invokevirtual 74, 3), (30, .pop, 1), (31, .iconst 1, 1), (32, .ireturn, 1)]
def xi_78 : List (Nat × Instr × Nat) := [(0, .aload_n 0, 1), (1, .iload_n 1, 1), (2, .iload_n 2, 1), (3, .invokevirtual 78, 3), (6, .iload_n 3, 1), (7, .invokestatic 67, 3), (10, .iload_n 1, 1), (11, .iload_n 3, 1), (12, .invokestatic 82, 3), (15, .aload_n 0, 1), (16, .getfield 32, 3), (19, .iload_n 3, 1), (20, .aaload, 1), (21, .astore 4, 2), (23, .aload 4, 2), (25, .invokevirtual 85, 3), (28, .ifCond .eq 5, 3), (31, .iconst 0, 1), (32, .ireturn, 1), (33, .aload 4, 2), (35, .iload_n 1, 1), (36, .iload_n 2, 1), (37, .invokevirtual 88, 3), (40, .aload 4, 2), (42, .invokevirtual 74, 3), (45, .ireturn, 1)]
def xi_79 : List (Nat × Instr × Nat) := [(0, .iload_n 1, 1), (1, .invokestatic 67, 3), (4, .aload_n 0, 1), (5, .getfield 32, 3), (8, .iload_n 1, 1), (9, .aaload, 1), (10, .astore_n 2, 1), (11, .aload_n 2, 1), (12, .invokevirtual 85, 3), (15, .ifCond .ne 12, 3), (18, .aload_n 2, 1), (19, .invokevirtual 91, 3), (22, .bipush 30, 2), (24, .if_icmp .lt 5, 3), (27, .iconst (-1), 1), (28, .ireturn, 1), (29, .aload_n 2, 1), (30, .invokevirtual 91, 3), (33, .iconst 1, 1), (34, .iadd, 1), (35, .istore_n 3, 1), (36, .aload_n 2, 1), (37, .iload_n 1, 1), (38, .iload_n 3, 1), (39, .invokevirtual 94, 3), (42, .aload_n 2, 1), (43, .invokevirtual 97, 3), (46, .ifCond .eq 8, 3), (49, .aload_n 2, 1), (50, .invokevirtual 74, 3), (53, .pop, 1), (54, .iload_n 3, 1), (55, .ireturn, 1)]
def xi_80 : List (Nat × Instr × Nat) := [(0, .iload_n 1, 1), (1, .invokestatic 67, 3), (4, .iload_n 2, 1), (5, .invokestatic 67, 3), (8, .iload_n 1, 1), (9, .iload_n 2, 1), (10, .invokestatic 82, 3), (13, .aload_n 0, 1), (14, .getfield 32, 3), (17, .iload_n 2, 1), (18, .aaload, 1), (19, .astore_n 3, 1), (20, .aload_n 3, 1), (21, .invokevirtual 85, 3), (24, .ifCond .eq 5, 3), (27, .iconst 0, 1), (28, .ireturn, 1), (29, .aload_n 3, 1), (30, .iload_n 1, 1), (31, .aload_n 0, 1), (32, .getfield 32, 3), (35, .iload_n 1, 1), (36, .aaload, 1), (37, .invokevirtual 100, 3), (40, .invokevirtual 94, 3), (43, .aload_n 3, 1), (44, .invokevirtual 97, 3), (47, .ifCond .ne 5, 3), (50, .iconst 0, 1), (51, .ireturn, 1), (52, .aload_n 3, 1), (53, .invokevirtual 74, 3), (56, .pop, 1), (57, .iconst 1, 1), (58, .ireturn, 1)]
def xi_81 : List (Nat × Instr × Nat) := [(0, .iload_n 1, 1), (1, .invokestatic 67, 3), (4, .aload_n 0, 1), (5, .iload_n 2, 1), (6, .invokevirtual 63, 3), (9, .aload_n 0, 1), (10, .getfield 32, 3), (13, .iload_n 1, 1), (14, .aaload, 1), (15, .invokevirtual 103, 3), (18, .astore_n 3, 1), (19, .aload_n 3, 1), (20, .iload_n 2, 1), (21, .invokevirtual 107, 3), (24, .ifCond .ne 5, 3), (27, .iconst (-1), 1), (28, .ireturn, 1), (29, .aload_n 0, 1), (30, .getfield 26, 3), (33, .iload_n 2, 1), (34, .iload_n 1, 1), (35, .aload_n 3, 1), (36, .iload_n 2, 1), (37, .invokevirtual 112, 3), (40, .invokevirtual 116, 3), (43, .aload_n 0, 1), (44, .getfield 26, 3), (47, .iload_n 2, 1), (48, .invokevirtual 120, 3), (51, .ifCond .eq 7, 3), (54, .iconst 1, 1), (55, .goto 4, 3), (58, .iconst 0, 1), (59, .ireturn, 1)]
def xi_82 : List (Nat × Instr × Nat) := [(0, .iload_n 1, 1), (1, .invokestatic 67, 3), (4, .iconst 0, 1), (5, .istore_n 2, 1), (6, .iload_n 2, 1), (7, .iconst 3, 1), (8, .if_icmp .ge 28, 3), (11, .iload_n 2, 1), (12, .iload_n 1, 1), (13, .if_icmp .eq 17, 3), (16, .aload_n 0, 1), (17, .getfield 32, 3), (20, .iload_n 2, 1), (21, .aaload, 1), (22, .invokevirtual 85, 3), (25, .ifCond .eq 5, 3), (28, .iconst 0, 1), (29, .ireturn, 1), (30, .iinc 2 1, 3), (33, .goto (-27), 3), (36, .aload_n 0, 1), (37, .getfield 32, 3), (40, .iload_n 1, 1), (41, .aaload, 1), (42, .invokevirtual 123, 3), (45, .iconst 1, 1), (46, .ireturn, 1)]
def xi_83 : List (Nat × Instr × Nat) := [(0, .iload_n 1, 1), (1, .invokestatic 67, 3), (4, .aload_n 0, 1), (5, .iload_n 1, 1), (6, .invokevirtual 126, 3), (9, .iload_n 2, 1), (10, .ifCond .lt 8, 3), (13, .iload_n 2, 1), (14, .iconst 3, 1), (15, .if_icmp .le 13, 3), (18, .new 39, 3), (21, .dup, 1), (22, .ldc 46, 2), (24, .invokespecial 43, 3), (27, .athrow, 1), (28, .iload_n 3, 1), (29, .invokestatic 129, 3), (32, .aload_n 0, 1), (33, .iload_n 2, 1), (34, .iload 4, 2), (36, .invokevirtual 132, 3), (39, .ifCond .ne 13, 3), (42, .new 39, 3), (45, .dup, 1), (46, .ldc 136, 2), (48, .invokespecial 43, 3), (51, .athrow, 1), (52, .iload_n 2, 1), (53, .iconst 3, 1), (54, .if_icmp .ne 16, 3), (57, .aload_n 0, 1), (58, .iconst 3, 1), (59, .iload 5, 2), (61, .invokevirtual 132, 3), (64, .ifCond .ne 21, 3), (67, .goto 8, 3), (70, .iload 5, 2), (72, .ifCond .eq 13, 3), (75, .new 39, 3), (78, .dup, 1), (79, .ldc 138, 2), (81, .invokespecial 43, 3), (84, .athrow, 1), (85, .aload_n 0, 1), (86, .getfield 19, 3), (89, .iload_n 1, 1), (90, .iload_n 2, 1), (91, .iload_n 3, 1), (92, .iload 4, 2), (94, .iload 5, 2), (96, .invokevirtual 140, 3), (99, .ireturn, 1)]
def xi_84 : List (Nat × Instr × Nat) := [(0, .iload_n 1, 1), (1, .invokestatic 67, 3), (4, .aload_n 0, 1), (5, .iload_n 1, 1), (6, .invokevirtual 126, 3), (9, .iload_n 2, 1), (10, .invokestatic 129, 3), (13, .aload_n 0, 1), (14, .getfield 32, 3), (17, .iload_n 1, 1), (18, .aaload, 1), (19, .iload_n 2, 1), (20, .invokevirtual 144, 3), (23, .return_, 1)]
def xi_85 : List (Nat × Instr × Nat) := [(0, .iload_n 1, 1), (1, .invokestatic 67, 3), (4, .aload_n 0, 1), (5, .iload_n 2, 1), (6, .invokevirtual 63, 3), (9, .aload_n 0, 1), (10, .iload_n 1, 1), (11, .invokevirtual 126, 3), (14, .aload_n 0, 1), (15, .getfield 32, 3), (18, .iload_n 1, 1), (19, .aaload, 1), (20, .invokevirtual 103, 3), (23, .iload_n 2, 1), (24, .iload_n 3, 1), (25, .invokevirtual 147, 3), (28, .return_, 1)]
def xi_86 : List (Nat × Instr × Nat) := [(0, .iload_n 1, 1), (1, .invokestatic 67, 3), (4, .aload_n 0, 1), (5, .getfield 32, 3), (8, .iload_n 1, 1), (9, .aaload, 1), (10, .astore_n 3, 1), (11, .iload_n 2, 1), (12, .tableswitch 142 0 12 #[68, 73, 86, 95, 103, 116, 121, 121, 121, 130, 130, 130, 130], 68), (80, .aload_n 3, 1), (81, .invokevirtual 91, 3), (84, .ireturn, 1), (85, .aload_n 3, 1), (86, .invokevirtual 150, 3), (89, .ifCond .eq 7, 3), (92, .iconst 1, 1), (93, .goto 4, 3), (96, .iconst 0, 1), (97, .ireturn, 1), (98, .aload_n 0, 1), (99, .getfield 19, 3), (102, .iload_n 1, 1), (103, .invokevirtual 153, 3), (106, .ireturn, 1), (107, .aload_n 3, 1), (108, .invokevirtual 103, 3), (111, .invokevirtual 156, 3), (114, .ireturn, 1), (115, .aload_n 3, 1), (116, .invokevirtual 85, 3), (119, .ifCond .eq 7, 3), (122, .iconst 1, 1), (123, .goto 4, 3), (126, .iconst 0, 1), (127, .ireturn, 1), (128, .aload_n 3, 1), (129, .invokevirtual 100, 3), (132, .ireturn, 1), (133, .aload_n 3, 1), (134, .iload_n 2, 1), (135, .bipush 6, 2), (137, .isub, 1), (138, .invokevirtual 159, 3), (141, .ireturn, 1), (142, .aload_n 3, 1), (143, .invokevirtual 103, 3), (146, .iload_n 2, 1), (147, .bipush 9, 2), (149, .isub, 1), (150, .invokevirtual 162, 3), (153, .ireturn, 1), (154, .new 39, 3), (157, .dup, 1), (158, .ldc 165, 2), (160, .invokespecial 43, 3), (163, .athrow, 1)]
def xi_87 : List (Nat × Instr × Nat) := [(0, .iload_n 1, 1), (1, .invokestatic 67, 3), (4, .aload_n 0, 1), (5, .getfield 32, 3), (8, .iload_n 1, 1), (9, .aaload, 1), (10, .invokevirtual 103, 3), (13, .iload_n 2, 1), (14, .invokevirtual 167, 3), (17, .ireturn, 1)]
def xi_88 : List (Nat × Instr × Nat) := [(0, .aload_n 0, 1), (1, .iload_n 1, 1), (2, .iload_n 2, 1), (3, .invokevirtual 78, 3), (6, .iload_n 3, 1), (7, .ifCond .lt 8, 3), (10, .iload_n 3, 1), (11, .iconst 4, 1), (12, .if_icmp .le 13, 3), (15, .new 39, 3), (18, .dup, 1), (19, .ldc 170, 2), (21, .invokespecial 43, 3), (24, .athrow, 1), (25, .aload_n 0, 1), (26, .getfield 19, 3), (29, .iload_n 1, 1), (30, .iload_n 2, 1), (31, .iload_n 3, 1), (32, .invokevirtual 172, 3), (35, .ireturn, 1)]
def xi_89 : List (Nat × Instr × Nat) := [(0, .iload_n 1, 1), (1, .invokestatic 129, 3), (4, .aload_n 0, 1), (5, .getfield 19, 3), (8, .iload_n 1, 1), (9, .invokevirtual 176, 3), (12, .astore_n 3, 1), (13, .iload_n 2, 1), (14, .ifCond .lt 15, 3), (17, .iload_n 2, 1), (18, .aload_n 3, 1), (19, .arraylength, 1), (20, .if_icmp .ge 9, 3), (23, .aload_n 3, 1), (24, .iload_n 2, 1), (25, .iaload, 1), (26, .goto 4, 3), (29, .iconst (-1), 1), (30, .ireturn, 1)]
def xi_90 : List (Nat × Instr × Nat) := [(0, .aload_n 0, 1), (1, .iload_n 1, 1), (2, .invokevirtual 63, 3), (5, .iload_n 2, 1), (6, .tableswitch 74 0 3 #[30, 39, 48, 65], 30), (36, .aload_n 0, 1), (37, .getfield 12, 3), (40, .iload_n 1, 1), (41, .invokevirtual 180, 3), (44, .ireturn, 1), (45, .aload_n 0, 1), (46, .getfield 12, 3), (49, .iload_n 1, 1), (50, .invokevirtual 183, 3), (53, .ireturn, 1), (54, .aload_n 0, 1), (55, .getfield 26, 3), (58, .iload_n 1, 1), (59, .invokevirtual 120, 3), (62, .ifCond .eq 7, 3), (65, .iconst 1, 1), (66, .goto 4, 3), (69, .iconst 0, 1), (70, .ireturn, 1), (71, .aload_n 0, 1), (72, .getfield 26, 3), (75, .iload_n 1, 1), (76, .invokevirtual 186, 3), (79, .ireturn, 1), (80, .new 39, 3), (83, .dup, 1), (84, .ldc 189, 2), (86, .invokespecial 43, 3), (89, .athrow, 1)]
def xi_91 : List (Nat × Instr × Nat) := [(0, .iload_n 1, 1), (1, .invokestatic 67, 3), (4, .aload_n 0, 1), (5, .iload_n 2, 1), (6, .invokevirtual 63, 3), (9, .aload_n 0, 1), (10, .getfield 32, 3), (13, .iload_n 1, 1), (14, .aaload, 1), (15, .invokevirtual 103, 3), (18, .iload_n 2, 1), (19, .invokevirtual 112, 3), (22, .ireturn, 1)]
def xi_92 : List (Nat × Instr × Nat) := [(0, .iload_n 0, 1), (1, .ifCond .lt 8, 3), (4, .iload_n 0, 1), (5, .iconst 3, 1), (6, .if_icmp .lt 13, 3), (9, .new 191, 3), (12, .dup, 1), (13, .ldc 193, 2), (15, .invokespecial 195, 3), (18, .athrow, 1), (19, .return_, 1)]
def xi_93 : List (Nat × Instr × Nat) := [(0, .aload_n 0, 1), (1, .getfield 12, 3), (4, .iload_n 1, 1), (5, .invokevirtual 196, 3), (8, .ifCond .ne 13, 3), (11, .new 191, 3), (14, .dup, 1), (15, .ldc 199, 2), (17, .invokespecial 195, 3), (20, .athrow, 1), (21, .return_, 1)]
def xi_94 : List (Nat × Instr × Nat) := [(0, .iload_n 1, 1), (1, .invokestatic 67, 3), (4, .aload_n 0, 1), (5, .getfield 19, 3), (8, .iload_n 1, 1), (9, .iload_n 2, 1), (10, .invokevirtual 201, 3), (13, .ifCond .ne 13, 3), (16, .new 191, 3), (19, .dup, 1), (20, .ldc 203, 2), (22, .invokespecial 195, 3), (25, .athrow, 1), (26, .return_, 1)]
def xi_95 : List (Nat × Instr × Nat) := [(0, .iload_n 0, 1), (1, .iload_n 1, 1), (2, .if_icmp .ne 13, 3), (5, .new 39, 3), (8, .dup, 1), (9, .ldc 205, 2), (11, .invokespecial 43, 3), (14, .athrow, 1), (15, .return_, 1)]
def xi_96 : List (Nat × Instr × Nat) := [(0, .iload_n 0, 1), (1, .ifCond .lt 9, 3), (4, .iload_n 0, 1), (5, .bipush 31, 2), (7, .if_icmp .lt 13, 3), (10, .new 39, 3), (13, .dup, 1), (14, .ldc 207, 2), (16, .invokespecial 43, 3), (19, .athrow, 1), (20, .return_, 1)]
def xi_97 : List (Nat × Instr × Nat) := [(0, .aload_n 0, 1), (1, .getfield 32, 3), (4, .iload_n 1, 1), (5, .aaload, 1), (6, .invokevirtual 85, 3), (9, .ifCond .ne 13, 3), (12, .new 54, 3), (15, .dup, 1), (16, .ldc 209, 2), (18, .invokespecial 58, 3), (21, .athrow, 1), (22, .return_, 1)]
def xi_98 : List (Nat × Instr × Nat) := [(0, .iload_n 1, 1), (1, .tableswitch 63 0 2 #[27, 36, 53], 27), (28, .aload_n 0, 1), (29, .getfield 12, 3), (32, .iload_n 2, 1), (33, .invokevirtual 196, 3), (36, .ireturn, 1), (37, .iload_n 2, 1), (38, .ifCond .lt 14, 3), (41, .iload_n 2, 1), (42, .sipush 200, 3), (45, .if_icmp .gt 7, 3), (48, .iconst 1, 1), (49, .goto 4, 3), (52, .iconst 0, 1), (53, .ireturn, 1), (54, .iload_n 2, 1), (55, .ifCond .ne 7, 3), (58, .iconst 1, 1), (59, .goto 4, 3), (62, .iconst 0, 1), (63, .ireturn, 1), (64, .iload_n 2, 1), (65, .ifCond .lt 14, 3), (68, .iload_n 2, 1), (69, .sipush 600, 3), (72, .if_icmp .gt 7, 3), (75, .iconst 1, 1), (76, .goto 4, 3), (79, .iconst 0, 1), (80, .ireturn, 1)]
def xi_99 : List (Nat × Instr × Nat) := [(0, .iload_n 0, 1), (1, .iconst 3, 1), (2, .irem, 1), (3, .ireturn, 1)]
def xi_100 : List (Nat × Instr × Nat) := [(0, .iload_n 1, 1), (1, .iconst 3, 1), (2, .imul, 1), (3, .iload_n 0, 1), (4, .iadd, 1), (5, .ireturn, 1)]
def xi_101 : List (Nat × Instr × Nat) := [(0, .iload_n 0, 1), (1, .iconst 3, 1), (2, .irem, 1), (3, .ireturn, 1)]
def xi_102 : List (Nat × Instr × Nat) := [(0, .iload_n 0, 1), (1, .iconst 3, 1), (2, .idiv, 1), (3, .ireturn, 1)]
def xi_103 : List (Nat × Instr × Nat) := [(0, .aload_n 0, 1), (1, .invokespecial 1, 3), (4, .aload_n 0, 1), (5, .bipush 60, 2), (7, .newarray .int, 2), (9, .putfield 9, 3), (12, .aload_n 0, 1), (13, .bipush 60, 2), (15, .newarray .int, 2), (17, .putfield 13, 3), (20, .aload_n 0, 1), (21, .bipush 60, 2), (23, .newarray .int, 2), (25, .putfield 16, 3), (28, .aload_n 0, 1), (29, .bipush 60, 2), (31, .newarray .int, 2), (33, .putfield 19, 3), (36, .aload_n 0, 1), (37, .bipush 60, 2), (39, .newarray .int, 2), (41, .putfield 22, 3), (44, .aload_n 0, 1), (45, .bipush 60, 2), (47, .newarray .boolean, 2), (49, .putfield 25, 3), (52, .aload_n 0, 1), (53, .bipush 60, 2), (55, .newarray .int, 2), (57, .putfield 29, 3), (60, .aload_n 0, 1), (61, .sipush 303, 3), (64, .newarray .int, 2), (66, .putfield 32, 3), (69, .aload_n 0, 1), (70, .sipush 303, 3), (73, .newarray .int, 2), (75, .putfield 35, 3), (78, .aload_n 0, 1), (79, .sipush 303, 3), (82, .newarray .int, 2), (84, .putfield 38, 3), (87, .aload_n 0, 1), (88, .sipush 303, 3), (91, .newarray .int, 2), (93, .putfield 41, 3), (96, .aload_n 0, 1), (97, .sipush 303, 3), (100, .newarray .int, 2), (102, .putfield 44, 3), (105, .aload_n 0, 1), (106, .iconst 3, 1), (107, .newarray .int, 2), (109, .putfield 47, 3), (112, .aload_n 0, 1), (113, .sipush 400, 3), (116, .newarray .int, 2), (118, .putfield 50, 3), (121, .aload_n 0, 1), (122, .bipush 31, 2), (124, .newarray .int, 2), (126, .putfield 53, 3), (129, .aload_n 0, 1), (130, .iconst 3, 1), (131, .newarray .int, 2), (133, .putfield 56, 3), (136, .aload_n 0, 1), (137, .iconst 3, 1), (138, .newarray .boolean, 2), (140, .putfield 59, 3), (143, .aload_n 0, 1), (144, .iconst 3, 1), (145, .newarray .boolean, 2), (147, .putfield 62, 3), (150, .aload_n 0, 1), (151, .bipush 12, 2), (153, .newarray .int, 2), (155, .putfield 65, 3), (158, .aload_n 0, 1), (159, .sipush 1200, 3), (162, .newarray .int, 2), (164, .putfield 68, 3), (167, .aload_n 0, 1), (168, .iconst 3, 1), (169, .newarray .int, 2), (171, .putfield 71, 3), (174, .aload_n 0, 1), (175, .bipush 12, 2), (177, .newarray .int, 2), (179, .putfield 74, 3), (182, .aload_n 0, 1), (183, .sipush 180, 3), (186, .newarray .boolean, 2), (188, .putfield 77, 3), (191, .aload_n 0, 1), (192, .sipush 180, 3), (195, .newarray .int, 2), (197, .putfield 80, 3), (200, .aload_n 0, 1), (201, .sipush 180, 3), (204, .newarray .boolean, 2), (206, .putfield 83, 3), (209, .aload_n 0, 1), (210, .sipush 180, 3), (213, .newarray .int, 2), (215, .putfield 86, 3), (218, .aload_n 0, 1), (219, .sipush 909, 3), (222, .newarray .boolean, 2), (224, .putfield 89, 3), (227, .aload_n 0, 1), (228, .bipush 9, 2), (230, .newarray .int, 2), (232, .putfield 92, 3), (235, .aload_n 0, 1), (236, .bipush 9, 2), (238, .newarray .int, 2), (240, .putfield 95, 3), (243, .aload_n 0, 1), (244, .sipush 300, 3), (247, .newarray .int, 2), (249, .putfield 98, 3), (252, .aload_n 0, 1), (253, .iconst 3, 1), (254, .newarray .int, 2), (256, .putfield 101, 3), (259, .aload_n 0, 1), (260, .iconst 3, 1), (261, .newarray .int, 2), (263, .putfield 104, 3), (266, .aload_n 0, 1), (267, .iconst 3, 1), (268, .newarray .boolean, 2), (270, .putfield 107, 3), (273, .aload_n 0, 1), (274, .sipush 303, 3), (277, .newarray .boolean, 2), (279, .putfield 110, 3), (282, .aload_n 0, 1), (283, .sipush 279, 3), (286, .newarray .int, 2), (288, .putfield 113, 3), (291, .aload_n 0, 1), (292, .sipush 279, 3), (295, .newarray .int, 2), (297, .putfield 116, 3), (300, .iconst 0, 1), (301, .istore_n 1, 1), (302, .iload_n 1, 1), (303, .iconst 3, 1), (304, .if_icmp .ge 51, 3), (307, .aload_n 0, 1), (308, .getfield 59, 3), (311, .iload_n 1, 1), (312, .iconst 1, 1), (313, .bastore, 1), (314, .iconst 0, 1), (315, .istore_n 2, 1), (316, .iload_n 2, 1), (317, .iconst 3, 1), (318, .if_icmp .ge 31, 3), (321, .aload_n 0, 1), (322, .getfield 92, 3), (325, .iconst 3, 1), (326, .iload_n 1, 1), (327, .imul, 1), (328, .iload_n 2, 1), (329, .iadd, 1), (330, .iconst 1, 1), (331, .iastore, 1), (332, .aload_n 0, 1), (333, .getfield 95, 3), (336, .iconst 3, 1), (337, .iload_n 1, 1), (338, .imul, 1), (339, .iload_n 2, 1), (340, .iadd, 1), (341, .iconst (-1), 1), (342, .iastore, 1), (343, .iinc 2 1, 3), (346, .goto (-30), 3), (349, .iinc 1 1, 3), (352, .goto (-50), 3), (355, .return_, 1)]
def xi_104 : List (Nat × Instr × Nat) := [(0, .aload_n 0, 1), (1, .getfield 119, 3), (4, .ireturn, 1)]
def xi_105 : List (Nat × Instr × Nat) := [(0, .aload_n 0, 1), (1, .iload_n 1, 1), (2, .ifCond .lt 26, 3), (5, .iload_n 1, 1), (6, .iconst 3, 1), (7, .if_icmp .gt 21, 3), (10, .iload_n 2, 1), (11, .ifCond .lt 17, 3), (14, .iload_n 2, 1), (15, .iconst 2, 1), (16, .if_icmp .gt 12, 3), (19, .iload_n 3, 1), (20, .ifCond .lt 8, 3), (23, .iload_n 3, 1), (24, .iconst 3, 1), (25, .if_icmp .le 7, 3), (28, .iconst 1, 1), (29, .goto 17, 3), (32, .aload_n 0, 1), (33, .getfield 123, 3), (36, .bipush 60, 2), (38, .if_icmp .ne 7, 3), (41, .iconst 2, 1), (42, .goto 4, 3), (45, .iconst 0, 1), (46, .putfield 119, 3), (49, .aload_n 0, 1), (50, .getfield 119, 3), (53, .ifCond .le 5, 3), (56, .iconst 0, 1), (57, .ireturn, 1), (58, .iconst 1, 1), (59, .istore 5, 2), (61, .iconst 0, 1), (62, .istore 6, 2), (64, .iload 6, 2), (66, .aload_n 0, 1), (67, .getfield 123, 3), (70, .if_icmp .ge 30, 3), (73, .iload 5, 2), (75, .aload_n 0, 1), (76, .getfield 9, 3), (79, .iload 6, 2), (81, .iaload, 1), (82, .iload_n 1, 1), (83, .if_icmp .ne 7, 3), (86, .iconst 1, 1), (87, .goto 4, 3), (90, .iconst 0, 1), (91, .iadd, 1), (92, .istore 5, 2), (94, .iinc 6 1, 3), (97, .goto (-33), 3), (100, .aload_n 0, 1), (101, .getfield 9, 3), (104, .aload_n 0, 1), (105, .getfield 123, 3), (108, .iload_n 1, 1), (109, .iastore, 1), (110, .aload_n 0, 1), (111, .getfield 13, 3), (114, .aload_n 0, 1), (115, .getfield 123, 3), (118, .iload 5, 2), (120, .iastore, 1), (121, .aload_n 0, 1), (122, .getfield 16, 3), (125, .aload_n 0, 1), (126, .getfield 123, 3), (129, .iload_n 2, 1), (130, .iastore, 1), (131, .aload_n 0, 1), (132, .getfield 19, 3), (135, .aload_n 0, 1), (136, .getfield 123, 3), (139, .iload_n 3, 1), (140, .iastore, 1), (141, .aload_n 0, 1), (142, .getfield 22, 3), (145, .aload_n 0, 1), (146, .getfield 123, 3), (149, .iload 4, 2), (151, .iastore, 1), (152, .aload_n 0, 1), (153, .dup, 1), (154, .getfield 123, 3), (157, .iconst 1, 1), (158, .iadd, 1), (159, .putfield 123, 3), (162, .aload_n 0, 1), (163, .getfield 123, 3), (166, .iconst 1, 1), (167, .isub, 1), (168, .ireturn, 1)]
def xi_106 : List (Nat × Instr × Nat) := [(0, .bipush 101, 2), (2, .iload_n 0, 1), (3, .imul, 1), (4, .iload_n 1, 1), (5, .iadd, 1), (6, .ireturn, 1)]
def xi_107 : List (Nat × Instr × Nat) := [(0, .iload_n 2, 1), (1, .iconst 1, 1), (2, .if_icmp .lt 17, 3), (5, .iload_n 2, 1), (6, .aload_n 0, 1), (7, .getfield 47, 3), (10, .iload_n 1, 1), (11, .iaload, 1), (12, .if_icmp .gt 7, 3), (15, .iconst 1, 1), (16, .goto 4, 3), (19, .iconst 0, 1), (20, .ireturn, 1)]
def xi_108 : List (Nat × Instr × Nat) := [(0, .iconst 0, 1), (1, .istore 4, 2), (3, .iconst 1, 1), (4, .istore 5, 2), (6, .iload 5, 2), (8, .iload_n 3, 1), (9, .if_icmp .ge 51, 3), (12, .iload 4, 2), (14, .ifCond .ne 33, 3), (17, .aload_n 0, 1), (18, .getfield 32, 3), (21, .iload_n 1, 1), (22, .iload 5, 2), (24, .invokestatic 126, 3), (27, .iaload, 1), (28, .iconst 2, 1), (29, .if_icmp .ne 22, 3), (32, .aload_n 0, 1), (33, .getfield 35, 3), (36, .iload_n 1, 1), (37, .iload 5, 2), (39, .invokestatic 126, 3), (42, .iaload, 1), (43, .iload_n 2, 1), (44, .if_icmp .le 7, 3), (47, .iconst 1, 1), (48, .goto 4, 3), (51, .iconst 0, 1), (52, .istore 4, 2), (54, .iinc 5 1, 3), (57, .goto (-51), 3), (60, .iload 4, 2), (62, .ireturn, 1)]
def xi_109 : List (Nat × Instr × Nat) := [(0, .iload_n 1, 1), (1, .iconst 3, 1), (2, .irem, 1), (3, .istore 4, 2), (5, .iload_n 1, 1), (6, .iconst 3, 1), (7, .idiv, 1), (8, .istore 5, 2), (10, .aload_n 0, 1), (11, .iload 4, 2), (13, .iload 5, 2), (15, .invokevirtual 130, 3), (18, .ifCond .eq 55, 3), (21, .aload_n 0, 1), (22, .getfield 32, 3), (25, .iload 4, 2), (27, .iload 5, 2), (29, .invokestatic 126, 3), (32, .iaload, 1), (33, .iconst 2, 1), (34, .if_icmp .ne 39, 3), (37, .aload_n 0, 1), (38, .getfield 35, 3), (41, .iload 4, 2), (43, .iload 5, 2), (45, .invokestatic 126, 3), (48, .iaload, 1), (49, .iload_n 2, 1), (50, .if_icmp .ne 23, 3), (53, .aload_n 0, 1), (54, .getfield 44, 3), (57, .iload 4, 2), (59, .iload 5, 2), (61, .invokestatic 126, 3), (64, .iaload, 1), (65, .iload_n 3, 1), (66, .if_icmp .ge 7, 3), (69, .iconst 1, 1), (70, .goto 4, 3), (73, .iconst 0, 1), (74, .ireturn, 1)]
def xi_110 : List (Nat × Instr × Nat) := [(0, .iload_n 1, 1), (1, .iload_n 2, 1), (2, .invokestatic 126, 3), (5, .istore_n 3, 1), (6, .aload_n 0, 1), (7, .getfield 35, 3), (10, .iload_n 3, 1), (11, .iaload, 1), (12, .istore 4, 2), (14, .iload 4, 2), (16, .iconst 3, 1), (17, .irem, 1), (18, .iload_n 1, 1), (19, .if_icmp .ne 80, 3), (22, .iload 4, 2), (24, .ifCond .eq 75, 3), (27, .aload_n 0, 1), (28, .getfield 38, 3), (31, .iload_n 3, 1), (32, .iaload, 1), (33, .iconst 3, 1), (34, .irem, 1), (35, .aload_n 0, 1), (36, .getfield 41, 3), (39, .iload_n 3, 1), (40, .iaload, 1), (41, .iconst 3, 1), (42, .irem, 1), (43, .if_icmp .eq 56, 3), (46, .aload_n 0, 1), (47, .aload_n 0, 1), (48, .getfield 38, 3), (51, .iload_n 3, 1), (52, .iaload, 1), (53, .iload 4, 2), (55, .aload_n 0, 1), (56, .getfield 44, 3), (59, .iload_n 3, 1), (60, .iaload, 1), (61, .invokevirtual 134, 3), (64, .ifCond .eq 35, 3), (67, .aload_n 0, 1), (68, .aload_n 0, 1), (69, .getfield 41, 3), (72, .iload_n 3, 1), (73, .iaload, 1), (74, .iload 4, 2), (76, .aload_n 0, 1), (77, .getfield 44, 3), (80, .iload_n 3, 1), (81, .iaload, 1), (82, .invokevirtual 134, 3), (85, .ifCond .eq 14, 3), (88, .aload_n 0, 1), (89, .iload_n 1, 1), (90, .iload 4, 2), (92, .iload_n 2, 1), (93, .invokevirtual 138, 3), (96, .ifCond .eq 7, 3), (99, .iconst 1, 1), (100, .goto 4, 3), (103, .iconst 0, 1), (104, .ireturn, 1)]
def xi_111 : List (Nat × Instr × Nat) := [(0, .iload_n 1, 1), (1, .iconst 3, 1), (2, .irem, 1), (3, .istore_n 2, 1), (4, .iload_n 1, 1), (5, .ifCond .ne 5, 3), (8, .iconst 0, 1), (9, .ireturn, 1), (10, .iconst 1, 1), (11, .istore_n 3, 1), (12, .iload_n 3, 1), (13, .aload_n 0, 1), (14, .getfield 47, 3), (17, .iload_n 2, 1), (18, .iaload, 1), (19, .if_icmp .gt 48, 3), (22, .aload_n 0, 1), (23, .getfield 32, 3), (26, .iload_n 2, 1), (27, .iload_n 3, 1), (28, .invokestatic 126, 3), (31, .iaload, 1), (32, .iconst 3, 1), (33, .if_icmp .ne 28, 3), (36, .aload_n 0, 1), (37, .getfield 35, 3), (40, .iload_n 2, 1), (41, .iload_n 3, 1), (42, .invokestatic 126, 3), (45, .iaload, 1), (46, .iload_n 1, 1), (47, .if_icmp .ne 14, 3), (50, .aload_n 0, 1), (51, .iload_n 2, 1), (52, .iload_n 3, 1), (53, .invokevirtual 141, 3), (56, .ifCond .ne 5, 3), (59, .iload_n 3, 1), (60, .ireturn, 1), (61, .iinc 3 1, 3), (64, .goto (-52), 3), (67, .iconst 0, 1), (68, .ireturn, 1)]
def xi_112 : List (Nat × Instr × Nat) := [(0, .aload_n 0, 1), (1, .getfield 35, 3), (4, .iload_n 1, 1), (5, .iload_n 2, 1), (6, .invokestatic 126, 3), (9, .iaload, 1), (10, .istore_n 3, 1), (11, .aload_n 0, 1), (12, .iload_n 3, 1), (13, .invokevirtual 144, 3), (16, .istore 4, 2), (18, .iload_n 3, 1), (19, .iconst 3, 1), (20, .irem, 1), (21, .iload_n 1, 1), (22, .if_icmp .ne 28, 3), (25, .iload_n 3, 1), (26, .ifCond .le 14, 3), (29, .iload 4, 2), (31, .ifCond .eq 19, 3), (34, .iload 4, 2), (36, .iload_n 2, 1), (37, .if_icmp .gt 13, 3), (40, .aload_n 0, 1), (41, .iload_n 1, 1), (42, .iload_n 3, 1), (43, .iload_n 2, 1), (44, .invokevirtual 138, 3), (47, .ifCond .eq 7, 3), (50, .iconst 1, 1), (51, .goto 4, 3), (54, .iconst 0, 1), (55, .ireturn, 1)]
def xi_113 : List (Nat × Instr × Nat) := [(0, .iload_n 1, 1), (1, .iload_n 2, 1), (2, .invokestatic 126, 3), (5, .istore_n 3, 1), (6, .aload_n 0, 1), (7, .getfield 35, 3), (10, .iload_n 3, 1), (11, .iaload, 1), (12, .istore 4, 2), (14, .iload 4, 2), (16, .iconst 3, 1), (17, .irem, 1), (18, .istore 5, 2), (20, .iload_n 1, 1), (21, .iload 5, 2), (23, .if_icmp .eq 54, 3), (26, .aload_n 0, 1), (27, .iload_n 1, 1), (28, .iload 4, 2), (30, .iload_n 2, 1), (31, .invokevirtual 138, 3), (34, .ifCond .ne 43, 3), (37, .aload_n 0, 1), (38, .iload 5, 2), (40, .aload_n 0, 1), (41, .getfield 38, 3), (44, .iload_n 3, 1), (45, .iaload, 1), (46, .invokevirtual 130, 3), (49, .ifCond .eq 28, 3), (52, .aload_n 0, 1), (53, .getfield 44, 3), (56, .iload 5, 2), (58, .aload_n 0, 1), (59, .getfield 38, 3), (62, .iload_n 3, 1), (63, .iaload, 1), (64, .invokestatic 126, 3), (67, .iaload, 1), (68, .aload_n 0, 1), (69, .getfield 44, 3), (72, .iload_n 3, 1), (73, .iaload, 1), (74, .if_icmp .le 5, 3), (77, .iconst 1, 1), (78, .ireturn, 1), (79, .iload 5, 2), (81, .aload_n 0, 1), (82, .getfield 38, 3), (85, .iload_n 3, 1), (86, .iaload, 1), (87, .invokestatic 126, 3), (90, .istore 6, 2), (92, .aload_n 0, 1), (93, .getfield 32, 3), (96, .iload 6, 2), (98, .iaload, 1), (99, .ifCond .ne 34, 3), (102, .aload_n 0, 1), (103, .getfield 35, 3), (106, .iload 6, 2), (108, .iaload, 1), (109, .iload 4, 2), (111, .if_icmp .ne 22, 3), (114, .aload_n 0, 1), (115, .iload 5, 2), (117, .aload_n 0, 1), (118, .getfield 38, 3), (121, .iload_n 3, 1), (122, .iaload, 1), (123, .invokevirtual 148, 3), (126, .ifCond .ne 7, 3), (129, .iconst 1, 1), (130, .goto 4, 3), (133, .iconst 0, 1), (134, .istore 7, 2), (136, .iload 7, 2), (138, .ifCond .ne 27, 3), (141, .iload 4, 2), (143, .ifCond .eq 18, 3), (146, .aload_n 0, 1), (147, .iload 4, 2), (149, .invokevirtual 144, 3), (152, .aload_n 0, 1), (153, .getfield 38, 3), (156, .iload_n 3, 1), (157, .iaload, 1), (158, .if_icmp .eq 7, 3), (161, .iconst 1, 1), (162, .goto 4, 3), (165, .iconst 0, 1), (166, .ireturn, 1)]
def xi_114 : List (Nat × Instr × Nat) := [(0, .aload_n 0, 1), (1, .getfield 32, 3), (4, .iload_n 1, 1), (5, .iload_n 2, 1), (6, .invokestatic 126, 3), (9, .iaload, 1), (10, .tableswitch 51 0 3 #[30, 37, 51, 44], 30), (40, .aload_n 0, 1), (41, .iload_n 1, 1), (42, .iload_n 2, 1), (43, .invokevirtual 148, 3), (46, .ireturn, 1), (47, .aload_n 0, 1), (48, .iload_n 1, 1), (49, .iload_n 2, 1), (50, .invokevirtual 151, 3), (53, .ireturn, 1), (54, .aload_n 0, 1), (55, .iload_n 1, 1), (56, .iload_n 2, 1), (57, .invokevirtual 141, 3), (60, .ireturn, 1), (61, .iconst 0, 1), (62, .ireturn, 1)]
def xi_115 : List (Nat × Instr × Nat) := [(0, .iconst 0, 1), (1, .istore 4, 2), (3, .iconst 1, 1), (4, .istore 5, 2), (6, .iload 5, 2), (8, .iload_n 3, 1), (9, .if_icmp .ge 123, 3), (12, .iload 5, 2), (14, .aload_n 0, 1), (15, .getfield 47, 3), (18, .iload_n 1, 1), (19, .iaload, 1), (20, .if_icmp .gt 112, 3), (23, .iload_n 1, 1), (24, .iload 5, 2), (26, .invokestatic 126, 3), (29, .istore 6, 2), (31, .aload_n 0, 1), (32, .getfield 35, 3), (35, .iload 6, 2), (37, .iaload, 1), (38, .iload_n 2, 1), (39, .if_icmp .eq 6, 3), (42, .goto 84, 3), (45, .aload_n 0, 1), (46, .getfield 32, 3), (49, .iload 6, 2), (51, .iaload, 1), (52, .iconst 3, 1), (53, .if_icmp .ne 28, 3), (56, .aload_n 0, 1), (57, .iload_n 2, 1), (58, .invokevirtual 144, 3), (61, .iload 5, 2), (63, .if_icmp .ne 14, 3), (66, .iload_n 2, 1), (67, .iconst 3, 1), (68, .irem, 1), (69, .iload_n 1, 1), (70, .if_icmp .ne 7, 3), (73, .iconst 1, 1), (74, .goto 33, 3), (77, .iconst 0, 1), (78, .goto 29, 3), (81, .aload_n 0, 1), (82, .getfield 32, 3), (85, .iload 6, 2), (87, .iaload, 1), (88, .iconst 2, 1), (89, .if_icmp .eq 17, 3), (92, .aload_n 0, 1), (93, .iload_n 1, 1), (94, .iload 5, 2), (96, .invokevirtual 154, 3), (99, .ifCond .ne 7, 3), (102, .iconst 1, 1), (103, .goto 4, 3), (106, .iconst 0, 1), (107, .istore 7, 2), (109, .iload 4, 2), (111, .ifCond .ne 8, 3), (114, .iload 7, 2), (116, .ifCond .eq 7, 3), (119, .iconst 1, 1), (120, .goto 4, 3), (123, .iconst 0, 1), (124, .istore 4, 2), (126, .iinc 5 1, 3), (129, .goto (-123), 3), (132, .iload 4, 2), (134, .ireturn, 1)]
def xi_116 : List (Nat × Instr × Nat) := [(0, .iconst 0, 1), (1, .istore 5, 2), (3, .iconst 1, 1), (4, .istore 6, 2), (6, .iload 6, 2), (8, .iload 4, 2), (10, .if_icmp .ge 87, 3), (13, .iload 6, 2), (15, .aload_n 0, 1), (16, .getfield 47, 3), (19, .iload_n 1, 1), (20, .iaload, 1), (21, .if_icmp .gt 76, 3), (24, .iload 5, 2), (26, .ifCond .ne 58, 3), (29, .aload_n 0, 1), (30, .getfield 32, 3), (33, .iload_n 1, 1), (34, .iload 6, 2), (36, .invokestatic 126, 3), (39, .iaload, 1), (40, .iconst 1, 1), (41, .if_icmp .ne 47, 3), (44, .aload_n 0, 1), (45, .getfield 35, 3), (48, .iload_n 1, 1), (49, .iload 6, 2), (51, .invokestatic 126, 3), (54, .iaload, 1), (55, .iload_n 2, 1), (56, .if_icmp .ne 32, 3), (59, .aload_n 0, 1), (60, .getfield 38, 3), (63, .iload_n 1, 1), (64, .iload 6, 2), (66, .invokestatic 126, 3), (69, .iaload, 1), (70, .iload_n 3, 1), (71, .if_icmp .ne 17, 3), (74, .aload_n 0, 1), (75, .iload_n 1, 1), (76, .iload 6, 2), (78, .invokevirtual 154, 3), (81, .ifCond .ne 7, 3), (84, .iconst 1, 1), (85, .goto 4, 3), (88, .iconst 0, 1), (89, .istore 5, 2), (91, .iinc 6 1, 3), (94, .goto (-88), 3), (97, .iload 5, 2), (99, .ireturn, 1)]
def xi_117 : List (Nat × Instr × Nat) := [(0, .iload_n 1, 1), (1, .iconst 3, 1), (2, .irem, 1), (3, .aload_n 0, 1), (4, .iload_n 1, 1), (5, .invokevirtual 144, 3), (8, .invokestatic 126, 3), (11, .istore_n 2, 1), (12, .iload_n 1, 1), (13, .iconst 1, 1), (14, .isub, 1), (15, .istore_n 3, 1), (16, .iload_n 3, 1), (17, .ifCond .le 59, 3), (20, .aload_n 0, 1), (21, .aload_n 0, 1), (22, .getfield 38, 3), (25, .iload_n 2, 1), (26, .iaload, 1), (27, .iconst 3, 1), (28, .irem, 1), (29, .iload_n 3, 1), (30, .aload_n 0, 1), (31, .getfield 38, 3), (34, .iload_n 2, 1), (35, .iaload, 1), (36, .iconst 3, 1), (37, .idiv, 1), (38, .invokevirtual 157, 3), (41, .ifCond .ne 27, 3), (44, .aload_n 0, 1), (45, .aload_n 0, 1), (46, .getfield 41, 3), (49, .iload_n 2, 1), (50, .iaload, 1), (51, .iconst 3, 1), (52, .irem, 1), (53, .iload_n 3, 1), (54, .aload_n 0, 1), (55, .getfield 41, 3), (58, .iload_n 2, 1), (59, .iaload, 1), (60, .iconst 3, 1), (61, .idiv, 1), (62, .invokevirtual 157, 3), (65, .ifCond .eq 5, 3), (68, .iload_n 3, 1), (69, .ireturn, 1), (70, .iinc 3 (-1), 3), (73, .goto (-57), 3), (76, .iconst 0, 1), (77, .ireturn, 1)]
def xi_118 : List (Nat × Instr × Nat) := [(0, .iload_n 1, 1), (1, .iconst 3, 1), (2, .irem, 1), (3, .aload_n 0, 1), (4, .iload_n 1, 1), (5, .invokevirtual 144, 3), (8, .invokestatic 126, 3), (11, .istore_n 3, 1), (12, .aload_n 0, 1), (13, .getfield 38, 3), (16, .iload_n 3, 1), (17, .iaload, 1), (18, .iconst 3, 1), (19, .irem, 1), (20, .istore 4, 2), (22, .aload_n 0, 1), (23, .getfield 38, 3), (26, .iload_n 3, 1), (27, .iaload, 1), (28, .iconst 3, 1), (29, .idiv, 1), (30, .istore 5, 2), (32, .aload_n 0, 1), (33, .getfield 41, 3), (36, .iload_n 3, 1), (37, .iaload, 1), (38, .iconst 3, 1), (39, .irem, 1), (40, .istore 6, 2), (42, .aload_n 0, 1), (43, .getfield 41, 3), (46, .iload_n 3, 1), (47, .iaload, 1), (48, .iconst 3, 1), (49, .idiv, 1), (50, .istore 7, 2), (52, .iload_n 2, 1), (53, .iconst 3, 1), (54, .irem, 1), (55, .istore 8, 2), (57, .iconst 1, 1), (58, .istore 9, 2), (60, .iload 9, 2), (62, .aload_n 0, 1), (63, .getfield 47, 3), (66, .iload 8, 2), (68, .iaload, 1), (69, .if_icmp .gt 156, 3), (72, .aload_n 0, 1), (73, .getfield 32, 3), (76, .iload 8, 2), (78, .iload 9, 2), (80, .invokestatic 126, 3), (83, .iaload, 1), (84, .ifCond .ne 135, 3), (87, .aload_n 0, 1), (88, .getfield 35, 3), (91, .iload 8, 2), (93, .iload 9, 2), (95, .invokestatic 126, 3), (98, .iaload, 1), (99, .iload_n 2, 1), (100, .if_icmp .ne 119, 3), (103, .aload_n 0, 1), (104, .iload 8, 2), (106, .iload 9, 2), (108, .invokevirtual 148, 3), (111, .ifCond .eq 6, 3), (114, .goto 105, 3), (117, .iload 4, 2), (119, .iload 8, 2), (121, .if_icmp .ne 10, 3), (124, .iload 9, 2), (126, .iload 5, 2), (128, .if_icmp .lt 17, 3), (131, .iload 6, 2), (133, .iload 8, 2), (135, .if_icmp .ne 14, 3), (138, .iload 9, 2), (140, .iload 7, 2), (142, .if_icmp .ge 7, 3), (145, .iconst 1, 1), (146, .goto 4, 3), (149, .iconst 0, 1), (150, .istore 10, 2), (152, .iload 10, 2), (154, .ifCond .ne 34, 3), (157, .aload_n 0, 1), (158, .iload 4, 2), (160, .iload_n 2, 1), (161, .iload 9, 2), (163, .iload 5, 2), (165, .invokevirtual 160, 3), (168, .ifCond .ne 20, 3), (171, .aload_n 0, 1), (172, .iload 6, 2), (174, .iload_n 2, 1), (175, .iload 9, 2), (177, .iload 7, 2), (179, .invokevirtual 160, 3), (182, .ifCond .ne 6, 3), (185, .goto 34, 3), (188, .aload_n 0, 1), (189, .getfield 50, 3), (192, .aload_n 0, 1), (193, .getfield 164, 3), (196, .aload_n 0, 1), (197, .getfield 38, 3), (200, .iload 8, 2), (202, .iload 9, 2), (204, .invokestatic 126, 3), (207, .iaload, 1), (208, .iastore, 1), (209, .aload_n 0, 1), (210, .dup, 1), (211, .getfield 164, 3), (214, .iconst 1, 1), (215, .iadd, 1), (216, .putfield 164, 3), (219, .iinc 9 1, 3), (222, .goto (-162), 3), (225, .return_, 1)]
def xi_119 : List (Nat × Instr × Nat) := [(0, .iconst 0, 1), (1, .istore_n 2, 1), (2, .iload_n 1, 1), (3, .istore_n 3, 1), (4, .iload_n 3, 1), (5, .ifCond .le 22, 3), (8, .aload_n 0, 1), (9, .getfield 53, 3), (12, .iload_n 2, 1), (13, .iload_n 3, 1), (14, .iastore, 1), (15, .iinc 2 1, 3), (18, .aload_n 0, 1), (19, .iload_n 3, 1), (20, .invokevirtual 167, 3), (23, .istore_n 3, 1), (24, .goto (-20), 3), (27, .aload_n 0, 1), (28, .iconst 0, 1), (29, .putfield 164, 3), (32, .iload_n 2, 1), (33, .iconst 1, 1), (34, .isub, 1), (35, .istore_n 3, 1), (36, .iload_n 3, 1), (37, .ifCond .lt 38, 3), (40, .aload_n 0, 1), (41, .aload_n 0, 1), (42, .getfield 53, 3), (45, .iload_n 3, 1), (46, .iaload, 1), (47, .iload_n 3, 1), (48, .iload_n 2, 1), (49, .iconst 1, 1), (50, .isub, 1), (51, .if_icmp .ne 7, 3), (54, .iconst 0, 1), (55, .goto 11, 3), (58, .aload_n 0, 1), (59, .getfield 53, 3), (62, .iload_n 3, 1), (63, .iconst 1, 1), (64, .iadd, 1), (65, .iaload, 1), (66, .invokevirtual 170, 3), (69, .iinc 3 (-1), 3), (72, .goto (-36), 3), (75, .return_, 1)]
def xi_120 : List (Nat × Instr × Nat) := [(0, .aload_n 0, 1), (1, .getfield 56, 3), (4, .iload_n 1, 1), (5, .iload_n 2, 1), (6, .iastore, 1), (7, .aload_n 0, 1), (8, .getfield 59, 3), (11, .iload_n 1, 1), (12, .iload_n 3, 1), (13, .bastore, 1), (14, .aload_n 0, 1), (15, .getfield 101, 3), (18, .iload_n 1, 1), (19, .iconst 0, 1), (20, .iastore, 1), (21, .aload_n 0, 1), (22, .getfield 104, 3), (25, .iload_n 1, 1), (26, .iconst 0, 1), (27, .iastore, 1), (28, .aload_n 0, 1), (29, .getfield 107, 3), (32, .iload_n 1, 1), (33, .iconst 0, 1), (34, .bastore, 1), (35, .iconst 0, 1), (36, .istore 4, 2), (38, .iload 4, 2), (40, .bipush 101, 2), (42, .if_icmp .ge 22, 3), (45, .aload_n 0, 1), (46, .getfield 110, 3), (49, .bipush 101, 2), (51, .iload_n 1, 1), (52, .imul, 1), (53, .iload 4, 2), (55, .iadd, 1), (56, .iconst 0, 1), (57, .bastore, 1), (58, .iinc 4 1, 3), (61, .goto (-23), 3), (64, .return_, 1)]
def xi_121 : List (Nat × Instr × Nat) := [(0, .aload_n 0, 1), (1, .getfield 47, 3), (4, .iload_n 1, 1), (5, .iaload, 1), (6, .bipush 100, 2), (8, .if_icmp .ne 5, 3), (11, .iconst (-1), 1), (12, .ireturn, 1), (13, .aload_n 0, 1), (14, .getfield 47, 3), (17, .iload_n 1, 1), (18, .dup2, 1), (19, .iaload, 1), (20, .iconst 1, 1), (21, .iadd, 1), (22, .iastore, 1), (23, .iload_n 1, 1), (24, .aload_n 0, 1), (25, .getfield 47, 3), (28, .iload_n 1, 1), (29, .iaload, 1), (30, .invokestatic 126, 3), (33, .istore 6, 2), (35, .aload_n 0, 1), (36, .getfield 32, 3), (39, .iload 6, 2), (41, .iload_n 2, 1), (42, .iastore, 1), (43, .aload_n 0, 1), (44, .getfield 35, 3), (47, .iload 6, 2), (49, .iload_n 3, 1), (50, .iastore, 1), (51, .aload_n 0, 1), (52, .getfield 38, 3), (55, .iload 6, 2), (57, .iload 4, 2), (59, .iastore, 1), (60, .aload_n 0, 1), (61, .getfield 41, 3), (64, .iload 6, 2), (66, .iload 5, 2), (68, .iastore, 1), (69, .aload_n 0, 1), (70, .getfield 44, 3), (73, .iload 6, 2), (75, .aload_n 0, 1), (76, .getfield 174, 3), (79, .iastore, 1), (80, .aload_n 0, 1), (81, .dup, 1), (82, .getfield 174, 3), (85, .iconst 1, 1), (86, .iadd, 1), (87, .putfield 174, 3), (90, .aload_n 0, 1), (91, .getfield 47, 3), (94, .iload_n 1, 1), (95, .iaload, 1), (96, .istore 7, 2), (98, .aload_n 0, 1), (99, .getfield 62, 3), (102, .iload_n 1, 1), (103, .baload, 1), (104, .ifCond .ne 25, 3), (107, .aload_n 0, 1), (108, .getfield 92, 3), (111, .iconst 3, 1), (112, .iload_n 1, 1), (113, .imul, 1), (114, .iload_n 1, 1), (115, .iadd, 1), (116, .iload 7, 2), (118, .iconst 1, 1), (119, .iadd, 1), (120, .iastore, 1), (121, .aload_n 0, 1), (122, .iload_n 1, 1), (123, .iload_n 1, 1), (124, .iload 7, 2), (126, .invokevirtual 177, 3), (129, .iload 7, 2), (131, .ireturn, 1)]
def xi_122 : List (Nat × Instr × Nat) := [(0, .iload_n 2, 1), (1, .iload_n 3, 1), (2, .invokestatic 126, 3), (5, .istore 4, 2), (7, .aload_n 0, 1), (8, .getfield 35, 3), (11, .iload 4, 2), (13, .iaload, 1), (14, .istore 5, 2), (16, .aload_n 0, 1), (17, .iload_n 2, 1), (18, .iload_n 3, 1), (19, .invokevirtual 154, 3), (22, .ifCond .ne 159, 3), (25, .aload_n 0, 1), (26, .getfield 32, 3), (29, .iload 4, 2), (31, .iaload, 1), (32, .tableswitch 110 0 2 #[28, 57, 98], 28), (60, .iload 5, 2), (62, .aload_n 0, 1), (63, .getfield 56, 3), (66, .iload_n 1, 1), (67, .iaload, 1), (68, .if_icmp .ne 113, 3), (71, .aload_n 0, 1), (72, .getfield 59, 3), (75, .iload_n 1, 1), (76, .baload, 1), (77, .ifCond .eq 104, 3), (80, .aload_n 0, 1), (81, .iload_n 1, 1), (82, .iload_n 3, 1), (83, .invokevirtual 181, 3), (86, .goto 95, 3), (89, .iload 5, 2), (91, .aload_n 0, 1), (92, .getfield 56, 3), (95, .iload_n 1, 1), (96, .iaload, 1), (97, .if_icmp .ne 84, 3), (100, .aload_n 0, 1), (101, .getfield 59, 3), (104, .iload_n 1, 1), (105, .baload, 1), (106, .ifCond .eq 75, 3), (109, .aload_n 0, 1), (110, .getfield 110, 3), (113, .bipush 101, 2), (115, .iload_n 1, 1), (116, .imul, 1), (117, .aload_n 0, 1), (118, .getfield 38, 3), (121, .iload 4, 2), (123, .iaload, 1), (124, .iadd, 1), (125, .iconst 1, 1), (126, .bastore, 1), (127, .goto 54, 3), (130, .aload_n 0, 1), (131, .iload_n 1, 1), (132, .iload_n 2, 1), (133, .iload_n 3, 1), (134, .iload 5, 2), (136, .invokevirtual 184, 3), (139, .goto 42, 3), (142, .iload 5, 2), (144, .aload_n 0, 1), (145, .getfield 56, 3), (148, .iload_n 1, 1), (149, .iaload, 1), (150, .if_icmp .gt 23, 3), (153, .iload 5, 2), (155, .aload_n 0, 1), (156, .getfield 56, 3), (159, .iload_n 1, 1), (160, .iaload, 1), (161, .if_icmp .ne 20, 3), (164, .aload_n 0, 1), (165, .getfield 59, 3), (168, .iload_n 1, 1), (169, .baload, 1), (170, .ifCond .ne 11, 3), (173, .aload_n 0, 1), (174, .iload_n 1, 1), (175, .iload_n 3, 1), (176, .iload 5, 2), (178, .invokevirtual 188, 3), (181, .aload_n 0, 1), (182, .iload_n 1, 1), (183, .invokevirtual 191, 3), (186, .return_, 1)]
def xi_123 : List (Nat × Instr × Nat) := [(0, .aload_n 0, 1), (1, .getfield 98, 3), (4, .bipush 100, 2), (6, .iload_n 1, 1), (7, .imul, 1), (8, .aload_n 0, 1), (9, .getfield 101, 3), (12, .iload_n 1, 1), (13, .iaload, 1), (14, .iadd, 1), (15, .iload_n 2, 1), (16, .iastore, 1), (17, .aload_n 0, 1), (18, .getfield 101, 3), (21, .iload_n 1, 1), (22, .dup2, 1), (23, .iaload, 1), (24, .iconst 1, 1), (25, .iadd, 1), (26, .iastore, 1), (27, .aload_n 0, 1), (28, .getfield 56, 3), (31, .iload_n 1, 1), (32, .iaload, 1), (33, .iconst 3, 1), (34, .irem, 1), (35, .iload_n 1, 1), (36, .if_icmp .eq 18, 3), (39, .aload_n 0, 1), (40, .iload_n 1, 1), (41, .iconst 1, 1), (42, .aload_n 0, 1), (43, .getfield 56, 3), (46, .iload_n 1, 1), (47, .iaload, 1), (48, .iload_n 2, 1), (49, .iconst 0, 1), (50, .invokevirtual 195, 3), (53, .pop, 1), (54, .return_, 1)]
def xi_124 : List (Nat × Instr × Nat) := [(0, .aload_n 0, 1), (1, .iload_n 1, 1), (2, .iload_n 3, 1), (3, .iconst 1, 1), (4, .invokevirtual 199, 3), (7, .iload_n 3, 1), (8, .iconst 3, 1), (9, .irem, 1), (10, .iload_n 1, 1), (11, .if_icmp .eq 13, 3), (14, .aload_n 0, 1), (15, .iload_n 1, 1), (16, .iconst 1, 1), (17, .iload_n 3, 1), (18, .iload_n 2, 1), (19, .iconst 0, 1), (20, .invokevirtual 195, 3), (23, .pop, 1), (24, .return_, 1)]
def xi_125 : List (Nat × Instr × Nat) := [(0, .iload_n 1, 1), (1, .bipush 31, 2), (3, .imul, 1), (4, .iload 4, 2), (6, .iadd, 1), (7, .iconst 3, 1), (8, .imul, 1), (9, .iload_n 2, 1), (10, .iadd, 1), (11, .istore 5, 2), (13, .aload_n 0, 1), (14, .getfield 113, 3), (17, .iload 5, 2), (19, .iaload, 1), (20, .ifCond .ne 32, 3), (23, .aload_n 0, 1), (24, .dup, 1), (25, .getfield 203, 3), (28, .iconst 1, 1), (29, .iadd, 1), (30, .putfield 203, 3), (33, .aload_n 0, 1), (34, .getfield 113, 3), (37, .iload 5, 2), (39, .aload_n 0, 1), (40, .getfield 203, 3), (43, .iastore, 1), (44, .aload_n 0, 1), (45, .getfield 116, 3), (48, .iload 5, 2), (50, .iload_n 3, 1), (51, .iastore, 1), (52, .iload 4, 2), (54, .aload_n 0, 1), (55, .getfield 56, 3), (58, .iload_n 1, 1), (59, .iaload, 1), (60, .if_icmp .ne 20, 3), (63, .aload_n 0, 1), (64, .getfield 59, 3), (67, .iload_n 1, 1), (68, .baload, 1), (69, .ifCond .ne 11, 3), (72, .iload 4, 2), (74, .iconst 3, 1), (75, .irem, 1), (76, .iload_n 1, 1), (77, .if_icmp .eq 4, 3), (80, .return_, 1), (81, .iconst (-1), 1), (82, .istore 6, 2), (84, .iconst (-1), 1), (85, .istore 7, 2), (87, .iconst 0, 1), (88, .istore 8, 2), (90, .iload 8, 2), (92, .iconst 3, 1), (93, .if_icmp .ge 107, 3), (96, .iload_n 1, 1), (97, .bipush 31, 2), (99, .imul, 1), (100, .iload 4, 2), (102, .iadd, 1), (103, .iconst 3, 1), (104, .imul, 1), (105, .istore 9, 2), (107, .aload_n 0, 1), (108, .getfield 113, 3), (111, .iload 9, 2), (113, .iload 8, 2), (115, .iadd, 1), (116, .iaload, 1), (117, .ifCond .ne 6, 3), (120, .goto 74, 3), (123, .iload 6, 2), (125, .ifCond .lt 26, 3), (128, .aload_n 0, 1), (129, .getfield 113, 3), (132, .iload 9, 2), (134, .iload 8, 2), (136, .iadd, 1), (137, .iaload, 1), (138, .aload_n 0, 1), (139, .getfield 113, 3), (142, .iload 9, 2), (144, .iload 6, 2), (146, .iadd, 1), (147, .iaload, 1), (148, .if_icmp .ge 14, 3), (151, .iload 6, 2), (153, .istore 7, 2), (155, .iload 8, 2), (157, .istore 6, 2), (159, .goto 35, 3), (162, .iload 7, 2), (164, .ifCond .lt 26, 3), (167, .aload_n 0, 1), (168, .getfield 113, 3), (171, .iload 9, 2), (173, .iload 8, 2), (175, .iadd, 1), (176, .iaload, 1), (177, .aload_n 0, 1), (178, .getfield 113, 3), (181, .iload 9, 2), (183, .iload 7, 2), (185, .iadd, 1), (186, .iaload, 1), (187, .if_icmp .ge 7, 3), (190, .iload 8, 2), (192, .istore 7, 2), (194, .iinc 8 1, 3), (197, .goto (-107), 3), (200, .iload 7, 2), (202, .ifCond .ge 4, 3), (205, .return_, 1), (206, .iload_n 1, 1), (207, .bipush 31, 2), (209, .imul, 1), (210, .iload 4, 2), (212, .iadd, 1), (213, .iconst 3, 1), (214, .imul, 1), (215, .istore 8, 2), (217, .aload_n 0, 1), (218, .iload_n 1, 1), (219, .iconst 3, 1), (220, .iload 4, 2), (222, .iconst 3, 1), (223, .aload_n 0, 1), (224, .getfield 116, 3), (227, .iload 8, 2), (229, .iload 6, 2), (231, .iadd, 1), (232, .iaload, 1), (233, .imul, 1), (234, .iload 6, 2), (236, .iadd, 1), (237, .iconst 3, 1), (238, .aload_n 0, 1), (239, .getfield 116, 3), (242, .iload 8, 2), (244, .iload 7, 2), (246, .iadd, 1), (247, .iaload, 1), (248, .imul, 1), (249, .iload 7, 2), (251, .iadd, 1), (252, .invokevirtual 195, 3), (255, .pop, 1), (256, .return_, 1)]
def xi_126 : List (Nat × Instr × Nat) := [(0, .aload_n 0, 1), (1, .getfield 59, 3), (4, .iload_n 1, 1), (5, .baload, 1), (6, .ifCond .ne 4, 3), (9, .return_, 1), (10, .aload_n 0, 1), (11, .getfield 56, 3), (14, .iload_n 1, 1), (15, .iaload, 1), (16, .istore_n 2, 1), (17, .iload_n 2, 1), (18, .ifCond .le 84, 3), (21, .aload_n 0, 1), (22, .getfield 107, 3), (25, .iload_n 1, 1), (26, .baload, 1), (27, .ifCond .ne 75, 3), (30, .aload_n 0, 1), (31, .iload_n 2, 1), (32, .invokevirtual 144, 3), (35, .istore_n 3, 1), (36, .iload_n 3, 1), (37, .ifCond .eq 17, 3), (40, .aload_n 0, 1), (41, .getfield 110, 3), (44, .bipush 101, 2), (46, .iload_n 1, 1), (47, .imul, 1), (48, .iload_n 3, 1), (49, .iadd, 1), (50, .baload, 1), (51, .ifCond .ne 4, 3), (54, .return_, 1), (55, .aload_n 0, 1), (56, .getfield 107, 3), (59, .iload_n 1, 1), (60, .iconst 1, 1), (61, .bastore, 1), (62, .aload_n 0, 1), (63, .iload_n 2, 1), (64, .invokevirtual 206, 3), (67, .aload_n 0, 1), (68, .getfield 71, 3), (71, .iload_n 1, 1), (72, .iaload, 1), (73, .istore 4, 2), (75, .iload 4, 2), (77, .aload_n 0, 1), (78, .getfield 164, 3), (81, .if_icmp .ge 21, 3), (84, .aload_n 0, 1), (85, .iload_n 1, 1), (86, .aload_n 0, 1), (87, .getfield 50, 3), (90, .iload 4, 2), (92, .iaload, 1), (93, .invokevirtual 209, 3), (96, .iinc 4 1, 3), (99, .goto (-24), 3), (102, .aload_n 0, 1), (103, .getfield 104, 3), (106, .iload_n 1, 1), (107, .iaload, 1), (108, .aload_n 0, 1), (109, .getfield 101, 3), (112, .iload_n 1, 1), (113, .iaload, 1), (114, .if_icmp .ge 79, 3), (117, .aload_n 0, 1), (118, .getfield 110, 3), (121, .bipush 101, 2), (123, .iload_n 1, 1), (124, .imul, 1), (125, .aload_n 0, 1), (126, .getfield 98, 3), (129, .bipush 100, 2), (131, .iload_n 1, 1), (132, .imul, 1), (133, .aload_n 0, 1), (134, .getfield 104, 3), (137, .iload_n 1, 1), (138, .iaload, 1), (139, .iadd, 1), (140, .iaload, 1), (141, .iadd, 1), (142, .baload, 1), (143, .ifCond .eq 50, 3), (146, .aload_n 0, 1), (147, .getfield 98, 3), (150, .bipush 100, 2), (152, .iload_n 1, 1), (153, .imul, 1), (154, .aload_n 0, 1), (155, .getfield 104, 3), (158, .iload_n 1, 1), (159, .iaload, 1), (160, .iadd, 1), (161, .iaload, 1), (162, .istore_n 3, 1), (163, .aload_n 0, 1), (164, .getfield 104, 3), (167, .iload_n 1, 1), (168, .dup2, 1), (169, .iaload, 1), (170, .iconst 1, 1), (171, .iadd, 1), (172, .iastore, 1), (173, .aload_n 0, 1), (174, .iload_n 1, 1), (175, .aload_n 0, 1), (176, .getfield 38, 3), (179, .iload_n 2, 1), (180, .iconst 3, 1), (181, .irem, 1), (182, .iload_n 3, 1), (183, .invokestatic 126, 3), (186, .iaload, 1), (187, .invokevirtual 209, 3), (190, .goto (-88), 3), (193, .return_, 1)]
def xi_127 : List (Nat × Instr × Nat) := [(0, .aload_n 0, 1), (1, .getfield 68, 3), (4, .sipush 400, 3), (7, .iload_n 1, 1), (8, .imul, 1), (9, .aload_n 0, 1), (10, .getfield 71, 3), (13, .iload_n 1, 1), (14, .iaload, 1), (15, .iadd, 1), (16, .iload_n 2, 1), (17, .iastore, 1), (18, .aload_n 0, 1), (19, .getfield 71, 3), (22, .iload_n 1, 1), (23, .dup2, 1), (24, .iaload, 1), (25, .iconst 1, 1), (26, .iadd, 1), (27, .iastore, 1), (28, .iconst 4, 1), (29, .iload_n 1, 1), (30, .imul, 1), (31, .aload_n 0, 1), (32, .getfield 9, 3), (35, .iload_n 2, 1), (36, .iaload, 1), (37, .iadd, 1), (38, .istore_n 3, 1), (39, .aload_n 0, 1), (40, .getfield 13, 3), (43, .iload_n 2, 1), (44, .iaload, 1), (45, .aload_n 0, 1), (46, .getfield 74, 3), (49, .iload_n 3, 1), (50, .iaload, 1), (51, .if_icmp .gt 4, 3), (54, .return_, 1), (55, .aload_n 0, 1), (56, .getfield 74, 3), (59, .iload_n 3, 1), (60, .aload_n 0, 1), (61, .getfield 13, 3), (64, .iload_n 2, 1), (65, .iaload, 1), (66, .iastore, 1), (67, .iconst 4, 1), (68, .iload_n 1, 1), (69, .imul, 1), (70, .aload_n 0, 1), (71, .getfield 19, 3), (74, .iload_n 2, 1), (75, .iaload, 1), (76, .iadd, 1), (77, .istore 4, 2), (79, .aload_n 0, 1), (80, .getfield 65, 3), (83, .iload 4, 2), (85, .iaload, 1), (86, .istore 5, 2), (88, .aload_n 0, 1), (89, .getfield 65, 3), (92, .iload 4, 2), (94, .aload_n 0, 1), (95, .getfield 16, 3), (98, .iload_n 2, 1), (99, .iaload, 1), (100, .ifCond .ne 8, 3), (103, .iload 5, 2), (105, .goto 31, 3), (108, .aload_n 0, 1), (109, .getfield 16, 3), (112, .iload_n 2, 1), (113, .iaload, 1), (114, .iconst 1, 1), (115, .if_icmp .ne 12, 3), (118, .aload_n 0, 1), (119, .getfield 22, 3), (122, .iload_n 2, 1), (123, .iaload, 1), (124, .goto 12, 3), (127, .iload 5, 2), (129, .aload_n 0, 1), (130, .getfield 22, 3), (133, .iload_n 2, 1), (134, .iaload, 1), (135, .iadd, 1), (136, .iastore, 1), (137, .aload_n 0, 1), (138, .getfield 77, 3), (141, .bipush 60, 2), (143, .iload_n 1, 1), (144, .imul, 1), (145, .iload_n 2, 1), (146, .iadd, 1), (147, .iconst 1, 1), (148, .bastore, 1), (149, .aload_n 0, 1), (150, .getfield 80, 3), (153, .bipush 60, 2), (155, .iload_n 1, 1), (156, .imul, 1), (157, .iload_n 2, 1), (158, .iadd, 1), (159, .aload_n 0, 1), (160, .getfield 16, 3), (163, .iload_n 2, 1), (164, .iaload, 1), (165, .iconst 2, 1), (166, .if_icmp .ne 13, 3), (169, .aload_n 0, 1), (170, .getfield 65, 3), (173, .iload 4, 2), (175, .iaload, 1), (176, .goto 5, 3), (179, .iload 5, 2), (181, .iastore, 1), (182, .return_, 1)]
def xi_128 : List (Nat × Instr × Nat) := [(0, .iconst 0, 1), (1, .istore_n 2, 1), (2, .iconst 0, 1), (3, .istore_n 3, 1), (4, .iload_n 3, 1), (5, .iconst 3, 1), (6, .if_icmp .ge 97, 3), (9, .aload_n 0, 1), (10, .getfield 92, 3), (13, .iconst 3, 1), (14, .iload_n 1, 1), (15, .imul, 1), (16, .iload_n 3, 1), (17, .iadd, 1), (18, .iaload, 1), (19, .istore 4, 2), (21, .iload_n 3, 1), (22, .iload_n 1, 1), (23, .if_icmp .eq 44, 3), (26, .aload_n 0, 1), (27, .iload_n 3, 1), (28, .iload 4, 2), (30, .invokevirtual 130, 3), (33, .ifCond .eq 34, 3), (36, .aload_n 0, 1), (37, .getfield 89, 3), (40, .sipush 303, 3), (43, .iload_n 1, 1), (44, .imul, 1), (45, .iload_n 3, 1), (46, .iload 4, 2), (48, .invokestatic 126, 3), (51, .iadd, 1), (52, .baload, 1), (53, .ifCond .eq 14, 3), (56, .aload_n 0, 1), (57, .iload_n 1, 1), (58, .iload_n 3, 1), (59, .iload 4, 2), (61, .invokevirtual 212, 3), (64, .ifCond .eq 9, 3), (67, .iinc 3 1, 3), (70, .goto (-66), 3), (73, .aload_n 0, 1), (74, .getfield 92, 3), (77, .iconst 3, 1), (78, .iload_n 1, 1), (79, .imul, 1), (80, .iload_n 3, 1), (81, .iadd, 1), (82, .iload 4, 2), (84, .iconst 1, 1), (85, .iadd, 1), (86, .iastore, 1), (87, .aload_n 0, 1), (88, .iload_n 1, 1), (89, .iload_n 3, 1), (90, .iload 4, 2), (92, .invokevirtual 177, 3), (95, .iinc 2 1, 3), (98, .iconst 0, 1), (99, .istore_n 3, 1), (100, .goto (-96), 3), (103, .iload_n 2, 1), (104, .ireturn, 1)]
def xi_129 : List (Nat × Instr × Nat) := [(0, .iload_n 2, 1), (1, .iload_n 3, 1), (2, .invokestatic 126, 3), (5, .istore 4, 2), (7, .aload_n 0, 1), (8, .getfield 32, 3), (11, .iload 4, 2), (13, .iaload, 1), (14, .ifCond .eq 16, 3), (17, .aload_n 0, 1), (18, .getfield 32, 3), (21, .iload 4, 2), (23, .iaload, 1), (24, .iconst 1, 1), (25, .if_icmp .eq 5, 3), (28, .iconst 0, 1), (29, .ireturn, 1), (30, .aload_n 0, 1), (31, .getfield 35, 3), (34, .iload 4, 2), (36, .iaload, 1), (37, .aload_n 0, 1), (38, .getfield 56, 3), (41, .iload_n 1, 1), (42, .iaload, 1), (43, .if_icmp .gt 28, 3), (46, .aload_n 0, 1), (47, .getfield 35, 3), (50, .iload 4, 2), (52, .iaload, 1), (53, .aload_n 0, 1), (54, .getfield 56, 3), (57, .iload_n 1, 1), (58, .iaload, 1), (59, .if_icmp .ne 25, 3), (62, .aload_n 0, 1), (63, .getfield 59, 3), (66, .iload_n 1, 1), (67, .baload, 1), (68, .ifCond .ne 16, 3), (71, .aload_n 0, 1), (72, .iload_n 2, 1), (73, .iload_n 3, 1), (74, .invokevirtual 154, 3), (77, .ifCond .ne 7, 3), (80, .iconst 1, 1), (81, .goto 4, 3), (84, .iconst 0, 1), (85, .ireturn, 1)]
def xi_130 : List (Nat × Instr × Nat) := [(0, .iload_n 0, 1), (1, .ifCond .lt 12, 3), (4, .iload_n 0, 1), (5, .iconst 3, 1), (6, .if_icmp .ge 7, 3), (9, .iconst 1, 1), (10, .goto 4, 3), (13, .iconst 0, 1), (14, .ireturn, 1)]
def xi_131 : List (Nat × Instr × Nat) := [(0, .iload_n 1, 1), (1, .ifCond .lt 15, 3), (4, .iload_n 1, 1), (5, .aload_n 0, 1), (6, .getfield 123, 3), (9, .if_icmp .ge 7, 3), (12, .iconst 1, 1), (13, .goto 4, 3), (16, .iconst 0, 1), (17, .ireturn, 1)]
def xi_132 : List (Nat × Instr × Nat) := [(0, .aload_n 0, 1), (1, .iload_n 1, 1), (2, .ifCond .eq 7, 3), (5, .iload_n 2, 1), (6, .goto 4, 3), (9, .iconst 0, 1), (10, .putfield 119, 3), (13, .iload_n 1, 1), (14, .ireturn, 1)]
def xi_133 : List (Nat × Instr × Nat) := [(0, .aload_n 0, 1), (1, .aload_n 0, 1), (2, .iload_n 1, 1), (3, .invokevirtual 215, 3), (6, .ifCond .eq 10, 3), (9, .iload_n 2, 1), (10, .invokestatic 219, 3), (13, .ifCond .ne 7, 3), (16, .iconst 1, 1), (17, .goto 4, 3), (20, .iconst 0, 1), (21, .iconst 1, 1), (22, .invokevirtual 222, 3), (25, .ifCond .eq 5, 3), (28, .iconst 0, 1), (29, .ireturn, 1), (30, .aload_n 0, 1), (31, .getfield 62, 3), (34, .iload_n 2, 1), (35, .baload, 1), (36, .ifCond .ne 24, 3), (39, .aload_n 0, 1), (40, .getfield 59, 3), (43, .iload_n 2, 1), (44, .baload, 1), (45, .ifCond .eq 15, 3), (48, .aload_n 0, 1), (49, .getfield 56, 3), (52, .iload_n 2, 1), (53, .iaload, 1), (54, .iconst 3, 1), (55, .irem, 1), (56, .iload_n 2, 1), (57, .if_icmp .eq 5, 3), (60, .iconst 0, 1), (61, .ireturn, 1), (62, .iconst 1, 1), (63, .istore_n 3, 1), (64, .iload_n 3, 1), (65, .aload_n 0, 1), (66, .getfield 47, 3), (69, .iload_n 2, 1), (70, .iaload, 1), (71, .if_icmp .gt 57, 3), (74, .aload_n 0, 1), (75, .getfield 32, 3), (78, .iload_n 2, 1), (79, .iload_n 3, 1), (80, .invokestatic 126, 3), (83, .iaload, 1), (84, .ifCond .ne 38, 3), (87, .aload_n 0, 1), (88, .getfield 35, 3), (91, .iload_n 2, 1), (92, .iload_n 3, 1), (93, .invokestatic 126, 3), (96, .iaload, 1), (97, .aload_n 0, 1), (98, .getfield 56, 3), (101, .iload_n 2, 1), (102, .iaload, 1), (103, .if_icmp .ne 19, 3), (106, .aload_n 0, 1), (107, .getfield 38, 3), (110, .iload_n 2, 1), (111, .iload_n 3, 1), (112, .invokestatic 126, 3), (115, .iaload, 1), (116, .iload_n 1, 1), (117, .if_icmp .ne 5, 3), (120, .iconst 0, 1), (121, .ireturn, 1), (122, .iinc 3 1, 3), (125, .goto (-61), 3), (128, .aload_n 0, 1), (129, .iload_n 2, 1), (130, .iconst 0, 1), (131, .aload_n 0, 1), (132, .getfield 56, 3), (135, .iload_n 2, 1), (136, .iaload, 1), (137, .iload_n 1, 1), (138, .iconst 0, 1), (139, .invokevirtual 195, 3), (142, .istore_n 3, 1), (143, .aload_n 0, 1), (144, .iload_n 2, 1), (145, .invokevirtual 226, 3), (148, .pop, 1), (149, .iload_n 3, 1), (150, .iconst (-1), 1), (151, .if_icmp .ne 7, 3), (154, .iconst 0, 1), (155, .goto 4, 3), (158, .iconst 1, 1), (159, .ireturn, 1)]
def xi_134 : List (Nat × Instr × Nat) := [(0, .aload_n 0, 1), (1, .iload_n 1, 1), (2, .invokestatic 219, 3), (5, .ifCond .eq 19, 3), (8, .iload_n 3, 1), (9, .invokestatic 219, 3), (12, .ifCond .eq 12, 3), (15, .aload_n 0, 1), (16, .iload_n 1, 1), (17, .iload_n 2, 1), (18, .invokevirtual 130, 3), (21, .ifCond .ne 7, 3), (24, .iconst 1, 1), (25, .goto 4, 3), (28, .iconst 0, 1), (29, .iconst 1, 1), (30, .invokevirtual 222, 3), (33, .ifCond .ne 21, 3), (36, .aload_n 0, 1), (37, .iload_n 1, 1), (38, .iload_n 3, 1), (39, .if_icmp .ne 7, 3), (42, .iconst 1, 1), (43, .goto 4, 3), (46, .iconst 0, 1), (47, .iconst 2, 1), (48, .invokevirtual 222, 3), (51, .ifCond .eq 5, 3), (54, .iconst 0, 1), (55, .ireturn, 1), (56, .aload_n 0, 1), (57, .getfield 62, 3), (60, .iload_n 3, 1), (61, .baload, 1), (62, .ifCond .eq 5, 3), (65, .iconst 0, 1), (66, .ireturn, 1), (67, .aload_n 0, 1), (68, .getfield 89, 3), (71, .sipush 303, 3), (74, .iload_n 3, 1), (75, .imul, 1), (76, .iload_n 1, 1), (77, .iload_n 2, 1), (78, .invokestatic 126, 3), (81, .iadd, 1), (82, .iconst 1, 1), (83, .bastore, 1), (84, .aload_n 0, 1), (85, .iload_n 3, 1), (86, .invokevirtual 226, 3), (89, .ireturn, 1)]
def xi_135 : List (Nat × Instr × Nat) := [(0, .iconst (-1), 1), (1, .istore_n 2, 1), (2, .iconst (-1), 1), (3, .istore_n 3, 1), (4, .iconst 0, 1), (5, .istore 4, 2), (7, .iload 4, 2), (9, .iconst 3, 1), (10, .if_icmp .ge 45, 3), (13, .aload_n 0, 1), (14, .getfield 95, 3), (17, .iconst 3, 1), (18, .iload_n 1, 1), (19, .imul, 1), (20, .iload 4, 2), (22, .iadd, 1), (23, .iaload, 1), (24, .istore 5, 2), (26, .iload 5, 2), (28, .iload_n 2, 1), (29, .if_icmp .le 11, 3), (32, .iload_n 2, 1), (33, .istore_n 3, 1), (34, .iload 5, 2), (36, .istore_n 2, 1), (37, .goto 12, 3), (40, .iload 5, 2), (42, .iload_n 3, 1), (43, .if_icmp .le 6, 3), (46, .iload 5, 2), (48, .istore_n 3, 1), (49, .iinc 4 1, 3), (52, .goto (-45), 3), (55, .iload_n 3, 1), (56, .aload_n 0, 1), (57, .getfield 56, 3), (60, .iload_n 1, 1), (61, .iaload, 1), (62, .if_icmp .le 7, 3), (65, .iconst 1, 1), (66, .goto 4, 3), (69, .iconst 0, 1), (70, .istore 4, 2), (72, .iload 4, 2), (74, .ifCond .eq 20, 3), (77, .aload_n 0, 1), (78, .iload_n 1, 1), (79, .iload_n 3, 1), (80, .iconst 0, 1), (81, .invokevirtual 199, 3), (84, .aload_n 0, 1), (85, .iload_n 1, 1), (86, .iconst 2, 1), (87, .iload_n 3, 1), (88, .iconst 0, 1), (89, .iconst 0, 1), (90, .invokevirtual 195, 3), (93, .pop, 1), (94, .aload_n 0, 1), (95, .iload_n 1, 1), (96, .invokevirtual 226, 3), (99, .pop, 1), (100, .iload 4, 2), (102, .ireturn, 1)]
def xi_136 : List (Nat × Instr × Nat) := [(0, .aload_n 0, 1), (1, .iload_n 1, 1), (2, .invokestatic 219, 3), (5, .ifCond .ne 7, 3), (8, .iconst 1, 1), (9, .goto 4, 3), (12, .iconst 0, 1), (13, .iconst 1, 1), (14, .invokevirtual 222, 3), (17, .ifCond .eq 5, 3), (20, .iconst 0, 1), (21, .ireturn, 1), (22, .aload_n 0, 1), (23, .getfield 62, 3), (26, .iload_n 1, 1), (27, .baload, 1), (28, .ifCond .ne 14, 3), (31, .aload_n 0, 1), (32, .getfield 56, 3), (35, .iload_n 1, 1), (36, .iaload, 1), (37, .bipush 30, 2), (39, .if_icmp .ne 5, 3), (42, .iconst (-1), 1), (43, .ireturn, 1), (44, .aload_n 0, 1), (45, .getfield 56, 3), (48, .iload_n 1, 1), (49, .iaload, 1), (50, .iconst 1, 1), (51, .iadd, 1), (52, .istore_n 2, 1), (53, .aload_n 0, 1), (54, .getfield 95, 3), (57, .iconst 3, 1), (58, .iload_n 1, 1), (59, .imul, 1), (60, .iload_n 1, 1), (61, .iadd, 1), (62, .iaload, 1), (63, .iload_n 2, 1), (64, .if_icmp .ge 14, 3), (67, .aload_n 0, 1), (68, .getfield 95, 3), (71, .iconst 3, 1), (72, .iload_n 1, 1), (73, .imul, 1), (74, .iload_n 1, 1), (75, .iadd, 1), (76, .iload_n 2, 1), (77, .iastore, 1), (78, .aload_n 0, 1), (79, .iload_n 1, 1), (80, .invokevirtual 229, 3), (83, .pop, 1), (84, .iload_n 2, 1), (85, .ireturn, 1)]
def xi_137 : List (Nat × Instr × Nat) := [(0, .aload_n 0, 1), (1, .iload_n 1, 1), (2, .invokestatic 219, 3), (5, .ifCond .eq 10, 3), (8, .iload_n 2, 1), (9, .invokestatic 219, 3), (12, .ifCond .ne 7, 3), (15, .iconst 1, 1), (16, .goto 4, 3), (19, .iconst 0, 1), (20, .iconst 1, 1), (21, .invokevirtual 222, 3), (24, .ifCond .ne 21, 3), (27, .aload_n 0, 1), (28, .iload_n 1, 1), (29, .iload_n 2, 1), (30, .if_icmp .ne 7, 3), (33, .iconst 1, 1), (34, .goto 4, 3), (37, .iconst 0, 1), (38, .iconst 2, 1), (39, .invokevirtual 222, 3), (42, .ifCond .eq 5, 3), (45, .iconst 0, 1), (46, .ireturn, 1), (47, .aload_n 0, 1), (48, .getfield 95, 3), (51, .iconst 3, 1), (52, .iload_n 1, 1), (53, .imul, 1), (54, .iload_n 1, 1), (55, .iadd, 1), (56, .iaload, 1), (57, .istore_n 3, 1), (58, .aload_n 0, 1), (59, .getfield 62, 3), (62, .iload_n 2, 1), (63, .baload, 1), (64, .ifCond .ne 8, 3), (67, .iload_n 3, 1), (68, .iconst (-1), 1), (69, .if_icmp .ne 5, 3), (72, .iconst 0, 1), (73, .ireturn, 1), (74, .aload_n 0, 1), (75, .getfield 95, 3), (78, .iconst 3, 1), (79, .iload_n 2, 1), (80, .imul, 1), (81, .iload_n 1, 1), (82, .iadd, 1), (83, .iaload, 1), (84, .iload_n 3, 1), (85, .if_icmp .ge 14, 3), (88, .aload_n 0, 1), (89, .getfield 95, 3), (92, .iconst 3, 1), (93, .iload_n 2, 1), (94, .imul, 1), (95, .iload_n 1, 1), (96, .iadd, 1), (97, .iload_n 3, 1), (98, .iastore, 1), (99, .aload_n 0, 1), (100, .iload_n 2, 1), (101, .invokevirtual 229, 3), (104, .ifCond .eq 7, 3), (107, .iconst 1, 1), (108, .goto 4, 3), (111, .iconst 0, 1), (112, .ireturn, 1)]
def xi_138 : List (Nat × Instr × Nat) := [(0, .aload_n 0, 1), (1, .iload_n 1, 1), (2, .invokestatic 219, 3), (5, .ifCond .eq 11, 3), (8, .aload_n 0, 1), (9, .iload_n 2, 1), (10, .invokevirtual 215, 3), (13, .ifCond .ne 7, 3), (16, .iconst 1, 1), (17, .goto 4, 3), (20, .iconst 0, 1), (21, .iconst 1, 1), (22, .invokevirtual 222, 3), (25, .ifCond .eq 5, 3), (28, .iconst 0, 1), (29, .ireturn, 1), (30, .aload_n 0, 1), (31, .getfield 77, 3), (34, .bipush 60, 2), (36, .iload_n 1, 1), (37, .imul, 1), (38, .iload_n 2, 1), (39, .iadd, 1), (40, .baload, 1), (41, .ifCond .ne 5, 3), (44, .iconst (-1), 1), (45, .ireturn, 1), (46, .aload_n 0, 1), (47, .getfield 83, 3), (50, .bipush 60, 2), (52, .iload_n 1, 1), (53, .imul, 1), (54, .iload_n 2, 1), (55, .iadd, 1), (56, .iconst 1, 1), (57, .bastore, 1), (58, .aload_n 0, 1), (59, .getfield 86, 3), (62, .bipush 60, 2), (64, .iload_n 1, 1), (65, .imul, 1), (66, .iload_n 2, 1), (67, .iadd, 1), (68, .aload_n 0, 1), (69, .getfield 80, 3), (72, .bipush 60, 2), (74, .iload_n 1, 1), (75, .imul, 1), (76, .iload_n 2, 1), (77, .iadd, 1), (78, .iaload, 1), (79, .iastore, 1), (80, .iconst 0, 1), (81, .istore_n 3, 1), (82, .iload_n 3, 1), (83, .iconst 3, 1), (84, .if_icmp .ge 117, 3), (87, .iload_n 3, 1), (88, .iconst 1, 1), (89, .iadd, 1), (90, .istore 4, 2), (92, .iload 4, 2), (94, .iconst 3, 1), (95, .if_icmp .ge 100, 3), (98, .aload_n 0, 1), (99, .getfield 25, 3), (102, .iload_n 2, 1), (103, .baload, 1), (104, .ifCond .ne 91, 3), (107, .aload_n 0, 1), (108, .getfield 83, 3), (111, .bipush 60, 2), (113, .iload_n 3, 1), (114, .imul, 1), (115, .iload_n 2, 1), (116, .iadd, 1), (117, .baload, 1), (118, .ifCond .eq 71, 3), (121, .aload_n 0, 1), (122, .getfield 83, 3), (125, .bipush 60, 2), (127, .iload 4, 2), (129, .imul, 1), (130, .iload_n 2, 1), (131, .iadd, 1), (132, .baload, 1), (133, .ifCond .eq 56, 3), (136, .aload_n 0, 1), (137, .getfield 86, 3), (140, .bipush 60, 2), (142, .iload_n 3, 1), (143, .imul, 1), (144, .iload_n 2, 1), (145, .iadd, 1), (146, .iaload, 1), (147, .aload_n 0, 1), (148, .getfield 86, 3), (151, .bipush 60, 2), (153, .iload 4, 2), (155, .imul, 1), (156, .iload_n 2, 1), (157, .iadd, 1), (158, .iaload, 1), (159, .if_icmp .eq 6, 3), (162, .goto 27, 3), (165, .aload_n 0, 1), (166, .getfield 25, 3), (169, .iload_n 2, 1), (170, .iconst 1, 1), (171, .bastore, 1), (172, .aload_n 0, 1), (173, .getfield 29, 3), (176, .iload_n 2, 1), (177, .aload_n 0, 1), (178, .getfield 86, 3), (181, .bipush 60, 2), (183, .iload_n 3, 1), (184, .imul, 1), (185, .iload_n 2, 1), (186, .iadd, 1), (187, .iaload, 1), (188, .iastore, 1), (189, .iinc 4 1, 3), (192, .goto (-100), 3), (195, .iinc 3 1, 3), (198, .goto (-116), 3), (201, .aload_n 0, 1), (202, .getfield 25, 3), (205, .iload_n 2, 1), (206, .baload, 1), (207, .ifCond .eq 7, 3), (210, .iconst 1, 1), (211, .goto 4, 3), (214, .iconst 0, 1), (215, .ireturn, 1)]
def xi_139 : List (Nat × Instr × Nat) := [(0, .aload_n 0, 1), (1, .iload_n 1, 1), (2, .invokestatic 219, 3), (5, .ifCond .ne 7, 3), (8, .iconst 1, 1), (9, .goto 4, 3), (12, .iconst 0, 1), (13, .iconst 1, 1), (14, .invokevirtual 222, 3), (17, .ifCond .eq 5, 3), (20, .iconst 0, 1), (21, .ireturn, 1), (22, .iconst 0, 1), (23, .istore_n 2, 1), (24, .iload_n 2, 1), (25, .iconst 3, 1), (26, .if_icmp .ge 25, 3), (29, .iload_n 2, 1), (30, .iload_n 1, 1), (31, .if_icmp .eq 14, 3), (34, .aload_n 0, 1), (35, .getfield 62, 3), (38, .iload_n 2, 1), (39, .baload, 1), (40, .ifCond .eq 5, 3), (43, .iconst 0, 1), (44, .ireturn, 1), (45, .iinc 2 1, 3), (48, .goto (-24), 3), (51, .aload_n 0, 1), (52, .getfield 62, 3), (55, .iload_n 1, 1), (56, .iconst 1, 1), (57, .bastore, 1), (58, .iconst 1, 1), (59, .ireturn, 1)]
def xi_140 : List (Nat × Instr × Nat) := [(0, .aload_n 0, 1), (1, .iload_n 1, 1), (2, .invokestatic 219, 3), (5, .ifCond .ne 7, 3), (8, .iconst 1, 1), (9, .goto 4, 3), (12, .iconst 0, 1), (13, .iconst 1, 1), (14, .invokevirtual 222, 3), (17, .ifCond .ne 25, 3), (20, .aload_n 0, 1), (21, .aload_n 0, 1), (22, .getfield 62, 3), (25, .iload_n 1, 1), (26, .baload, 1), (27, .ifCond .ne 7, 3), (30, .iconst 1, 1), (31, .goto 4, 3), (34, .iconst 0, 1), (35, .iconst 2, 1), (36, .invokevirtual 222, 3), (39, .ifCond .eq 5, 3), (42, .iconst 0, 1), (43, .ireturn, 1), (44, .iload_n 2, 1), (45, .ifCond .lt 61, 3), (48, .iload_n 2, 1), (49, .iconst 4, 1), (50, .if_icmp .ge 56, 3), (53, .iload_n 3, 1), (54, .ifCond .lt 52, 3), (57, .iload_n 3, 1), (58, .bipush 31, 2), (60, .if_icmp .ge 46, 3), (63, .iload_n 2, 1), (64, .iconst 3, 1), (65, .if_icmp .ne 32, 3), (68, .iload 4, 2), (70, .ifCond .lt 36, 3), (73, .iload 4, 2), (75, .sipush 600, 3), (78, .if_icmp .gt 28, 3), (81, .iload 5, 2), (83, .ifCond .lt 23, 3), (86, .iload 5, 2), (88, .sipush 600, 3), (91, .if_icmp .gt 15, 3), (94, .goto 8, 3), (97, .iload 5, 2), (99, .ifCond .ne 7, 3), (102, .iconst 1, 1), (103, .goto 4, 3), (106, .iconst 0, 1), (107, .istore 6, 2), (109, .iload 6, 2), (111, .ifCond .eq 48, 3), (114, .iload_n 2, 1), (115, .ifCond .ne 12, 3), (118, .aload_n 0, 1), (119, .iload 4, 2), (121, .invokevirtual 215, 3), (124, .ifCond .eq 35, 3), (127, .iload_n 2, 1), (128, .iconst 1, 1), (129, .if_icmp .ne 16, 3), (132, .iload 4, 2), (134, .ifCond .lt 25, 3), (137, .iload 4, 2), (139, .sipush 200, 3), (142, .if_icmp .gt 17, 3), (145, .iload_n 2, 1), (146, .iconst 2, 1), (147, .if_icmp .ne 8, 3), (150, .iload 4, 2), (152, .ifCond .ne 7, 3), (155, .iconst 1, 1), (156, .goto 4, 3), (159, .iconst 0, 1), (160, .istore 6, 2), (162, .aload_n 0, 1), (163, .iload 6, 2), (165, .ifCond .ne 7, 3), (168, .iconst 1, 1), (169, .goto 4, 3), (172, .iconst 0, 1), (173, .iconst 3, 1), (174, .invokevirtual 222, 3), (177, .ifCond .eq 5, 3), (180, .iconst 0, 1), (181, .ireturn, 1), (182, .aload_n 0, 1), (183, .iload_n 1, 1), (184, .iload_n 2, 1), (185, .iload_n 3, 1), (186, .iload 4, 2), (188, .iload 5, 2), (190, .invokevirtual 195, 3), (193, .ireturn, 1)]
def xi_141 : List (Nat × Instr × Nat) := [(0, .aload_n 0, 1), (1, .iload_n 1, 1), (2, .invokestatic 219, 3), (5, .ifCond .ne 7, 3), (8, .iconst 1, 1), (9, .goto 4, 3), (12, .iconst 0, 1), (13, .iconst 1, 1), (14, .invokevirtual 222, 3), (17, .ifCond .ne 48, 3), (20, .aload_n 0, 1), (21, .aload_n 0, 1), (22, .getfield 62, 3), (25, .iload_n 1, 1), (26, .baload, 1), (27, .ifCond .ne 7, 3), (30, .iconst 1, 1), (31, .goto 4, 3), (34, .iconst 0, 1), (35, .iconst 2, 1), (36, .invokevirtual 222, 3), (39, .ifCond .ne 26, 3), (42, .aload_n 0, 1), (43, .iload_n 2, 1), (44, .ifCond .lt 9, 3), (47, .iload_n 2, 1), (48, .bipush 31, 2), (50, .if_icmp .lt 7, 3), (53, .iconst 1, 1), (54, .goto 4, 3), (57, .iconst 0, 1), (58, .iconst 3, 1), (59, .invokevirtual 222, 3), (62, .ifCond .eq 4, 3), (65, .return_, 1), (66, .aload_n 0, 1), (67, .getfield 95, 3), (70, .iconst 3, 1), (71, .iload_n 1, 1), (72, .imul, 1), (73, .iload_n 1, 1), (74, .iadd, 1), (75, .iload_n 2, 1), (76, .iastore, 1), (77, .return_, 1)]
def xi_142 : List (Nat × Instr × Nat) := [(0, .aload_n 0, 1), (1, .iload_n 1, 1), (2, .invokestatic 219, 3), (5, .ifCond .eq 11, 3), (8, .aload_n 0, 1), (9, .iload_n 2, 1), (10, .invokevirtual 215, 3), (13, .ifCond .ne 7, 3), (16, .iconst 1, 1), (17, .goto 4, 3), (20, .iconst 0, 1), (21, .iconst 1, 1), (22, .invokevirtual 222, 3), (25, .ifCond .ne 25, 3), (28, .aload_n 0, 1), (29, .aload_n 0, 1), (30, .getfield 62, 3), (33, .iload_n 1, 1), (34, .baload, 1), (35, .ifCond .ne 7, 3), (38, .iconst 1, 1), (39, .goto 4, 3), (42, .iconst 0, 1), (43, .iconst 2, 1), (44, .invokevirtual 222, 3), (47, .ifCond .eq 4, 3), (50, .return_, 1), (51, .aload_n 0, 1), (52, .getfield 77, 3), (55, .bipush 60, 2), (57, .iload_n 1, 1), (58, .imul, 1), (59, .iload_n 2, 1), (60, .iadd, 1), (61, .iconst 1, 1), (62, .bastore, 1), (63, .aload_n 0, 1), (64, .getfield 80, 3), (67, .bipush 60, 2), (69, .iload_n 1, 1), (70, .imul, 1), (71, .iload_n 2, 1), (72, .iadd, 1), (73, .iload_n 3, 1), (74, .iastore, 1), (75, .return_, 1)]
def xi_143 : List (Nat × Instr × Nat) := [(0, .aload_n 0, 1), (1, .iload_n 1, 1), (2, .invokestatic 219, 3), (5, .ifCond .ne 7, 3), (8, .iconst 1, 1), (9, .goto 4, 3), (12, .iconst 0, 1), (13, .iconst 1, 1), (14, .invokevirtual 222, 3), (17, .ifCond .ne 26, 3), (20, .aload_n 0, 1), (21, .iload_n 2, 1), (22, .ifCond .lt 9, 3), (25, .iload_n 2, 1), (26, .bipush 12, 2), (28, .if_icmp .le 7, 3), (31, .iconst 1, 1), (32, .goto 4, 3), (35, .iconst 0, 1), (36, .iconst 2, 1), (37, .invokevirtual 222, 3), (40, .ifCond .eq 5, 3), (43, .iconst 0, 1), (44, .ireturn, 1), (45, .iload_n 2, 1), (46, .tableswitch 126 0 8 #[50, 57, 72, 79, 86, 101, 112, 112, 112], 50), (96, .aload_n 0, 1), (97, .getfield 56, 3), (100, .iload_n 1, 1), (101, .iaload, 1), (102, .ireturn, 1), (103, .aload_n 0, 1), (104, .getfield 59, 3), (107, .iload_n 1, 1), (108, .baload, 1), (109, .ifCond .eq 7, 3), (112, .iconst 1, 1), (113, .goto 4, 3), (116, .iconst 0, 1), (117, .ireturn, 1), (118, .aload_n 0, 1), (119, .getfield 47, 3), (122, .iload_n 1, 1), (123, .iaload, 1), (124, .ireturn, 1), (125, .aload_n 0, 1), (126, .getfield 71, 3), (129, .iload_n 1, 1), (130, .iaload, 1), (131, .ireturn, 1), (132, .aload_n 0, 1), (133, .getfield 62, 3), (136, .iload_n 1, 1), (137, .baload, 1), (138, .ifCond .eq 7, 3), (141, .iconst 1, 1), (142, .goto 4, 3), (145, .iconst 0, 1), (146, .ireturn, 1), (147, .aload_n 0, 1), (148, .getfield 95, 3), (151, .iconst 3, 1), (152, .iload_n 1, 1), (153, .imul, 1), (154, .iload_n 1, 1), (155, .iadd, 1), (156, .iaload, 1), (157, .ireturn, 1), (158, .aload_n 0, 1), (159, .getfield 92, 3), (162, .iconst 3, 1), (163, .iload_n 1, 1), (164, .imul, 1), (165, .iload_n 2, 1), (166, .iadd, 1), (167, .bipush 6, 2), (169, .isub, 1), (170, .iaload, 1), (171, .ireturn, 1), (172, .aload_n 0, 1), (173, .getfield 65, 3), (176, .iconst 4, 1), (177, .iload_n 1, 1), (178, .imul, 1), (179, .iload_n 2, 1), (180, .iadd, 1), (181, .bipush 9, 2), (183, .isub, 1), (184, .iaload, 1), (185, .ireturn, 1)]
def xi_144 : List (Nat × Instr × Nat) := [(0, .aload_n 0, 1), (1, .iload_n 1, 1), (2, .invokestatic 219, 3), (5, .ifCond .ne 7, 3), (8, .iconst 1, 1), (9, .goto 4, 3), (12, .iconst 0, 1), (13, .iconst 1, 1), (14, .invokevirtual 222, 3), (17, .ifCond .eq 5, 3), (20, .iconst 0, 1), (21, .ireturn, 1), (22, .iload_n 2, 1), (23, .ifCond .lt 28, 3), (26, .iload_n 2, 1), (27, .aload_n 0, 1), (28, .getfield 71, 3), (31, .iload_n 1, 1), (32, .iaload, 1), (33, .if_icmp .ge 18, 3), (36, .aload_n 0, 1), (37, .getfield 68, 3), (40, .sipush 400, 3), (43, .iload_n 1, 1), (44, .imul, 1), (45, .iload_n 2, 1), (46, .iadd, 1), (47, .iaload, 1), (48, .goto 4, 3), (51, .iconst (-1), 1), (52, .ireturn, 1)]
def xi_145 : List (Nat × Instr × Nat) := [(0, .aload_n 0, 1), (1, .iload_n 1, 1), (2, .invokestatic 219, 3), (5, .ifCond .eq 12, 3), (8, .aload_n 0, 1), (9, .iload_n 1, 1), (10, .iload_n 2, 1), (11, .invokevirtual 130, 3), (14, .ifCond .ne 7, 3), (17, .iconst 1, 1), (18, .goto 4, 3), (21, .iconst 0, 1), (22, .iconst 1, 1), (23, .invokevirtual 222, 3), (26, .ifCond .ne 25, 3), (29, .aload_n 0, 1), (30, .iload_n 3, 1), (31, .ifCond .lt 8, 3), (34, .iload_n 3, 1), (35, .iconst 4, 1), (36, .if_icmp .le 7, 3), (39, .iconst 1, 1), (40, .goto 4, 3), (43, .iconst 0, 1), (44, .iconst 2, 1), (45, .invokevirtual 222, 3), (48, .ifCond .eq 5, 3), (51, .iconst 0, 1), (52, .ireturn, 1), (53, .iload_n 1, 1), (54, .iload_n 2, 1), (55, .invokestatic 126, 3), (58, .istore 4, 2), (60, .iload_n 3, 1), (61, .tableswitch 63 0 3 #[31, 39, 47, 55], 31), (92, .aload_n 0, 1), (93, .getfield 32, 3), (96, .iload 4, 2), (98, .iaload, 1), (99, .ireturn, 1), (100, .aload_n 0, 1), (101, .getfield 35, 3), (104, .iload 4, 2), (106, .iaload, 1), (107, .ireturn, 1), (108, .aload_n 0, 1), (109, .getfield 38, 3), (112, .iload 4, 2), (114, .iaload, 1), (115, .ireturn, 1), (116, .aload_n 0, 1), (117, .getfield 41, 3), (120, .iload 4, 2), (122, .iaload, 1), (123, .ireturn, 1), (124, .aload_n 0, 1), (125, .iload_n 1, 1), (126, .iload_n 2, 1), (127, .invokevirtual 154, 3), (130, .ifCond .eq 7, 3), (133, .iconst 1, 1), (134, .goto 4, 3), (137, .iconst 0, 1), (138, .ireturn, 1)]
def xi_146 : List (Nat × Instr × Nat) := [(0, .aload_n 0, 1), (1, .iload_n 1, 1), (2, .ifCond .lt 9, 3), (5, .iload_n 1, 1), (6, .bipush 31, 2), (8, .if_icmp .lt 7, 3), (11, .iconst 1, 1), (12, .goto 4, 3), (15, .iconst 0, 1), (16, .iconst 1, 1), (17, .invokevirtual 222, 3), (20, .ifCond .eq 5, 3), (23, .iconst 0, 1), (24, .ireturn, 1), (25, .iload_n 1, 1), (26, .ifCond .le 13, 3), (29, .aload_n 0, 1), (30, .iload_n 1, 1), (31, .invokevirtual 144, 3), (34, .ifCond .ne 5, 3), (37, .iconst (-1), 1), (38, .ireturn, 1), (39, .aload_n 0, 1), (40, .iload_n 1, 1), (41, .invokevirtual 206, 3), (44, .iload_n 2, 1), (45, .ifCond .lt 20, 3), (48, .iload_n 2, 1), (49, .aload_n 0, 1), (50, .getfield 164, 3), (53, .if_icmp .ge 12, 3), (56, .aload_n 0, 1), (57, .getfield 50, 3), (60, .iload_n 2, 1), (61, .iaload, 1), (62, .goto 4, 3), (65, .iconst (-1), 1), (66, .ireturn, 1)]
def xi_147 : List (Nat × Instr × Nat) := [(0, .aload_n 0, 1), (1, .aload_n 0, 1), (2, .iload_n 1, 1), (3, .invokevirtual 215, 3), (6, .ifCond .ne 7, 3), (9, .iconst 1, 1), (10, .goto 4, 3), (13, .iconst 0, 1), (14, .iconst 1, 1), (15, .invokevirtual 222, 3), (18, .ifCond .ne 25, 3), (21, .aload_n 0, 1), (22, .iload_n 2, 1), (23, .ifCond .lt 8, 3), (26, .iload_n 2, 1), (27, .iconst 3, 1), (28, .if_icmp .le 7, 3), (31, .iconst 1, 1), (32, .goto 4, 3), (35, .iconst 0, 1), (36, .iconst 2, 1), (37, .invokevirtual 222, 3), (40, .ifCond .eq 5, 3), (43, .iconst 0, 1), (44, .ireturn, 1), (45, .iload_n 2, 1), (46, .ifCond .ne 12, 3), (49, .aload_n 0, 1), (50, .getfield 9, 3), (53, .iload_n 1, 1), (54, .iaload, 1), (55, .goto 58, 3), (58, .iload_n 2, 1), (59, .iconst 1, 1), (60, .if_icmp .ne 12, 3), (63, .aload_n 0, 1), (64, .getfield 13, 3), (67, .iload_n 1, 1), (68, .iaload, 1), (69, .goto 44, 3), (72, .iload_n 2, 1), (73, .iconst 2, 1), (74, .if_icmp .ne 20, 3), (77, .aload_n 0, 1), (78, .getfield 25, 3), (81, .iload_n 1, 1), (82, .baload, 1), (83, .ifCond .eq 7, 3), (86, .iconst 1, 1), (87, .goto 26, 3), (90, .iconst 0, 1), (91, .goto 22, 3), (94, .aload_n 0, 1), (95, .getfield 25, 3), (98, .iload_n 1, 1), (99, .baload, 1), (100, .ifCond .eq 12, 3), (103, .aload_n 0, 1), (104, .getfield 29, 3), (107, .iload_n 1, 1), (108, .iaload, 1), (109, .goto 4, 3), (112, .iconst 0, 1), (113, .ireturn, 1)]
def xi_148 : List (Nat × Instr × Nat) := [(0, .aload_n 0, 1), (1, .iload_n 1, 1), (2, .invokestatic 219, 3), (5, .ifCond .eq 11, 3), (8, .aload_n 0, 1), (9, .iload_n 2, 1), (10, .invokevirtual 215, 3), (13, .ifCond .ne 7, 3), (16, .iconst 1, 1), (17, .goto 4, 3), (20, .iconst 0, 1), (21, .iconst 1, 1), (22, .invokevirtual 222, 3), (25, .ifCond .eq 5, 3), (28, .iconst 0, 1), (29, .ireturn, 1), (30, .aload_n 0, 1), (31, .getfield 77, 3), (34, .bipush 60, 2), (36, .iload_n 1, 1), (37, .imul, 1), (38, .iload_n 2, 1), (39, .iadd, 1), (40, .baload, 1), (41, .ifCond .eq 17, 3), (44, .aload_n 0, 1), (45, .getfield 80, 3), (48, .bipush 60, 2), (50, .iload_n 1, 1), (51, .imul, 1), (52, .iload_n 2, 1), (53, .iadd, 1), (54, .iaload, 1), (55, .goto 4, 3), (58, .iconst 0, 1), (59, .ireturn, 1)]
def xIt_0 : List (List (Nat × Instr × Nat)) := [xi_0, xi_1, xi_2, xi_3, xi_4, xi_5, xi_6, xi_7, xi_8, xi_9, xi_10, xi_11, xi_12, xi_13, xi_14, xi_15]
def xMt_0 : List (Nat × MethodName × ByteArray × Nat × Option FieldType) := [(0, yX0_init, cX0_init, 1, none), (0, yX0_take, cX0_take, 6, none), (0, yX0_isAnswered, cX0_isAnswered, 2, (some .boolean)), (0, yX0_answerTo, cX0_answerTo, 2, (some .int)), (1, yX1_init, cX1_init, 2, none), (1, yX1_has, cX1_has, 3, (some .boolean)), (1, yX1_countOf, cX1_countOf, 2, (some .int)), (1, yX1_tell, cX1_tell, 4, (some .int)), (1, yX1_openingOf, cX1_openingOf, 2, (some .int)), (1, yX1_rowOf, cX1_rowOf, 2, (some (.array .int))), (1, yX1_hasPrepared, cX1_hasPrepared, 4, (some .boolean)), (1, yX1_enter, cX1_enter, 9, (some .int)), (1, yX1_isVoid, cX1_isVoid, 10, (some .boolean)), (1, yX1_makeRow, cX1_makeRow, 8, none), (2, yX2_init, cX2_init, 1, none), (2, yX2_note, cX2_note, 3, none)]
def xIt_1 : List (List (Nat × Instr × Nat)) := [xi_16, xi_17, xi_18, xi_19, xi_20, xi_21, xi_22, xi_23, xi_24, xi_25, xi_26, xi_27, xi_28, xi_29, xi_30, xi_31]
def xMt_1 : List (Nat × MethodName × ByteArray × Nat × Option FieldType) := [(2, yX2_areOfTwo, cX2_areOfTwo, 2, (some .boolean)), (3, yX3_init, cX3_init, 1, none), (3, yX3_isFull, cX3_isFull, 1, (some .boolean)), (3, yX3_has, cX3_has, 2, (some .boolean)), (3, yX3_get, cX3_get, 3, (some .int)), (3, yX3_isOf, cX3_isOf, 4, (some .boolean)), (3, yX3_add, cX3_add, 7, (some .int)), (3, yX3_hasPrepared, cX3_hasPrepared, 4, (some .boolean)), (3, yX3_isBinding, cX3_isBinding, 2, (some .boolean)), (3, yX3_lastViewBelow, cX3_lastViewBelow, 6, (some .int)), (3, yX3_markTold, cX3_markTold, 6, none), (3, yX3_rowBehind, cX3_rowBehind, 8, (some (.array .int))), (4, yX4_init, cX4_init, 2, none), (4, yX4_put, cX4_put, 3, none), (4, yX4_holdsNext, cX4_holdsNext, 2, (some .boolean)), (4, yX4_nextOf, cX4_nextOf, 2, (some .int))]
def xIt_2 : List (List (Nat × Instr × Nat)) := [xi_32, xi_33, xi_34, xi_35, xi_36, xi_37, xi_38, xi_39, xi_40, xi_41, xi_42, xi_43, xi_44, xi_45, xi_46, xi_47]
def xMt_2 : List (Nat × MethodName × ByteArray × Nat × Option FieldType) := [(4, yX4_pass, cX4_pass, 2, none), (5, yX5_init, cX5_init, 1, none), (5, yX5_isFull, cX5_isFull, 1, (some .boolean)), (5, yX5_has, cX5_has, 2, (some .boolean)), (5, yX5_add, cX5_add, 5, (some .int)), (5, yX5_clientOf, cX5_clientOf, 2, (some .int)), (5, yX5_ownNumberOf, cX5_ownNumberOf, 2, (some .int)), (5, yX5_keyOf, cX5_keyOf, 2, (some .int)), (5, yX5_valueAfter, cX5_valueAfter, 3, (some .int)), (5, yX5_resultOf, cX5_resultOf, 3, (some .int)), (6, yX6_init, cX6_init, 5, none), (6, yX6_viewNow, cX6_viewNow, 1, (some .int)), (6, yX6_isActive, cX6_isActive, 1, (some .boolean)), (6, yX6_hasLied, cX6_hasLied, 1, (some .boolean)), (6, yX6_storeOf, cX6_storeOf, 1, (some (.object "CountedHouse$Store"))), (6, yX6_greatestAsked, cX6_greatestAsked, 1, (some .int))]
def xIt_3 : List (List (Nat × Instr × Nat)) := [xi_48, xi_49, xi_50, xi_51, xi_52, xi_53, xi_54, xi_55, xi_56, xi_57, xi_58, xi_59, xi_60, xi_61, xi_62, xi_63]
def xMt_3 : List (Nat × MethodName × ByteArray × Nat × Option FieldType) := [(6, yX6_readsNext, cX6_readsNext, 2, (some .int)), (6, yX6_startLying, cX6_startLying, 1, none), (6, yX6_claimAsking, cX6_claimAsking, 2, none), (6, yX6_hearAsking, cX6_hearAsking, 3, none), (6, yX6_followsAskings, cX6_followsAskings, 4, (some .boolean)), (6, yX6_prepares, cX6_prepares, 2, (some .boolean)), (6, yX6_receive, cX6_receive, 3, none), (6, yX6_readAll, cX6_readAll, 5, (some .int)), (6, yX6_nextSender, cX6_nextSender, 2, (some .int)), (6, yX6_waits, cX6_waits, 5, (some .boolean)), (6, yX6_take, cX6_take, 4, none), (6, yX6_enterView, cX6_enterView, 3, none), (6, yX6_doWhatIsDue, cX6_doWhatIsDue, 3, none), (7, yX7_init, cX7_init, 2, none), (7, yX7_length, cX7_length, 1, (some .int)), (7, yX7_doneAt, cX7_doneAt, 2, (some .int))]
def xIt_4 : List (List (Nat × Instr × Nat)) := [xi_64, xi_65, xi_66, xi_67, xi_68, xi_69, xi_70, xi_71, xi_72, xi_73, xi_74, xi_75, xi_76, xi_77, xi_78, xi_79]
def xMt_4 : List (Nat × MethodName × ByteArray × Nat × Option FieldType) := [(7, yX7_valueAt, cX7_valueAt, 2, (some .int)), (7, yX7_hasReply, cX7_hasReply, 2, (some .boolean)), (7, yX7_replyTo, cX7_replyTo, 2, (some .int)), (7, yX7_setReply, cX7_setReply, 3, none), (7, yX7_perform, cX7_perform, 6, none), (8, yX8_init, cX8_init, 1, none), (8, yX8_begin, cX8_begin, 2, none), (8, yX8_put, cX8_put, 2, none), (8, yX8_vote, cX8_vote, 2, none), (8, yX8_hasVote, cX8_hasVote, 2, (some .boolean)), (8, yX8_nextToDo, cX8_nextToDo, 1, (some .int)), (9, yX9_init, cX9_init, 2, none), (9, yX9_request, cX9_request, 5, (some .int)), (9, yX9_bring, cX9_bring, 4, (some .int)), (9, yX9_send, cX9_send, 5, (some .int)), (9, yX9_late, cX9_late, 4, (some .int))]
def xIt_5 : List (List (Nat × Instr × Nat)) := [xi_80, xi_81, xi_82, xi_83, xi_84, xi_85, xi_86, xi_87, xi_88, xi_89, xi_90, xi_91, xi_92, xi_93, xi_94, xi_95]
def xMt_5 : List (Nat × MethodName × ByteArray × Nat × Option FieldType) := [(9, yX9_ask, cX9_ask, 4, (some .int)), (9, yX9_reply, cX9_reply, 4, (some .int)), (9, yX9_lie, cX9_lie, 3, (some .boolean)), (9, yX9_certify, cX9_certify, 6, (some .int)), (9, yX9_askFor, cX9_askFor, 3, none), (9, yX9_replyWith, cX9_replyWith, 4, none), (9, yX9_state, cX9_state, 4, (some .int)), (9, yX9_history, cX9_history, 3, (some .int)), (9, yX9_message, cX9_message, 4, (some .int)), (9, yX9_row, cX9_row, 4, (some .int)), (9, yX9_told, cX9_told, 3, (some .int)), (9, yX9_result, cX9_result, 3, (some .int)), (9, yX9_checkServer, cX9_checkServer, 1, none), (9, yX9_checkRequest, cX9_checkRequest, 2, none), (9, yX9_checkMessage, cX9_checkMessage, 3, none), (9, yX9_checkNotSame, cX9_checkNotSame, 2, none)]
def xIt_6 : List (List (Nat × Instr × Nat)) := [xi_96, xi_97, xi_98, xi_99, xi_100, xi_101, xi_102, xi_103, xi_104, xi_105, xi_106, xi_107, xi_108, xi_109, xi_110, xi_111]
def xMt_6 : List (Nat × MethodName × ByteArray × Nat × Option FieldType) := [(9, yX9_checkView, cX9_checkView, 1, none), (9, yX9_checkLiar, cX9_checkLiar, 2, none), (9, yX9_canStandIn, cX9_canStandIn, 3, (some .boolean)), (9, yX9_leaderOf, cX9_leaderOf, 1, (some .int)), (9, yX9_pairOf, cX9_pairOf, 2, (some .int)), (9, yX9_serverOf, cX9_serverOf, 1, (some .int)), (9, yX9_numberOf, cX9_numberOf, 1, (some .int)), (10, yX10_init, cX10_init, 3, none), (10, yX10_thrown, cX10_thrown, 1, (some .int)), (10, yX10_request, cX10_request, 7, (some .int)), (10, yX10_at, cX10_at, 2, (some .int)), (10, yX10_isThere, cX10_isThere, 3, (some .boolean)), (10, yX10_hasLeft, cX10_hasLeft, 6, (some .boolean)), (10, yX10_isChange, cX10_isChange, 6, (some .boolean)), (10, yX10_isVoidNew, cX10_isVoidNew, 5, (some .boolean)), (10, yX10_opening, cX10_opening, 4, (some .int))]
def xIt_7 : List (List (Nat × Instr × Nat)) := [xi_112, xi_113, xi_114, xi_115, xi_116, xi_117, xi_118, xi_119, xi_120, xi_121, xi_122, xi_123, xi_124, xi_125, xi_126, xi_127]
def xMt_7 : List (Nat × MethodName × ByteArray × Nat × Option FieldType) := [(10, yX10_isVoidPrepare, cX10_isVoidPrepare, 5, (some .boolean)), (10, yX10_isVoidCommit, cX10_isVoidCommit, 8, (some .boolean)), (10, yX10_isVoid, cX10_isVoid, 3, (some .boolean)), (10, yX10_hasOf, cX10_hasOf, 8, (some .boolean)), (10, yX10_tells, cX10_tells, 7, (some .boolean)), (10, yX10_before, cX10_before, 4, (some .int)), (10, yX10_adds, cX10_adds, 11, none), (10, yX10_rows, cX10_rows, 4, none), (10, yX10_turnsTo, cX10_turnsTo, 5, none), (10, yX10_certifies, cX10_certifies, 8, (some .int)), (10, yX10_read, cX10_read, 6, none), (10, yX10_readPrepare, cX10_readPrepare, 3, none), (10, yX10_readNew, cX10_readNew, 4, none), (10, yX10_readChange, cX10_readChange, 10, none), (10, yX10_does, cX10_does, 5, none), (10, yX10_doOne, cX10_doOne, 6, none)]
def xIt_8 : List (List (Nat × Instr × Nat)) := [xi_128, xi_129, xi_130, xi_131, xi_132, xi_133, xi_134, xi_135, xi_136, xi_137, xi_138, xi_139, xi_140, xi_141, xi_142, xi_143]
def xMt_8 : List (Nat × MethodName × ByteArray × Nat × Option FieldType) := [(10, yX10_readsOn, cX10_readsOn, 5, (some .int)), (10, yX10_waits, cX10_waits, 5, (some .boolean)), (10, yX10_isServer, cX10_isServer, 1, (some .boolean)), (10, yX10_isRequest, cX10_isRequest, 2, (some .boolean)), (10, yX10_bad, cX10_bad, 3, (some .boolean)), (10, yX10_bring, cX10_bring, 4, (some .int)), (10, yX10_send, cX10_send, 4, (some .int)), (10, yX10_turns, cX10_turns, 6, (some .boolean)), (10, yX10_late, cX10_late, 3, (some .int)), (10, yX10_ask, cX10_ask, 4, (some .int)), (10, yX10_reply, cX10_reply, 5, (some .int)), (10, yX10_lie, cX10_lie, 3, (some .boolean)), (10, yX10_certify, cX10_certify, 7, (some .int)), (10, yX10_askFor, cX10_askFor, 3, none), (10, yX10_replyWith, cX10_replyWith, 4, none), (10, yX10_state, cX10_state, 3, (some .int))]
def xIt_9 : List (List (Nat × Instr × Nat)) := [xi_144, xi_145, xi_146, xi_147, xi_148]
def xMt_9 : List (Nat × MethodName × ByteArray × Nat × Option FieldType) := [(10, yX10_history, cX10_history, 3, (some .int)), (10, yX10_message, cX10_message, 5, (some .int)), (10, yX10_row, cX10_row, 3, (some .int)), (10, yX10_told, cX10_told, 3, (some .int)), (10, yX10_result, cX10_result, 3, (some .int))]
/-- instructions of a method, by its number -/
def xIt : List (List (Nat × Instr × Nat)) := xIt_0 ++ xIt_1 ++ xIt_2 ++ xIt_3 ++ xIt_4 ++ xIt_5 ++ xIt_6 ++ xIt_7 ++ xIt_8 ++ xIt_9
/-- methods: class, name, bytes, locals, what it returns -/
def xMt : List (Nat × MethodName × ByteArray × Nat × Option FieldType) := xMt_0 ++ xMt_1 ++ xMt_2 ++ xMt_3 ++ xMt_4 ++ xMt_5 ++ xMt_6 ++ xMt_7 ++ xMt_8 ++ xMt_9
/-- fields: (class, place in its pool) to (class of the field, its place, nest) -/
def xFt : List ((Nat × Nat) × (Nat × Nat × Bool)) := [((5, 9), (5, 0, false)), ((5, 15), (5, 1, false)), ((5, 18), (5, 2, false)), ((5, 21), (5, 3, false)), ((5, 24), (5, 4, false)), ((5, 27), (5, 5, false)), ((5, 30), (5, 6, false)), ((3, 9), (3, 0, false)), ((3, 19), (3, 1, false)), ((3, 15), (3, 2, false)), ((1, 11), (1, 0, false)), ((1, 17), (1, 1, false)), ((1, 23), (1, 2, false)), ((1, 26), (1, 3, false)), ((0, 9), (0, 0, false)), ((0, 15), (0, 1, false)), ((0, 19), (0, 2, false)), ((0, 22), (0, 3, false)), ((4, 11), (4, 0, false)), ((4, 15), (4, 1, false)), ((8, 9), (8, 0, false)), ((8, 15), (8, 1, false)), ((8, 23), (8, 2, false)), ((8, 27), (8, 3, false)), ((8, 19), (8, 4, false)), ((2, 9), (2, 0, false)), ((2, 15), (2, 1, false)), ((7, 28), (7, 0, false)), ((7, 9), (7, 1, false)), ((7, 15), (7, 2, false)), ((7, 18), (7, 3, false)), ((7, 21), (7, 4, false)), ((7, 25), (7, 5, false)), ((7, 32), (7, 6, false)), ((6, 40), (6, 0, false)), ((6, 44), (6, 1, false)), ((6, 53), (6, 2, false)), ((6, 12), (6, 3, false)), ((6, 21), (6, 4, false)), ((6, 28), (6, 5, false)), ((6, 32), (6, 6, false)), ((6, 57), (6, 7, false)), ((6, 36), (6, 8, false)), ((6, 60), (6, 9, false)), ((9, 12), (9, 0, false)), ((9, 19), (9, 1, false)), ((9, 26), (9, 2, false)), ((9, 32), (9, 3, false)), ((10, 119), (10, 0, false)), ((10, 9), (10, 1, false)), ((10, 13), (10, 2, false)), ((10, 16), (10, 3, false)), ((10, 19), (10, 4, false)), ((10, 22), (10, 5, false)), ((10, 25), (10, 6, false)), ((10, 29), (10, 7, false)), ((10, 123), (10, 8, false)), ((10, 32), (10, 9, false)), ((10, 35), (10, 10, false)), ((10, 38), (10, 11, false)), ((10, 41), (10, 12, false)), ((10, 44), (10, 13, false)), ((10, 47), (10, 14, false)), ((10, 174), (10, 15, false)), ((10, 50), (10, 16, false)), ((10, 164), (10, 17, false)), ((10, 53), (10, 18, false)), ((10, 56), (10, 19, false)), ((10, 59), (10, 20, false)), ((10, 62), (10, 21, false)), ((10, 65), (10, 22, false)), ((10, 68), (10, 23, false)), ((10, 71), (10, 24, false)), ((10, 74), (10, 25, false)), ((10, 77), (10, 26, false)), ((10, 80), (10, 27, false)), ((10, 83), (10, 28, false)), ((10, 86), (10, 29, false)), ((10, 89), (10, 30, false)), ((10, 92), (10, 31, false)), ((10, 95), (10, 32, false)), ((10, 98), (10, 33, false)), ((10, 101), (10, 34, false)), ((10, 104), (10, 35, false)), ((10, 107), (10, 36, false)), ((10, 110), (10, 37, false)), ((10, 113), (10, 38, false)), ((10, 116), (10, 39, false)), ((10, 203), (10, 40, false)), ((1, 35), (3, 1, true)), ((1, 63), (3, 2, true)), ((6, 171), (8, 3, true)), ((6, 149), (8, 4, true)), ((6, 140), (2, 0, true)), ((6, 143), (2, 1, true))]
/-- calls: (class, place in its pool) to (kind, method) -/
def xCt : List ((Nat × Nat) × (Nat × Nat)) := [((9, 3), (6, 0)), ((5, 3), (6, 0)), ((9, 18), (4, 4)), ((1, 3), (6, 0)), ((3, 3), (6, 0)), ((0, 3), (6, 0)), ((9, 36), (4, 42)), ((6, 3), (6, 0)), ((6, 11), (4, 28)), ((4, 3), (6, 0)), ((8, 3), (6, 0)), ((2, 3), (6, 0)), ((6, 50), (4, 61)), ((7, 3), (6, 0)), ((9, 50), (0, 34)), ((9, 59), (0, 36)), ((5, 34), (0, 34)), ((9, 63), (0, 93)), ((9, 196), (0, 35)), ((9, 67), (1, 92)), ((9, 70), (0, 53)), ((6, 89), (0, 10)), ((1, 43), (0, 23)), ((3, 36), (0, 21)), ((6, 80), (0, 11)), ((1, 47), (0, 18)), ((1, 51), (0, 12)), ((1, 70), (0, 21)), ((1, 39), (0, 20)), ((3, 22), (0, 19)), ((1, 55), (0, 22)), ((3, 26), (0, 18)), ((3, 30), (7, 0)), ((1, 59), (0, 13)), ((1, 80), (0, 25)), ((3, 40), (0, 24)), ((1, 83), (7, 0)), ((1, 88), (0, 26)), ((1, 92), (0, 27)), ((3, 43), (9, 0)), ((9, 74), (0, 55)), ((6, 97), (0, 56)), ((6, 63), (0, 31)), ((6, 111), (0, 6)), ((6, 114), (0, 30)), ((6, 118), (0, 57)), ((6, 122), (0, 7)), ((6, 101), (0, 32)), ((6, 105), (0, 58)), ((6, 126), (0, 71)), ((6, 128), (0, 72)), ((6, 134), (0, 15)), ((6, 137), (0, 16)), ((6, 76), (0, 59)), ((6, 146), (0, 70)), ((6, 108), (0, 60)), ((6, 152), (0, 8)), ((6, 155), (0, 73)), ((6, 158), (0, 9)), ((6, 162), (0, 62)), ((6, 165), (0, 68)), ((7, 40), (0, 35)), ((7, 45), (0, 37)), ((5, 38), (0, 35)), ((7, 49), (0, 38)), ((7, 52), (0, 39)), ((7, 55), (0, 40)), ((7, 59), (0, 41)), ((7, 62), (0, 67)), ((6, 168), (0, 74)), ((8, 30), (0, 73)), ((9, 78), (0, 94)), ((9, 201), (0, 5)), ((1, 31), (0, 19)), ((9, 82), (1, 95)), ((9, 85), (0, 45)), ((9, 88), (0, 54)), ((6, 93), (0, 29)), ((9, 91), (0, 43)), ((9, 94), (0, 51)), ((6, 67), (7, 0)), ((9, 97), (0, 52)), ((6, 73), (8, 0)), ((9, 100), (0, 47)), ((9, 103), (0, 46)), ((9, 107), (0, 65)), ((9, 112), (0, 66)), ((7, 36), (0, 65)), ((9, 116), (0, 1)), ((9, 120), (0, 2)), ((9, 123), (0, 49)), ((9, 126), (0, 97)), ((9, 129), (1, 96)), ((9, 132), (0, 98)), ((9, 140), (0, 11)), ((9, 144), (0, 50)), ((9, 147), (0, 67)), ((9, 150), (0, 44)), ((9, 153), (0, 6)), ((9, 156), (0, 62)), ((9, 159), (0, 48)), ((9, 162), (0, 64)), ((9, 167), (0, 63)), ((9, 172), (0, 7)), ((9, 176), (0, 9)), ((9, 180), (0, 37)), ((9, 183), (0, 38)), ((9, 186), (0, 3)), ((0, 25), (0, 2)), ((10, 1), (6, 0)), ((10, 215), (0, 131)), ((10, 219), (1, 130)), ((10, 222), (0, 132)), ((10, 126), (1, 106)), ((10, 195), (0, 121)), ((10, 177), (0, 122)), ((10, 154), (0, 114)), ((10, 148), (0, 112)), ((10, 144), (0, 111)), ((10, 141), (0, 110)), ((10, 134), (0, 109)), ((10, 130), (0, 107)), ((10, 138), (0, 108)), ((10, 151), (0, 113)), ((10, 181), (0, 123)), ((10, 184), (0, 125)), ((10, 188), (0, 124)), ((10, 199), (0, 120)), ((10, 191), (0, 126)), ((10, 206), (0, 119)), ((10, 167), (0, 117)), ((10, 157), (0, 115)), ((10, 170), (0, 118)), ((10, 160), (0, 116)), ((10, 209), (0, 127)), ((10, 226), (0, 128)), ((10, 212), (0, 129)), ((10, 229), (0, 135)), ((9, 11), (5, 33)), ((1, 30), (5, 17)), ((9, 25), (5, 0)), ((6, 20), (5, 69)), ((6, 27), (5, 14)), ((6, 86), (2, 99)), ((1, 66), (2, 99)), ((1, 74), (2, 101)), ((1, 77), (2, 102)), ((6, 131), (2, 100)), ((2, 18), (2, 101))]
def xKt : List ((Nat × Nat) × Nat) := [((9, 9), 5), ((9, 16), 1), ((1, 9), 3), ((9, 23), 0), ((9, 30), 6), ((6, 9), 4), ((6, 18), 8), ((6, 25), 2), ((6, 48), 7)]
end
section
/-! what the tables' words say of the instruction tables -/
def xR (o : Nat) : String := (vwCl.getD o (RX0, TX0, 4)).1
def xT : List Cond := lw_tbl.filter goodWord
def xNest (w : Cond) : Bool := match w with
  | .fieldLinkNest _ _ _ _ _ _ => true
  | .methodLinkNest _ _ _ _ => true
  | _ => false
def xN : List Cond := lw_tbl.filter xNest
def xIn (u pc : Nat) : Option (Instr × Nat) := (xIt.getD u []).lookup pc
def xM (u : Nat) : Nat × MethodName × ByteArray × Nat × Option FieldType := xMt.getD u (0, yX0_init, cX0_init, 1, none)
def xF (o i : Nat) : Option (Nat × Nat × Bool) := xFt.lookup (o, i)
def xC (o i : Nat) : Option (Nat × Nat) := xCt.lookup (o, i)
def xK (o i : Nat) : Option Nat := xKt.lookup (o, i)
theorem xtm {w : Cond} (h : w ∈ lw_tbl) (g : goodWord w = true) : w ∈ xT := List.mem_filter.mpr ⟨h, g⟩
theorem xnm {w : Cond} (h : w ∈ lw_tbl) (g : xNest w = true) : w ∈ xN := List.mem_filter.mpr ⟨h, g⟩
theorem xl0 {w : Cond} (h : w ∈ k2_sels lw_privs) : w ∈ lw_tbl := List.mem_append_left _ h
theorem xl1 {w : Cond} (h : w ∈ tables_1_1) : w ∈ lw_tbl := List.mem_append_right _ (List.mem_append_left _ h)
theorem xl2 {w : Cond} (h : w ∈ tables_1_2) : w ∈ lw_tbl := List.mem_append_right _ (List.mem_append_right _ (List.mem_append_left _ h))
theorem xl3 {w : Cond} (h : w ∈ tables_1_3) : w ∈ lw_tbl := List.mem_append_right _ (List.mem_append_right _ (List.mem_append_right _ (List.mem_append_left _ h)))
theorem xl4 {w : Cond} (h : w ∈ tables_1_4) : w ∈ lw_tbl := List.mem_append_right _ (List.mem_append_right _ (List.mem_append_right _ (List.mem_append_right _ (List.mem_append_left _ h))))
theorem xl5 {w : Cond} (h : w ∈ tables_1_5) : w ∈ lw_tbl := List.mem_append_right _ (List.mem_append_right _ (List.mem_append_right _ (List.mem_append_right _ (List.mem_append_right _ h))))
theorem xt0 {w : Cond} (i : Nat) (h : (k2_sels lw_privs)[i]? = some w) (g : goodWord w = true) : w ∈ xT := xtm (xl0 (List.mem_of_getElem? h)) g
theorem xn0 {w : Cond} (i : Nat) (h : (k2_sels lw_privs)[i]? = some w) (g : xNest w = true) : w ∈ xN := xnm (xl0 (List.mem_of_getElem? h)) g
theorem xt1 {w : Cond} (i : Nat) (h : tables_1_1[i]? = some w) (g : goodWord w = true) : w ∈ xT := xtm (xl1 (List.mem_of_getElem? h)) g
theorem xn1 {w : Cond} (i : Nat) (h : tables_1_1[i]? = some w) (g : xNest w = true) : w ∈ xN := xnm (xl1 (List.mem_of_getElem? h)) g
theorem xt2 {w : Cond} (i : Nat) (h : tables_1_2[i]? = some w) (g : goodWord w = true) : w ∈ xT := xtm (xl2 (List.mem_of_getElem? h)) g
theorem xn2 {w : Cond} (i : Nat) (h : tables_1_2[i]? = some w) (g : xNest w = true) : w ∈ xN := xnm (xl2 (List.mem_of_getElem? h)) g
theorem xt3 {w : Cond} (i : Nat) (h : tables_1_3[i]? = some w) (g : goodWord w = true) : w ∈ xT := xtm (xl3 (List.mem_of_getElem? h)) g
theorem xn3 {w : Cond} (i : Nat) (h : tables_1_3[i]? = some w) (g : xNest w = true) : w ∈ xN := xnm (xl3 (List.mem_of_getElem? h)) g
theorem xt4 {w : Cond} (i : Nat) (h : tables_1_4[i]? = some w) (g : goodWord w = true) : w ∈ xT := xtm (xl4 (List.mem_of_getElem? h)) g
theorem xn4 {w : Cond} (i : Nat) (h : tables_1_4[i]? = some w) (g : xNest w = true) : w ∈ xN := xnm (xl4 (List.mem_of_getElem? h)) g
theorem xt5 {w : Cond} (i : Nat) (h : tables_1_5[i]? = some w) (g : goodWord w = true) : w ∈ xT := xtm (xl5 (List.mem_of_getElem? h)) g
theorem xn5 {w : Cond} (i : Nat) (h : tables_1_5[i]? = some w) (g : xNest w = true) : w ∈ xN := xnm (xl5 (List.mem_of_getElem? h)) g
/-- the class of a field's table row -/
def xV (c : Nat) : vw_C := vwCl.getD c (RX0, TX0, 4)
def xPF (q : (Nat × Nat) × (Nat × Nat × Bool)) : Prop := vwCl[q.2.1]? = some (xV q.2.1) ∧ q.2.2.1 < (xV q.2.1).2.2 ∧
  (q.2.2.2 = false → Cond.fieldLink (xR q.1.1) q.1.2 ((xV q.2.1).2.1 q.2.2.1).1 ((xV q.2.1).2.1 q.2.2.1).2.1 ((xV q.2.1).2.1 q.2.2.1).2.2.1 ∈ xT) ∧
  (q.2.2.2 = true → Cond.fieldLinkNest (xR q.1.1) q.1.2 ((xV q.2.1).2.1 q.2.2.1).1 ((xV q.2.1).2.1 q.2.2.1).2.1 ((xV q.2.1).2.1 q.2.2.1).2.2.1 RX9 ∈ xN)
def xPM (m : Nat × MethodName × ByteArray × Nat × Option FieldType) : Prop := Cond.code m.2.1 m.2.2.1 m.2.2.2.1 m.2.2.2.2 ∈ xT ∧ xR m.1 = m.2.1.cls ∧ plainName m.2.1.cls = true ∧ (m.2.1.cls ≠ "java/lang/invoke/MethodHandle" ∧ m.2.1.cls ≠ "java/lang/invoke/VarHandle") ∧ m.2.2.2.1 ≤ 20 ∧ Cond.initialized m.2.1.cls ∈ xT
def xPC (q : (Nat × Nat) × (Nat × Nat)) : Prop := match q.2.1 with
  | 0 => Cond.methodLink (xR q.1.1) q.1.2 (xM q.2.2).2.1 ∈ xT ∧ Cond.instanceMethod (xM q.2.2).2.1 ∈ xT ∧ Cond.selects (xM q.2.2).2.1.cls (xM q.2.2).2.1 (xM q.2.2).2.1 ∈ xT
  | 1 => Cond.methodLink (xR q.1.1) q.1.2 (xM q.2.2).2.1 ∈ xT ∧ Cond.static (xM q.2.2).2.1 ∈ xT
  | 2 => Cond.methodLinkNest (xR q.1.1) q.1.2 (xM q.2.2).2.1 RX9 ∈ xN ∧ Cond.static (xM q.2.2).2.1 ∈ xT
  | 4 => Cond.methodLink (xR q.1.1) q.1.2 (xM q.2.2).2.1 ∈ xT ∧ Cond.instanceMethod (xM q.2.2).2.1 ∈ xT
  | 5 => Cond.methodLinkNest (xR q.1.1) q.1.2 (xM q.2.2).2.1 RX9 ∈ xN ∧ Cond.instanceMethod (xM q.2.2).2.1 ∈ xT
  | 6 => Cond.methodLink (xR q.1.1) q.1.2 objectInit ∈ xT ∧ Cond.instanceMethod objectInit ∈ xT ∧ Cond.code objectInit ⟨#[0xb1]⟩ 1 none ∈ xT
  | 7 => Cond.methodLink (xR q.1.1) q.1.2 Lib.Math.max.name ∈ xT ∧ Cond.static Lib.Math.max.name ∈ xT ∧ Cond.initialized "java/lang/Math" ∈ xT ∧ Cond.code Lib.Math.max.name Lib.Math.max.code 2 (some .int) ∈ xT
  | 8 => Cond.methodLink (xR q.1.1) q.1.2 Lib.Math.min.name ∈ xT ∧ Cond.static Lib.Math.min.name ∈ xT ∧ Cond.initialized "java/lang/Math" ∈ xT ∧ Cond.code Lib.Math.min.name Lib.Math.min.code 2 (some .int) ∈ xT
  | 9 => Cond.methodLink (xR q.1.1) q.1.2 arraycopyName ∈ xT ∧ Cond.native arraycopyName ∈ xT ∧ Cond.static arraycopyName ∈ xT ∧ Cond.initialized "java/lang/System" ∈ xT
  | _ => False
def xChkI (b : ByteArray) (l : List (Nat × Instr × Nat)) : Bool := l.all fun q => decide (decode b q.1 = .ok (q.2.1, q.2.2))
theorem xf_0 : xPF ((5, 9), (5, 0, false)) := ⟨rfl, by decide, fun _ => (xt1 34 rfl rfl), (fun h => nomatch h)⟩
theorem xf_1 : xPF ((5, 15), (5, 1, false)) := ⟨rfl, by decide, fun _ => (xt1 35 rfl rfl), (fun h => nomatch h)⟩
theorem xf_2 : xPF ((5, 18), (5, 2, false)) := ⟨rfl, by decide, fun _ => (xt1 36 rfl rfl), (fun h => nomatch h)⟩
theorem xf_3 : xPF ((5, 21), (5, 3, false)) := ⟨rfl, by decide, fun _ => (xt1 37 rfl rfl), (fun h => nomatch h)⟩
theorem xf_4 : xPF ((5, 24), (5, 4, false)) := ⟨rfl, by decide, fun _ => (xt1 38 rfl rfl), (fun h => nomatch h)⟩
theorem xf_5 : xPF ((5, 27), (5, 5, false)) := ⟨rfl, by decide, fun _ => (xt1 39 rfl rfl), (fun h => nomatch h)⟩
theorem xf_6 : xPF ((5, 30), (5, 6, false)) := ⟨rfl, by decide, fun _ => (xt1 40 rfl rfl), (fun h => nomatch h)⟩
theorem xf_7 : xPF ((3, 9), (3, 0, false)) := ⟨rfl, by decide, fun _ => (xt1 72 rfl rfl), (fun h => nomatch h)⟩
theorem xf_8 : xPF ((3, 19), (3, 1, false)) := ⟨rfl, by decide, fun _ => (xt1 73 rfl rfl), (fun h => nomatch h)⟩
theorem xf_9 : xPF ((3, 15), (3, 2, false)) := ⟨rfl, by decide, fun _ => (xt1 75 rfl rfl), (fun h => nomatch h)⟩
theorem xf_10 : xPF ((1, 11), (1, 0, false)) := ⟨rfl, by decide, fun _ => (xt1 85 rfl rfl), (fun h => nomatch h)⟩
theorem xf_11 : xPF ((1, 17), (1, 1, false)) := ⟨rfl, by decide, fun _ => (xt1 86 rfl rfl), (fun h => nomatch h)⟩
theorem xf_12 : xPF ((1, 23), (1, 2, false)) := ⟨rfl, by decide, fun _ => (xt1 87 rfl rfl), (fun h => nomatch h)⟩
theorem xf_13 : xPF ((1, 26), (1, 3, false)) := ⟨rfl, by decide, fun _ => (xt1 88 rfl rfl), (fun h => nomatch h)⟩
theorem xf_14 : xPF ((0, 9), (0, 0, false)) := ⟨rfl, by decide, fun _ => (xt1 104 rfl rfl), (fun h => nomatch h)⟩
theorem xf_15 : xPF ((0, 15), (0, 1, false)) := ⟨rfl, by decide, fun _ => (xt1 105 rfl rfl), (fun h => nomatch h)⟩
theorem xf_16 : xPF ((0, 19), (0, 2, false)) := ⟨rfl, by decide, fun _ => (xt1 106 rfl rfl), (fun h => nomatch h)⟩
theorem xf_17 : xPF ((0, 22), (0, 3, false)) := ⟨rfl, by decide, fun _ => (xt1 107 rfl rfl), (fun h => nomatch h)⟩
theorem xf_18 : xPF ((4, 11), (4, 0, false)) := ⟨rfl, by decide, fun _ => (xt1 130 rfl rfl), (fun h => nomatch h)⟩
theorem xf_19 : xPF ((4, 15), (4, 1, false)) := ⟨rfl, by decide, fun _ => (xt1 131 rfl rfl), (fun h => nomatch h)⟩
theorem xf_20 : xPF ((8, 9), (8, 0, false)) := ⟨rfl, by decide, fun _ => (xt1 143 rfl rfl), (fun h => nomatch h)⟩
theorem xf_21 : xPF ((8, 15), (8, 1, false)) := ⟨rfl, by decide, fun _ => (xt1 144 rfl rfl), (fun h => nomatch h)⟩
theorem xf_22 : xPF ((8, 23), (8, 2, false)) := ⟨rfl, by decide, fun _ => (xt1 145 rfl rfl), (fun h => nomatch h)⟩
theorem xf_23 : xPF ((8, 27), (8, 3, false)) := ⟨rfl, by decide, fun _ => (xt1 146 rfl rfl), (fun h => nomatch h)⟩
theorem xf_24 : xPF ((8, 19), (8, 4, false)) := ⟨rfl, by decide, fun _ => (xt1 148 rfl rfl), (fun h => nomatch h)⟩
theorem xf_25 : xPF ((2, 9), (2, 0, false)) := ⟨rfl, by decide, fun _ => (xt1 167 rfl rfl), (fun h => nomatch h)⟩
theorem xf_26 : xPF ((2, 15), (2, 1, false)) := ⟨rfl, by decide, fun _ => (xt1 169 rfl rfl), (fun h => nomatch h)⟩
theorem xf_27 : xPF ((7, 28), (7, 0, false)) := ⟨rfl, by decide, fun _ => (xt1 182 rfl rfl), (fun h => nomatch h)⟩
theorem xf_28 : xPF ((7, 9), (7, 1, false)) := ⟨rfl, by decide, fun _ => (xt1 183 rfl rfl), (fun h => nomatch h)⟩
theorem xf_29 : xPF ((7, 15), (7, 2, false)) := ⟨rfl, by decide, fun _ => (xt1 184 rfl rfl), (fun h => nomatch h)⟩
theorem xf_30 : xPF ((7, 18), (7, 3, false)) := ⟨rfl, by decide, fun _ => (xt1 185 rfl rfl), (fun h => nomatch h)⟩
theorem xf_31 : xPF ((7, 21), (7, 4, false)) := ⟨rfl, by decide, fun _ => (xt1 186 rfl rfl), (fun h => nomatch h)⟩
theorem xf_32 : xPF ((7, 25), (7, 5, false)) := ⟨rfl, by decide, fun _ => (xt1 187 rfl rfl), (fun h => nomatch h)⟩
theorem xf_33 : xPF ((7, 32), (7, 6, false)) := ⟨rfl, by decide, fun _ => (xt1 188 rfl rfl), (fun h => nomatch h)⟩
theorem xf_34 : xPF ((6, 40), (6, 0, false)) := ⟨rfl, by decide, fun _ => (xt1 204 rfl rfl), (fun h => nomatch h)⟩
theorem xf_35 : xPF ((6, 44), (6, 1, false)) := ⟨rfl, by decide, fun _ => (xt1 205 rfl rfl), (fun h => nomatch h)⟩
theorem xf_36 : xPF ((6, 53), (6, 2, false)) := ⟨rfl, by decide, fun _ => (xt1 206 rfl rfl), (fun h => nomatch h)⟩
theorem xf_37 : xPF ((6, 12), (6, 3, false)) := ⟨rfl, by decide, fun _ => (xt1 207 rfl rfl), (fun h => nomatch h)⟩
theorem xf_38 : xPF ((6, 21), (6, 4, false)) := ⟨rfl, by decide, fun _ => (xt1 208 rfl rfl), (fun h => nomatch h)⟩
theorem xf_39 : xPF ((6, 28), (6, 5, false)) := ⟨rfl, by decide, fun _ => (xt1 209 rfl rfl), (fun h => nomatch h)⟩
theorem xf_40 : xPF ((6, 32), (6, 6, false)) := ⟨rfl, by decide, fun _ => (xt1 210 rfl rfl), (fun h => nomatch h)⟩
theorem xf_41 : xPF ((6, 57), (6, 7, false)) := ⟨rfl, by decide, fun _ => (xt1 211 rfl rfl), (fun h => nomatch h)⟩
theorem xf_42 : xPF ((6, 36), (6, 8, false)) := ⟨rfl, by decide, fun _ => (xt1 212 rfl rfl), (fun h => nomatch h)⟩
theorem xf_43 : xPF ((6, 60), (6, 9, false)) := ⟨rfl, by decide, fun _ => (xt1 213 rfl rfl), (fun h => nomatch h)⟩
theorem xf_44 : xPF ((9, 12), (9, 0, false)) := ⟨rfl, by decide, fun _ => (xt1 235 rfl rfl), (fun h => nomatch h)⟩
theorem xf_45 : xPF ((9, 19), (9, 1, false)) := ⟨rfl, by decide, fun _ => (xt1 236 rfl rfl), (fun h => nomatch h)⟩
theorem xf_46 : xPF ((9, 26), (9, 2, false)) := ⟨rfl, by decide, fun _ => (xt1 237 rfl rfl), (fun h => nomatch h)⟩
theorem xf_47 : xPF ((9, 32), (9, 3, false)) := ⟨rfl, by decide, fun _ => (xt1 238 rfl rfl), (fun h => nomatch h)⟩
theorem xf_48 : xPF ((10, 119), (10, 0, false)) := ⟨rfl, by decide, fun _ => (xt4 92 rfl rfl), (fun h => nomatch h)⟩
theorem xf_49 : xPF ((10, 9), (10, 1, false)) := ⟨rfl, by decide, fun _ => (xt4 93 rfl rfl), (fun h => nomatch h)⟩
theorem xf_50 : xPF ((10, 13), (10, 2, false)) := ⟨rfl, by decide, fun _ => (xt4 94 rfl rfl), (fun h => nomatch h)⟩
theorem xf_51 : xPF ((10, 16), (10, 3, false)) := ⟨rfl, by decide, fun _ => (xt4 95 rfl rfl), (fun h => nomatch h)⟩
theorem xf_52 : xPF ((10, 19), (10, 4, false)) := ⟨rfl, by decide, fun _ => (xt4 96 rfl rfl), (fun h => nomatch h)⟩
theorem xf_53 : xPF ((10, 22), (10, 5, false)) := ⟨rfl, by decide, fun _ => (xt4 97 rfl rfl), (fun h => nomatch h)⟩
theorem xf_54 : xPF ((10, 25), (10, 6, false)) := ⟨rfl, by decide, fun _ => (xt4 98 rfl rfl), (fun h => nomatch h)⟩
theorem xf_55 : xPF ((10, 29), (10, 7, false)) := ⟨rfl, by decide, fun _ => (xt4 99 rfl rfl), (fun h => nomatch h)⟩
theorem xf_56 : xPF ((10, 123), (10, 8, false)) := ⟨rfl, by decide, fun _ => (xt4 100 rfl rfl), (fun h => nomatch h)⟩
theorem xf_57 : xPF ((10, 32), (10, 9, false)) := ⟨rfl, by decide, fun _ => (xt4 101 rfl rfl), (fun h => nomatch h)⟩
theorem xf_58 : xPF ((10, 35), (10, 10, false)) := ⟨rfl, by decide, fun _ => (xt4 102 rfl rfl), (fun h => nomatch h)⟩
theorem xf_59 : xPF ((10, 38), (10, 11, false)) := ⟨rfl, by decide, fun _ => (xt4 103 rfl rfl), (fun h => nomatch h)⟩
theorem xf_60 : xPF ((10, 41), (10, 12, false)) := ⟨rfl, by decide, fun _ => (xt4 104 rfl rfl), (fun h => nomatch h)⟩
theorem xf_61 : xPF ((10, 44), (10, 13, false)) := ⟨rfl, by decide, fun _ => (xt4 105 rfl rfl), (fun h => nomatch h)⟩
theorem xf_62 : xPF ((10, 47), (10, 14, false)) := ⟨rfl, by decide, fun _ => (xt4 106 rfl rfl), (fun h => nomatch h)⟩
theorem xf_63 : xPF ((10, 174), (10, 15, false)) := ⟨rfl, by decide, fun _ => (xt4 107 rfl rfl), (fun h => nomatch h)⟩
theorem xf_64 : xPF ((10, 50), (10, 16, false)) := ⟨rfl, by decide, fun _ => (xt4 108 rfl rfl), (fun h => nomatch h)⟩
theorem xf_65 : xPF ((10, 164), (10, 17, false)) := ⟨rfl, by decide, fun _ => (xt4 109 rfl rfl), (fun h => nomatch h)⟩
theorem xf_66 : xPF ((10, 53), (10, 18, false)) := ⟨rfl, by decide, fun _ => (xt4 110 rfl rfl), (fun h => nomatch h)⟩
theorem xf_67 : xPF ((10, 56), (10, 19, false)) := ⟨rfl, by decide, fun _ => (xt4 111 rfl rfl), (fun h => nomatch h)⟩
theorem xf_68 : xPF ((10, 59), (10, 20, false)) := ⟨rfl, by decide, fun _ => (xt4 112 rfl rfl), (fun h => nomatch h)⟩
theorem xf_69 : xPF ((10, 62), (10, 21, false)) := ⟨rfl, by decide, fun _ => (xt4 113 rfl rfl), (fun h => nomatch h)⟩
theorem xf_70 : xPF ((10, 65), (10, 22, false)) := ⟨rfl, by decide, fun _ => (xt4 114 rfl rfl), (fun h => nomatch h)⟩
theorem xf_71 : xPF ((10, 68), (10, 23, false)) := ⟨rfl, by decide, fun _ => (xt4 115 rfl rfl), (fun h => nomatch h)⟩
theorem xf_72 : xPF ((10, 71), (10, 24, false)) := ⟨rfl, by decide, fun _ => (xt4 116 rfl rfl), (fun h => nomatch h)⟩
theorem xf_73 : xPF ((10, 74), (10, 25, false)) := ⟨rfl, by decide, fun _ => (xt4 117 rfl rfl), (fun h => nomatch h)⟩
theorem xf_74 : xPF ((10, 77), (10, 26, false)) := ⟨rfl, by decide, fun _ => (xt4 118 rfl rfl), (fun h => nomatch h)⟩
theorem xf_75 : xPF ((10, 80), (10, 27, false)) := ⟨rfl, by decide, fun _ => (xt4 119 rfl rfl), (fun h => nomatch h)⟩
theorem xf_76 : xPF ((10, 83), (10, 28, false)) := ⟨rfl, by decide, fun _ => (xt4 120 rfl rfl), (fun h => nomatch h)⟩
theorem xf_77 : xPF ((10, 86), (10, 29, false)) := ⟨rfl, by decide, fun _ => (xt4 121 rfl rfl), (fun h => nomatch h)⟩
theorem xf_78 : xPF ((10, 89), (10, 30, false)) := ⟨rfl, by decide, fun _ => (xt4 122 rfl rfl), (fun h => nomatch h)⟩
theorem xf_79 : xPF ((10, 92), (10, 31, false)) := ⟨rfl, by decide, fun _ => (xt4 123 rfl rfl), (fun h => nomatch h)⟩
theorem xf_80 : xPF ((10, 95), (10, 32, false)) := ⟨rfl, by decide, fun _ => (xt4 124 rfl rfl), (fun h => nomatch h)⟩
theorem xf_81 : xPF ((10, 98), (10, 33, false)) := ⟨rfl, by decide, fun _ => (xt4 125 rfl rfl), (fun h => nomatch h)⟩
theorem xf_82 : xPF ((10, 101), (10, 34, false)) := ⟨rfl, by decide, fun _ => (xt4 126 rfl rfl), (fun h => nomatch h)⟩
theorem xf_83 : xPF ((10, 104), (10, 35, false)) := ⟨rfl, by decide, fun _ => (xt4 127 rfl rfl), (fun h => nomatch h)⟩
theorem xf_84 : xPF ((10, 107), (10, 36, false)) := ⟨rfl, by decide, fun _ => (xt4 128 rfl rfl), (fun h => nomatch h)⟩
theorem xf_85 : xPF ((10, 110), (10, 37, false)) := ⟨rfl, by decide, fun _ => (xt4 129 rfl rfl), (fun h => nomatch h)⟩
theorem xf_86 : xPF ((10, 113), (10, 38, false)) := ⟨rfl, by decide, fun _ => (xt4 130 rfl rfl), (fun h => nomatch h)⟩
theorem xf_87 : xPF ((10, 116), (10, 39, false)) := ⟨rfl, by decide, fun _ => (xt4 131 rfl rfl), (fun h => nomatch h)⟩
theorem xf_88 : xPF ((10, 203), (10, 40, false)) := ⟨rfl, by decide, fun _ => (xt4 132 rfl rfl), (fun h => nomatch h)⟩
theorem xf_89 : xPF ((1, 35), (3, 1, true)) := ⟨rfl, by decide, (fun h => nomatch h), fun _ => (xn1 74 rfl rfl)⟩
theorem xf_90 : xPF ((1, 63), (3, 2, true)) := ⟨rfl, by decide, (fun h => nomatch h), fun _ => (xn1 76 rfl rfl)⟩
theorem xf_91 : xPF ((6, 171), (8, 3, true)) := ⟨rfl, by decide, (fun h => nomatch h), fun _ => (xn1 147 rfl rfl)⟩
theorem xf_92 : xPF ((6, 149), (8, 4, true)) := ⟨rfl, by decide, (fun h => nomatch h), fun _ => (xn1 149 rfl rfl)⟩
theorem xf_93 : xPF ((6, 140), (2, 0, true)) := ⟨rfl, by decide, (fun h => nomatch h), fun _ => (xn1 168 rfl rfl)⟩
theorem xf_94 : xPF ((6, 143), (2, 1, true)) := ⟨rfl, by decide, (fun h => nomatch h), fun _ => (xn1 170 rfl rfl)⟩
set_option maxRecDepth 100000 in
theorem xFt_ok : ∀ q ∈ xFt, xPF q := List.forall_mem_cons.mpr ⟨xf_0, List.forall_mem_cons.mpr ⟨xf_1, List.forall_mem_cons.mpr ⟨xf_2, List.forall_mem_cons.mpr ⟨xf_3, List.forall_mem_cons.mpr ⟨xf_4, List.forall_mem_cons.mpr ⟨xf_5, List.forall_mem_cons.mpr ⟨xf_6, List.forall_mem_cons.mpr ⟨xf_7, List.forall_mem_cons.mpr ⟨xf_8, List.forall_mem_cons.mpr ⟨xf_9, List.forall_mem_cons.mpr ⟨xf_10, List.forall_mem_cons.mpr ⟨xf_11, List.forall_mem_cons.mpr ⟨xf_12, List.forall_mem_cons.mpr ⟨xf_13, List.forall_mem_cons.mpr ⟨xf_14, List.forall_mem_cons.mpr ⟨xf_15, List.forall_mem_cons.mpr ⟨xf_16, List.forall_mem_cons.mpr ⟨xf_17, List.forall_mem_cons.mpr ⟨xf_18, List.forall_mem_cons.mpr ⟨xf_19, List.forall_mem_cons.mpr ⟨xf_20, List.forall_mem_cons.mpr ⟨xf_21, List.forall_mem_cons.mpr ⟨xf_22, List.forall_mem_cons.mpr ⟨xf_23, List.forall_mem_cons.mpr ⟨xf_24, List.forall_mem_cons.mpr ⟨xf_25, List.forall_mem_cons.mpr ⟨xf_26, List.forall_mem_cons.mpr ⟨xf_27, List.forall_mem_cons.mpr ⟨xf_28, List.forall_mem_cons.mpr ⟨xf_29, List.forall_mem_cons.mpr ⟨xf_30, List.forall_mem_cons.mpr ⟨xf_31, List.forall_mem_cons.mpr ⟨xf_32, List.forall_mem_cons.mpr ⟨xf_33, List.forall_mem_cons.mpr ⟨xf_34, List.forall_mem_cons.mpr ⟨xf_35, List.forall_mem_cons.mpr ⟨xf_36, List.forall_mem_cons.mpr ⟨xf_37, List.forall_mem_cons.mpr ⟨xf_38, List.forall_mem_cons.mpr ⟨xf_39, List.forall_mem_cons.mpr ⟨xf_40, List.forall_mem_cons.mpr ⟨xf_41, List.forall_mem_cons.mpr ⟨xf_42, List.forall_mem_cons.mpr ⟨xf_43, List.forall_mem_cons.mpr ⟨xf_44, List.forall_mem_cons.mpr ⟨xf_45, List.forall_mem_cons.mpr ⟨xf_46, List.forall_mem_cons.mpr ⟨xf_47, List.forall_mem_cons.mpr ⟨xf_48, List.forall_mem_cons.mpr ⟨xf_49, List.forall_mem_cons.mpr ⟨xf_50, List.forall_mem_cons.mpr ⟨xf_51, List.forall_mem_cons.mpr ⟨xf_52, List.forall_mem_cons.mpr ⟨xf_53, List.forall_mem_cons.mpr ⟨xf_54, List.forall_mem_cons.mpr ⟨xf_55, List.forall_mem_cons.mpr ⟨xf_56, List.forall_mem_cons.mpr ⟨xf_57, List.forall_mem_cons.mpr ⟨xf_58, List.forall_mem_cons.mpr ⟨xf_59, List.forall_mem_cons.mpr ⟨xf_60, List.forall_mem_cons.mpr ⟨xf_61, List.forall_mem_cons.mpr ⟨xf_62, List.forall_mem_cons.mpr ⟨xf_63, List.forall_mem_cons.mpr ⟨xf_64, List.forall_mem_cons.mpr ⟨xf_65, List.forall_mem_cons.mpr ⟨xf_66, List.forall_mem_cons.mpr ⟨xf_67, List.forall_mem_cons.mpr ⟨xf_68, List.forall_mem_cons.mpr ⟨xf_69, List.forall_mem_cons.mpr ⟨xf_70, List.forall_mem_cons.mpr ⟨xf_71, List.forall_mem_cons.mpr ⟨xf_72, List.forall_mem_cons.mpr ⟨xf_73, List.forall_mem_cons.mpr ⟨xf_74, List.forall_mem_cons.mpr ⟨xf_75, List.forall_mem_cons.mpr ⟨xf_76, List.forall_mem_cons.mpr ⟨xf_77, List.forall_mem_cons.mpr ⟨xf_78, List.forall_mem_cons.mpr ⟨xf_79, List.forall_mem_cons.mpr ⟨xf_80, List.forall_mem_cons.mpr ⟨xf_81, List.forall_mem_cons.mpr ⟨xf_82, List.forall_mem_cons.mpr ⟨xf_83, List.forall_mem_cons.mpr ⟨xf_84, List.forall_mem_cons.mpr ⟨xf_85, List.forall_mem_cons.mpr ⟨xf_86, List.forall_mem_cons.mpr ⟨xf_87, List.forall_mem_cons.mpr ⟨xf_88, List.forall_mem_cons.mpr ⟨xf_89, List.forall_mem_cons.mpr ⟨xf_90, List.forall_mem_cons.mpr ⟨xf_91, List.forall_mem_cons.mpr ⟨xf_92, List.forall_mem_cons.mpr ⟨xf_93, List.forall_mem_cons.mpr ⟨xf_94, fun _ h => nomatch h⟩⟩⟩⟩⟩⟩⟩⟩⟩⟩⟩⟩⟩⟩⟩⟩⟩⟩⟩⟩⟩⟩⟩⟩⟩⟩⟩⟩⟩⟩⟩⟩⟩⟩⟩⟩⟩⟩⟩⟩⟩⟩⟩⟩⟩⟩⟩⟩⟩⟩⟩⟩⟩⟩⟩⟩⟩⟩⟩⟩⟩⟩⟩⟩⟩⟩⟩⟩⟩⟩⟩⟩⟩⟩⟩⟩⟩⟩⟩⟩⟩⟩⟩⟩⟩⟩⟩⟩⟩⟩⟩⟩⟩⟩⟩
theorem xc_0 : xPC ((9, 3), (6, 0)) := ⟨(xt1 25 rfl rfl), (xt1 26 rfl rfl), (xt1 27 rfl rfl)⟩
theorem xc_1 : xPC ((5, 3), (6, 0)) := ⟨(xt1 33 rfl rfl), (xt1 26 rfl rfl), (xt1 27 rfl rfl)⟩
theorem xc_2 : xPC ((9, 18), (4, 4)) := ⟨(xt1 59 rfl rfl), (xt1 60 rfl rfl)⟩
theorem xc_3 : xPC ((1, 3), (6, 0)) := ⟨(xt1 62 rfl rfl), (xt1 26 rfl rfl), (xt1 27 rfl rfl)⟩
theorem xc_4 : xPC ((3, 3), (6, 0)) := ⟨(xt1 71 rfl rfl), (xt1 26 rfl rfl), (xt1 27 rfl rfl)⟩
theorem xc_5 : xPC ((0, 3), (6, 0)) := ⟨(xt1 103 rfl rfl), (xt1 26 rfl rfl), (xt1 27 rfl rfl)⟩
theorem xc_6 : xPC ((9, 36), (4, 42)) := ⟨(xt1 120 rfl rfl), (xt1 121 rfl rfl)⟩
theorem xc_7 : xPC ((6, 3), (6, 0)) := ⟨(xt1 123 rfl rfl), (xt1 26 rfl rfl), (xt1 27 rfl rfl)⟩
theorem xc_8 : xPC ((6, 11), (4, 28)) := ⟨(xt1 126 rfl rfl), (xt1 127 rfl rfl)⟩
theorem xc_9 : xPC ((4, 3), (6, 0)) := ⟨(xt1 129 rfl rfl), (xt1 26 rfl rfl), (xt1 27 rfl rfl)⟩
theorem xc_10 : xPC ((8, 3), (6, 0)) := ⟨(xt1 142 rfl rfl), (xt1 26 rfl rfl), (xt1 27 rfl rfl)⟩
theorem xc_11 : xPC ((2, 3), (6, 0)) := ⟨(xt1 166 rfl rfl), (xt1 26 rfl rfl), (xt1 27 rfl rfl)⟩
theorem xc_12 : xPC ((6, 50), (4, 61)) := ⟨(xt1 178 rfl rfl), (xt1 179 rfl rfl)⟩
theorem xc_13 : xPC ((7, 3), (6, 0)) := ⟨(xt1 181 rfl rfl), (xt1 26 rfl rfl), (xt1 27 rfl rfl)⟩
theorem xc_14 : xPC ((9, 50), (0, 34)) := ⟨(xt2 87 rfl rfl), (xt2 88 rfl rfl), (xt2 89 rfl rfl)⟩
theorem xc_15 : xPC ((9, 59), (0, 36)) := ⟨(xt2 107 rfl rfl), (xt2 108 rfl rfl), (xt2 109 rfl rfl)⟩
theorem xc_16 : xPC ((5, 34), (0, 34)) := ⟨(xt2 111 rfl rfl), (xt2 88 rfl rfl), (xt2 89 rfl rfl)⟩
theorem xc_17 : xPC ((9, 63), (0, 93)) := ⟨(xt2 120 rfl rfl), (xt2 122 rfl rfl), (xt0 1 rfl rfl)⟩
theorem xc_18 : xPC ((9, 196), (0, 35)) := ⟨(xt2 124 rfl rfl), (xt2 125 rfl rfl), (xt2 126 rfl rfl)⟩
theorem xc_19 : xPC ((9, 67), (1, 92)) := ⟨(xt2 144 rfl rfl), (xt2 145 rfl rfl)⟩
theorem xc_20 : xPC ((9, 70), (0, 53)) := ⟨(xt2 148 rfl rfl), (xt2 149 rfl rfl), (xt2 150 rfl rfl)⟩
theorem xc_21 : xPC ((6, 89), (0, 10)) := ⟨(xt2 155 rfl rfl), (xt2 156 rfl rfl), (xt2 157 rfl rfl)⟩
theorem xc_22 : xPC ((1, 43), (0, 23)) := ⟨(xt2 159 rfl rfl), (xt2 160 rfl rfl), (xt2 161 rfl rfl)⟩
theorem xc_23 : xPC ((3, 36), (0, 21)) := ⟨(xt2 163 rfl rfl), (xt2 164 rfl rfl), (xt2 165 rfl rfl)⟩
theorem xc_24 : xPC ((6, 80), (0, 11)) := ⟨(xt2 167 rfl rfl), (xt2 168 rfl rfl), (xt2 169 rfl rfl)⟩
theorem xc_25 : xPC ((1, 47), (0, 18)) := ⟨(xt2 171 rfl rfl), (xt2 172 rfl rfl), (xt2 173 rfl rfl)⟩
theorem xc_26 : xPC ((1, 51), (0, 12)) := ⟨(xt2 175 rfl rfl), (xt2 177 rfl rfl), (xt0 2 rfl rfl)⟩
theorem xc_27 : xPC ((1, 70), (0, 21)) := ⟨(xt2 180 rfl rfl), (xt2 164 rfl rfl), (xt2 165 rfl rfl)⟩
theorem xc_28 : xPC ((1, 39), (0, 20)) := ⟨(xt2 181 rfl rfl), (xt2 182 rfl rfl), (xt2 183 rfl rfl)⟩
theorem xc_29 : xPC ((3, 22), (0, 19)) := ⟨(xt2 185 rfl rfl), (xt2 186 rfl rfl), (xt2 187 rfl rfl)⟩
theorem xc_30 : xPC ((1, 55), (0, 22)) := ⟨(xt2 195 rfl rfl), (xt2 196 rfl rfl), (xt2 197 rfl rfl)⟩
theorem xc_31 : xPC ((3, 26), (0, 18)) := ⟨(xt2 199 rfl rfl), (xt2 172 rfl rfl), (xt2 173 rfl rfl)⟩
theorem xc_32 : xPC ((3, 30), (7, 0)) := ⟨(xt2 200 rfl rfl), (xt2 201 rfl rfl), (xt1 18 rfl rfl), (xt2 202 rfl rfl)⟩
theorem xc_33 : xPC ((1, 59), (0, 13)) := ⟨(xt2 203 rfl rfl), (xt2 205 rfl rfl), (xt0 3 rfl rfl)⟩
theorem xc_34 : xPC ((1, 80), (0, 25)) := ⟨(xt2 207 rfl rfl), (xt2 208 rfl rfl), (xt2 209 rfl rfl)⟩
theorem xc_35 : xPC ((3, 40), (0, 24)) := ⟨(xt2 211 rfl rfl), (xt2 213 rfl rfl), (xt0 4 rfl rfl)⟩
theorem xc_36 : xPC ((1, 83), (7, 0)) := ⟨(xt2 215 rfl rfl), (xt2 201 rfl rfl), (xt1 18 rfl rfl), (xt2 202 rfl rfl)⟩
theorem xc_37 : xPC ((1, 88), (0, 26)) := ⟨(xt2 216 rfl rfl), (xt2 217 rfl rfl), (xt2 218 rfl rfl)⟩
theorem xc_38 : xPC ((1, 92), (0, 27)) := ⟨(xt2 220 rfl rfl), (xt2 221 rfl rfl), (xt2 222 rfl rfl)⟩
theorem xc_39 : xPC ((3, 43), (9, 0)) := ⟨(xt2 224 rfl rfl), (xt2 226 rfl rfl), (xt2 225 rfl rfl), (xt1 19 rfl rfl)⟩
theorem xc_40 : xPC ((9, 74), (0, 55)) := ⟨(xt2 227 rfl rfl), (xt2 228 rfl rfl), (xt2 229 rfl rfl)⟩
theorem xc_41 : xPC ((6, 97), (0, 56)) := ⟨(xt2 231 rfl rfl), (xt2 233 rfl rfl), (xt0 5 rfl rfl)⟩
theorem xc_42 : xPC ((6, 63), (0, 31)) := ⟨(xt2 235 rfl rfl), (xt2 236 rfl rfl), (xt2 237 rfl rfl)⟩
theorem xc_43 : xPC ((6, 111), (0, 6)) := ⟨(xt2 239 rfl rfl), (xt3 0 rfl rfl), (xt3 1 rfl rfl)⟩
theorem xc_44 : xPC ((6, 114), (0, 30)) := ⟨(xt3 3 rfl rfl), (xt3 4 rfl rfl), (xt3 5 rfl rfl)⟩
theorem xc_45 : xPC ((6, 118), (0, 57)) := ⟨(xt3 7 rfl rfl), (xt3 9 rfl rfl), (xt0 6 rfl rfl)⟩
theorem xc_46 : xPC ((6, 122), (0, 7)) := ⟨(xt3 11 rfl rfl), (xt3 12 rfl rfl), (xt3 13 rfl rfl)⟩
theorem xc_47 : xPC ((6, 101), (0, 32)) := ⟨(xt3 15 rfl rfl), (xt3 16 rfl rfl), (xt3 17 rfl rfl)⟩
theorem xc_48 : xPC ((6, 105), (0, 58)) := ⟨(xt3 19 rfl rfl), (xt3 21 rfl rfl), (xt0 7 rfl rfl)⟩
theorem xc_49 : xPC ((6, 126), (0, 71)) := ⟨(xt3 23 rfl rfl), (xt3 24 rfl rfl), (xt3 25 rfl rfl)⟩
theorem xc_50 : xPC ((6, 128), (0, 72)) := ⟨(xt3 27 rfl rfl), (xt3 28 rfl rfl), (xt3 29 rfl rfl)⟩
theorem xc_51 : xPC ((6, 134), (0, 15)) := ⟨(xt3 34 rfl rfl), (xt3 35 rfl rfl), (xt3 36 rfl rfl)⟩
theorem xc_52 : xPC ((6, 137), (0, 16)) := ⟨(xt3 39 rfl rfl), (xt3 40 rfl rfl), (xt3 41 rfl rfl)⟩
theorem xc_53 : xPC ((6, 76), (0, 59)) := ⟨(xt3 43 rfl rfl), (xt3 45 rfl rfl), (xt0 8 rfl rfl)⟩
theorem xc_54 : xPC ((6, 146), (0, 70)) := ⟨(xt3 47 rfl rfl), (xt3 48 rfl rfl), (xt3 49 rfl rfl)⟩
theorem xc_55 : xPC ((6, 108), (0, 60)) := ⟨(xt3 51 rfl rfl), (xt3 53 rfl rfl), (xt0 9 rfl rfl)⟩
theorem xc_56 : xPC ((6, 152), (0, 8)) := ⟨(xt3 55 rfl rfl), (xt3 56 rfl rfl), (xt3 57 rfl rfl)⟩
theorem xc_57 : xPC ((6, 155), (0, 73)) := ⟨(xt3 59 rfl rfl), (xt3 60 rfl rfl), (xt3 61 rfl rfl)⟩
theorem xc_58 : xPC ((6, 158), (0, 9)) := ⟨(xt3 63 rfl rfl), (xt3 64 rfl rfl), (xt3 65 rfl rfl)⟩
theorem xc_59 : xPC ((6, 162), (0, 62)) := ⟨(xt3 67 rfl rfl), (xt3 68 rfl rfl), (xt3 69 rfl rfl)⟩
theorem xc_60 : xPC ((6, 165), (0, 68)) := ⟨(xt3 71 rfl rfl), (xt3 72 rfl rfl), (xt3 73 rfl rfl)⟩
theorem xc_61 : xPC ((7, 40), (0, 35)) := ⟨(xt3 75 rfl rfl), (xt2 125 rfl rfl), (xt2 126 rfl rfl)⟩
theorem xc_62 : xPC ((7, 45), (0, 37)) := ⟨(xt3 76 rfl rfl), (xt3 77 rfl rfl), (xt3 78 rfl rfl)⟩
theorem xc_63 : xPC ((5, 38), (0, 35)) := ⟨(xt3 80 rfl rfl), (xt2 125 rfl rfl), (xt2 126 rfl rfl)⟩
theorem xc_64 : xPC ((7, 49), (0, 38)) := ⟨(xt3 81 rfl rfl), (xt3 82 rfl rfl), (xt3 83 rfl rfl)⟩
theorem xc_65 : xPC ((7, 52), (0, 39)) := ⟨(xt3 85 rfl rfl), (xt3 86 rfl rfl), (xt3 87 rfl rfl)⟩
theorem xc_66 : xPC ((7, 55), (0, 40)) := ⟨(xt3 89 rfl rfl), (xt3 90 rfl rfl), (xt3 91 rfl rfl)⟩
theorem xc_67 : xPC ((7, 59), (0, 41)) := ⟨(xt3 93 rfl rfl), (xt3 94 rfl rfl), (xt3 95 rfl rfl)⟩
theorem xc_68 : xPC ((7, 62), (0, 67)) := ⟨(xt3 97 rfl rfl), (xt3 98 rfl rfl), (xt3 99 rfl rfl)⟩
theorem xc_69 : xPC ((6, 168), (0, 74)) := ⟨(xt3 101 rfl rfl), (xt3 102 rfl rfl), (xt3 103 rfl rfl)⟩
theorem xc_70 : xPC ((8, 30), (0, 73)) := ⟨(xt3 105 rfl rfl), (xt3 60 rfl rfl), (xt3 61 rfl rfl)⟩
theorem xc_71 : xPC ((9, 78), (0, 94)) := ⟨(xt3 113 rfl rfl), (xt3 115 rfl rfl), (xt0 10 rfl rfl)⟩
theorem xc_72 : xPC ((9, 201), (0, 5)) := ⟨(xt3 117 rfl rfl), (xt3 118 rfl rfl), (xt3 119 rfl rfl)⟩
theorem xc_73 : xPC ((1, 31), (0, 19)) := ⟨(xt3 121 rfl rfl), (xt2 186 rfl rfl), (xt2 187 rfl rfl)⟩
theorem xc_74 : xPC ((9, 82), (1, 95)) := ⟨(xt3 123 rfl rfl), (xt3 124 rfl rfl)⟩
theorem xc_75 : xPC ((9, 85), (0, 45)) := ⟨(xt3 127 rfl rfl), (xt3 128 rfl rfl), (xt3 129 rfl rfl)⟩
theorem xc_76 : xPC ((9, 88), (0, 54)) := ⟨(xt3 131 rfl rfl), (xt3 132 rfl rfl), (xt3 133 rfl rfl)⟩
theorem xc_77 : xPC ((6, 93), (0, 29)) := ⟨(xt3 135 rfl rfl), (xt3 136 rfl rfl), (xt3 137 rfl rfl)⟩
theorem xc_78 : xPC ((9, 91), (0, 43)) := ⟨(xt3 146 rfl rfl), (xt3 147 rfl rfl), (xt3 148 rfl rfl)⟩
theorem xc_79 : xPC ((9, 94), (0, 51)) := ⟨(xt3 150 rfl rfl), (xt3 151 rfl rfl), (xt3 152 rfl rfl)⟩
theorem xc_80 : xPC ((6, 67), (7, 0)) := ⟨(xt3 154 rfl rfl), (xt2 201 rfl rfl), (xt1 18 rfl rfl), (xt2 202 rfl rfl)⟩
theorem xc_81 : xPC ((9, 97), (0, 52)) := ⟨(xt3 155 rfl rfl), (xt3 156 rfl rfl), (xt3 157 rfl rfl)⟩
theorem xc_82 : xPC ((6, 73), (8, 0)) := ⟨(xt3 159 rfl rfl), (xt3 160 rfl rfl), (xt1 18 rfl rfl), (xt3 161 rfl rfl)⟩
theorem xc_83 : xPC ((9, 100), (0, 47)) := ⟨(xt3 169 rfl rfl), (xt3 170 rfl rfl), (xt3 171 rfl rfl)⟩
theorem xc_84 : xPC ((9, 103), (0, 46)) := ⟨(xt3 180 rfl rfl), (xt3 181 rfl rfl), (xt3 182 rfl rfl)⟩
theorem xc_85 : xPC ((9, 107), (0, 65)) := ⟨(xt3 184 rfl rfl), (xt3 185 rfl rfl), (xt3 186 rfl rfl)⟩
theorem xc_86 : xPC ((9, 112), (0, 66)) := ⟨(xt3 188 rfl rfl), (xt3 189 rfl rfl), (xt3 190 rfl rfl)⟩
theorem xc_87 : xPC ((7, 36), (0, 65)) := ⟨(xt3 192 rfl rfl), (xt3 185 rfl rfl), (xt3 186 rfl rfl)⟩
theorem xc_88 : xPC ((9, 116), (0, 1)) := ⟨(xt3 193 rfl rfl), (xt3 194 rfl rfl), (xt3 195 rfl rfl)⟩
theorem xc_89 : xPC ((9, 120), (0, 2)) := ⟨(xt3 197 rfl rfl), (xt3 198 rfl rfl), (xt3 199 rfl rfl)⟩
theorem xc_90 : xPC ((9, 123), (0, 49)) := ⟨(xt3 208 rfl rfl), (xt3 209 rfl rfl), (xt3 210 rfl rfl)⟩
theorem xc_91 : xPC ((9, 126), (0, 97)) := ⟨(xt3 219 rfl rfl), (xt3 221 rfl rfl), (xt0 11 rfl rfl)⟩
theorem xc_92 : xPC ((9, 129), (1, 96)) := ⟨(xt3 224 rfl rfl), (xt3 225 rfl rfl)⟩
theorem xc_93 : xPC ((9, 132), (0, 98)) := ⟨(xt3 228 rfl rfl), (xt3 230 rfl rfl), (xt0 12 rfl rfl)⟩
theorem xc_94 : xPC ((9, 140), (0, 11)) := ⟨(xt3 234 rfl rfl), (xt2 168 rfl rfl), (xt2 169 rfl rfl)⟩
theorem xc_95 : xPC ((9, 144), (0, 50)) := ⟨(xt4 2 rfl rfl), (xt4 3 rfl rfl), (xt4 4 rfl rfl)⟩
theorem xc_96 : xPC ((9, 147), (0, 67)) := ⟨(xt4 13 rfl rfl), (xt3 98 rfl rfl), (xt3 99 rfl rfl)⟩
theorem xc_97 : xPC ((9, 150), (0, 44)) := ⟨(xt4 21 rfl rfl), (xt4 22 rfl rfl), (xt4 23 rfl rfl)⟩
theorem xc_98 : xPC ((9, 153), (0, 6)) := ⟨(xt4 25 rfl rfl), (xt3 0 rfl rfl), (xt3 1 rfl rfl)⟩
theorem xc_99 : xPC ((9, 156), (0, 62)) := ⟨(xt4 26 rfl rfl), (xt3 68 rfl rfl), (xt3 69 rfl rfl)⟩
theorem xc_100 : xPC ((9, 159), (0, 48)) := ⟨(xt4 27 rfl rfl), (xt4 28 rfl rfl), (xt4 29 rfl rfl)⟩
theorem xc_101 : xPC ((9, 162), (0, 64)) := ⟨(xt4 31 rfl rfl), (xt4 32 rfl rfl), (xt4 33 rfl rfl)⟩
theorem xc_102 : xPC ((9, 167), (0, 63)) := ⟨(xt4 43 rfl rfl), (xt4 44 rfl rfl), (xt4 45 rfl rfl)⟩
theorem xc_103 : xPC ((9, 172), (0, 7)) := ⟨(xt4 55 rfl rfl), (xt3 12 rfl rfl), (xt3 13 rfl rfl)⟩
theorem xc_104 : xPC ((9, 176), (0, 9)) := ⟨(xt4 63 rfl rfl), (xt3 64 rfl rfl), (xt3 65 rfl rfl)⟩
theorem xc_105 : xPC ((9, 180), (0, 37)) := ⟨(xt4 71 rfl rfl), (xt3 77 rfl rfl), (xt3 78 rfl rfl)⟩
theorem xc_106 : xPC ((9, 183), (0, 38)) := ⟨(xt4 72 rfl rfl), (xt3 82 rfl rfl), (xt3 83 rfl rfl)⟩
theorem xc_107 : xPC ((9, 186), (0, 3)) := ⟨(xt4 73 rfl rfl), (xt4 74 rfl rfl), (xt4 75 rfl rfl)⟩
theorem xc_108 : xPC ((0, 25), (0, 2)) := ⟨(xt4 77 rfl rfl), (xt3 198 rfl rfl), (xt3 199 rfl rfl)⟩
theorem xc_109 : xPC ((10, 1), (6, 0)) := ⟨(xt4 91 rfl rfl), (xt1 26 rfl rfl), (xt1 27 rfl rfl)⟩
theorem xc_110 : xPC ((10, 215), (0, 131)) := ⟨(xt4 228 rfl rfl), (xt4 230 rfl rfl), (xt0 13 rfl rfl)⟩
theorem xc_111 : xPC ((10, 219), (1, 130)) := ⟨(xt4 232 rfl rfl), (xt4 233 rfl rfl)⟩
theorem xc_112 : xPC ((10, 222), (0, 132)) := ⟨(xt4 235 rfl rfl), (xt4 237 rfl rfl), (xt0 14 rfl rfl)⟩
theorem xc_113 : xPC ((10, 126), (1, 106)) := ⟨(xt4 239 rfl rfl), (xt5 0 rfl rfl)⟩
theorem xc_114 : xPC ((10, 195), (0, 121)) := ⟨(xt5 2 rfl rfl), (xt5 4 rfl rfl), (xt0 15 rfl rfl)⟩
theorem xc_115 : xPC ((10, 177), (0, 122)) := ⟨(xt5 6 rfl rfl), (xt5 8 rfl rfl), (xt0 16 rfl rfl)⟩
theorem xc_116 : xPC ((10, 154), (0, 114)) := ⟨(xt5 10 rfl rfl), (xt5 12 rfl rfl), (xt0 17 rfl rfl)⟩
theorem xc_117 : xPC ((10, 148), (0, 112)) := ⟨(xt5 14 rfl rfl), (xt5 16 rfl rfl), (xt0 18 rfl rfl)⟩
theorem xc_118 : xPC ((10, 144), (0, 111)) := ⟨(xt5 18 rfl rfl), (xt5 20 rfl rfl), (xt0 19 rfl rfl)⟩
theorem xc_119 : xPC ((10, 141), (0, 110)) := ⟨(xt5 22 rfl rfl), (xt5 24 rfl rfl), (xt0 20 rfl rfl)⟩
theorem xc_120 : xPC ((10, 134), (0, 109)) := ⟨(xt5 26 rfl rfl), (xt5 28 rfl rfl), (xt0 21 rfl rfl)⟩
theorem xc_121 : xPC ((10, 130), (0, 107)) := ⟨(xt5 30 rfl rfl), (xt5 32 rfl rfl), (xt0 22 rfl rfl)⟩
theorem xc_122 : xPC ((10, 138), (0, 108)) := ⟨(xt5 34 rfl rfl), (xt5 36 rfl rfl), (xt0 23 rfl rfl)⟩
theorem xc_123 : xPC ((10, 151), (0, 113)) := ⟨(xt5 38 rfl rfl), (xt5 40 rfl rfl), (xt0 24 rfl rfl)⟩
theorem xc_124 : xPC ((10, 181), (0, 123)) := ⟨(xt5 42 rfl rfl), (xt5 44 rfl rfl), (xt0 25 rfl rfl)⟩
theorem xc_125 : xPC ((10, 184), (0, 125)) := ⟨(xt5 46 rfl rfl), (xt5 48 rfl rfl), (xt0 26 rfl rfl)⟩
theorem xc_126 : xPC ((10, 188), (0, 124)) := ⟨(xt5 50 rfl rfl), (xt5 52 rfl rfl), (xt0 27 rfl rfl)⟩
theorem xc_127 : xPC ((10, 199), (0, 120)) := ⟨(xt5 54 rfl rfl), (xt5 56 rfl rfl), (xt0 28 rfl rfl)⟩
theorem xc_128 : xPC ((10, 191), (0, 126)) := ⟨(xt5 58 rfl rfl), (xt5 60 rfl rfl), (xt0 29 rfl rfl)⟩
theorem xc_129 : xPC ((10, 206), (0, 119)) := ⟨(xt5 62 rfl rfl), (xt5 64 rfl rfl), (xt0 30 rfl rfl)⟩
theorem xc_130 : xPC ((10, 167), (0, 117)) := ⟨(xt5 66 rfl rfl), (xt5 68 rfl rfl), (xt0 31 rfl rfl)⟩
theorem xc_131 : xPC ((10, 157), (0, 115)) := ⟨(xt5 70 rfl rfl), (xt5 72 rfl rfl), (xt0 32 rfl rfl)⟩
theorem xc_132 : xPC ((10, 170), (0, 118)) := ⟨(xt5 74 rfl rfl), (xt5 76 rfl rfl), (xt0 33 rfl rfl)⟩
theorem xc_133 : xPC ((10, 160), (0, 116)) := ⟨(xt5 78 rfl rfl), (xt5 80 rfl rfl), (xt0 34 rfl rfl)⟩
theorem xc_134 : xPC ((10, 209), (0, 127)) := ⟨(xt5 82 rfl rfl), (xt5 84 rfl rfl), (xt0 35 rfl rfl)⟩
theorem xc_135 : xPC ((10, 226), (0, 128)) := ⟨(xt5 86 rfl rfl), (xt5 88 rfl rfl), (xt0 36 rfl rfl)⟩
theorem xc_136 : xPC ((10, 212), (0, 129)) := ⟨(xt5 90 rfl rfl), (xt5 92 rfl rfl), (xt0 37 rfl rfl)⟩
theorem xc_137 : xPC ((10, 229), (0, 135)) := ⟨(xt5 102 rfl rfl), (xt5 104 rfl rfl), (xt0 38 rfl rfl)⟩
theorem xc_138 : xPC ((9, 11), (5, 33)) := ⟨(xn1 30 rfl rfl), (xt1 31 rfl rfl)⟩
theorem xc_139 : xPC ((1, 30), (5, 17)) := ⟨(xn1 68 rfl rfl), (xt1 69 rfl rfl)⟩
theorem xc_140 : xPC ((9, 25), (5, 0)) := ⟨(xn1 100 rfl rfl), (xt1 101 rfl rfl)⟩
theorem xc_141 : xPC ((6, 20), (5, 69)) := ⟨(xn1 139 rfl rfl), (xt1 140 rfl rfl)⟩
theorem xc_142 : xPC ((6, 27), (5, 14)) := ⟨(xn1 163 rfl rfl), (xt1 164 rfl rfl)⟩
theorem xc_143 : xPC ((6, 86), (2, 99)) := ⟨(xn2 152 rfl rfl), (xt2 153 rfl rfl)⟩
theorem xc_144 : xPC ((1, 66), (2, 99)) := ⟨(xn2 179 rfl rfl), (xt2 153 rfl rfl)⟩
theorem xc_145 : xPC ((1, 74), (2, 101)) := ⟨(xn2 189 rfl rfl), (xt2 190 rfl rfl)⟩
theorem xc_146 : xPC ((1, 77), (2, 102)) := ⟨(xn2 192 rfl rfl), (xt2 193 rfl rfl)⟩
theorem xc_147 : xPC ((6, 131), (2, 100)) := ⟨(xn3 31 rfl rfl), (xt3 32 rfl rfl)⟩
theorem xc_148 : xPC ((2, 18), (2, 101)) := ⟨(xn3 38 rfl rfl), (xt2 190 rfl rfl)⟩
set_option maxRecDepth 100000 in
theorem xCt_ok : ∀ q ∈ xCt, xPC q := List.forall_mem_cons.mpr ⟨xc_0, List.forall_mem_cons.mpr ⟨xc_1, List.forall_mem_cons.mpr ⟨xc_2, List.forall_mem_cons.mpr ⟨xc_3, List.forall_mem_cons.mpr ⟨xc_4, List.forall_mem_cons.mpr ⟨xc_5, List.forall_mem_cons.mpr ⟨xc_6, List.forall_mem_cons.mpr ⟨xc_7, List.forall_mem_cons.mpr ⟨xc_8, List.forall_mem_cons.mpr ⟨xc_9, List.forall_mem_cons.mpr ⟨xc_10, List.forall_mem_cons.mpr ⟨xc_11, List.forall_mem_cons.mpr ⟨xc_12, List.forall_mem_cons.mpr ⟨xc_13, List.forall_mem_cons.mpr ⟨xc_14, List.forall_mem_cons.mpr ⟨xc_15, List.forall_mem_cons.mpr ⟨xc_16, List.forall_mem_cons.mpr ⟨xc_17, List.forall_mem_cons.mpr ⟨xc_18, List.forall_mem_cons.mpr ⟨xc_19, List.forall_mem_cons.mpr ⟨xc_20, List.forall_mem_cons.mpr ⟨xc_21, List.forall_mem_cons.mpr ⟨xc_22, List.forall_mem_cons.mpr ⟨xc_23, List.forall_mem_cons.mpr ⟨xc_24, List.forall_mem_cons.mpr ⟨xc_25, List.forall_mem_cons.mpr ⟨xc_26, List.forall_mem_cons.mpr ⟨xc_27, List.forall_mem_cons.mpr ⟨xc_28, List.forall_mem_cons.mpr ⟨xc_29, List.forall_mem_cons.mpr ⟨xc_30, List.forall_mem_cons.mpr ⟨xc_31, List.forall_mem_cons.mpr ⟨xc_32, List.forall_mem_cons.mpr ⟨xc_33, List.forall_mem_cons.mpr ⟨xc_34, List.forall_mem_cons.mpr ⟨xc_35, List.forall_mem_cons.mpr ⟨xc_36, List.forall_mem_cons.mpr ⟨xc_37, List.forall_mem_cons.mpr ⟨xc_38, List.forall_mem_cons.mpr ⟨xc_39, List.forall_mem_cons.mpr ⟨xc_40, List.forall_mem_cons.mpr ⟨xc_41, List.forall_mem_cons.mpr ⟨xc_42, List.forall_mem_cons.mpr ⟨xc_43, List.forall_mem_cons.mpr ⟨xc_44, List.forall_mem_cons.mpr ⟨xc_45, List.forall_mem_cons.mpr ⟨xc_46, List.forall_mem_cons.mpr ⟨xc_47, List.forall_mem_cons.mpr ⟨xc_48, List.forall_mem_cons.mpr ⟨xc_49, List.forall_mem_cons.mpr ⟨xc_50, List.forall_mem_cons.mpr ⟨xc_51, List.forall_mem_cons.mpr ⟨xc_52, List.forall_mem_cons.mpr ⟨xc_53, List.forall_mem_cons.mpr ⟨xc_54, List.forall_mem_cons.mpr ⟨xc_55, List.forall_mem_cons.mpr ⟨xc_56, List.forall_mem_cons.mpr ⟨xc_57, List.forall_mem_cons.mpr ⟨xc_58, List.forall_mem_cons.mpr ⟨xc_59, List.forall_mem_cons.mpr ⟨xc_60, List.forall_mem_cons.mpr ⟨xc_61, List.forall_mem_cons.mpr ⟨xc_62, List.forall_mem_cons.mpr ⟨xc_63, List.forall_mem_cons.mpr ⟨xc_64, List.forall_mem_cons.mpr ⟨xc_65, List.forall_mem_cons.mpr ⟨xc_66, List.forall_mem_cons.mpr ⟨xc_67, List.forall_mem_cons.mpr ⟨xc_68, List.forall_mem_cons.mpr ⟨xc_69, List.forall_mem_cons.mpr ⟨xc_70, List.forall_mem_cons.mpr ⟨xc_71, List.forall_mem_cons.mpr ⟨xc_72, List.forall_mem_cons.mpr ⟨xc_73, List.forall_mem_cons.mpr ⟨xc_74, List.forall_mem_cons.mpr ⟨xc_75, List.forall_mem_cons.mpr ⟨xc_76, List.forall_mem_cons.mpr ⟨xc_77, List.forall_mem_cons.mpr ⟨xc_78, List.forall_mem_cons.mpr ⟨xc_79, List.forall_mem_cons.mpr ⟨xc_80, List.forall_mem_cons.mpr ⟨xc_81, List.forall_mem_cons.mpr ⟨xc_82, List.forall_mem_cons.mpr ⟨xc_83, List.forall_mem_cons.mpr ⟨xc_84, List.forall_mem_cons.mpr ⟨xc_85, List.forall_mem_cons.mpr ⟨xc_86, List.forall_mem_cons.mpr ⟨xc_87, List.forall_mem_cons.mpr ⟨xc_88, List.forall_mem_cons.mpr ⟨xc_89, List.forall_mem_cons.mpr ⟨xc_90, List.forall_mem_cons.mpr ⟨xc_91, List.forall_mem_cons.mpr ⟨xc_92, List.forall_mem_cons.mpr ⟨xc_93, List.forall_mem_cons.mpr ⟨xc_94, List.forall_mem_cons.mpr ⟨xc_95, List.forall_mem_cons.mpr ⟨xc_96, List.forall_mem_cons.mpr ⟨xc_97, List.forall_mem_cons.mpr ⟨xc_98, List.forall_mem_cons.mpr ⟨xc_99, List.forall_mem_cons.mpr ⟨xc_100, List.forall_mem_cons.mpr ⟨xc_101, List.forall_mem_cons.mpr ⟨xc_102, List.forall_mem_cons.mpr ⟨xc_103, List.forall_mem_cons.mpr ⟨xc_104, List.forall_mem_cons.mpr ⟨xc_105, List.forall_mem_cons.mpr ⟨xc_106, List.forall_mem_cons.mpr ⟨xc_107, List.forall_mem_cons.mpr ⟨xc_108, List.forall_mem_cons.mpr ⟨xc_109, List.forall_mem_cons.mpr ⟨xc_110, List.forall_mem_cons.mpr ⟨xc_111, List.forall_mem_cons.mpr ⟨xc_112, List.forall_mem_cons.mpr ⟨xc_113, List.forall_mem_cons.mpr ⟨xc_114, List.forall_mem_cons.mpr ⟨xc_115, List.forall_mem_cons.mpr ⟨xc_116, List.forall_mem_cons.mpr ⟨xc_117, List.forall_mem_cons.mpr ⟨xc_118, List.forall_mem_cons.mpr ⟨xc_119, List.forall_mem_cons.mpr ⟨xc_120, List.forall_mem_cons.mpr ⟨xc_121, List.forall_mem_cons.mpr ⟨xc_122, List.forall_mem_cons.mpr ⟨xc_123, List.forall_mem_cons.mpr ⟨xc_124, List.forall_mem_cons.mpr ⟨xc_125, List.forall_mem_cons.mpr ⟨xc_126, List.forall_mem_cons.mpr ⟨xc_127, List.forall_mem_cons.mpr ⟨xc_128, List.forall_mem_cons.mpr ⟨xc_129, List.forall_mem_cons.mpr ⟨xc_130, List.forall_mem_cons.mpr ⟨xc_131, List.forall_mem_cons.mpr ⟨xc_132, List.forall_mem_cons.mpr ⟨xc_133, List.forall_mem_cons.mpr ⟨xc_134, List.forall_mem_cons.mpr ⟨xc_135, List.forall_mem_cons.mpr ⟨xc_136, List.forall_mem_cons.mpr ⟨xc_137, List.forall_mem_cons.mpr ⟨xc_138, List.forall_mem_cons.mpr ⟨xc_139, List.forall_mem_cons.mpr ⟨xc_140, List.forall_mem_cons.mpr ⟨xc_141, List.forall_mem_cons.mpr ⟨xc_142, List.forall_mem_cons.mpr ⟨xc_143, List.forall_mem_cons.mpr ⟨xc_144, List.forall_mem_cons.mpr ⟨xc_145, List.forall_mem_cons.mpr ⟨xc_146, List.forall_mem_cons.mpr ⟨xc_147, List.forall_mem_cons.mpr ⟨xc_148, fun _ h => nomatch h⟩⟩⟩⟩⟩⟩⟩⟩⟩⟩⟩⟩⟩⟩⟩⟩⟩⟩⟩⟩⟩⟩⟩⟩⟩⟩⟩⟩⟩⟩⟩⟩⟩⟩⟩⟩⟩⟩⟩⟩⟩⟩⟩⟩⟩⟩⟩⟩⟩⟩⟩⟩⟩⟩⟩⟩⟩⟩⟩⟩⟩⟩⟩⟩⟩⟩⟩⟩⟩⟩⟩⟩⟩⟩⟩⟩⟩⟩⟩⟩⟩⟩⟩⟩⟩⟩⟩⟩⟩⟩⟩⟩⟩⟩⟩⟩⟩⟩⟩⟩⟩⟩⟩⟩⟩⟩⟩⟩⟩⟩⟩⟩⟩⟩⟩⟩⟩⟩⟩⟩⟩⟩⟩⟩⟩⟩⟩⟩⟩⟩⟩⟩⟩⟩⟩⟩⟩⟩⟩⟩⟩⟩⟩⟩⟩⟩⟩⟩⟩
theorem xm_0 : xPM (0, yX0_init, cX0_init, 1, none) := ⟨(xt1 102 rfl rfl), rfl, by decide +kernel, ⟨by decide +kernel, by decide +kernel⟩, by decide, (xt1 5 rfl rfl)⟩
theorem xm_1 : xPM (0, yX0_take, cX0_take, 6, none) := ⟨(xt3 196 rfl rfl), rfl, by decide +kernel, ⟨by decide +kernel, by decide +kernel⟩, by decide, (xt1 5 rfl rfl)⟩
theorem xm_2 : xPM (0, yX0_isAnswered, cX0_isAnswered, 2, (some .boolean)) := ⟨(xt3 200 rfl rfl), rfl, by decide +kernel, ⟨by decide +kernel, by decide +kernel⟩, by decide, (xt1 5 rfl rfl)⟩
theorem xm_3 : xPM (0, yX0_answerTo, cX0_answerTo, 2, (some .int)) := ⟨(xt4 76 rfl rfl), rfl, by decide +kernel, ⟨by decide +kernel, by decide +kernel⟩, by decide, (xt1 5 rfl rfl)⟩
theorem xm_4 : xPM (1, yX1_init, cX1_init, 2, none) := ⟨(xt1 61 rfl rfl), rfl, by decide +kernel, ⟨by decide +kernel, by decide +kernel⟩, by decide, (xt1 3 rfl rfl)⟩
theorem xm_5 : xPM (1, yX1_has, cX1_has, 3, (some .boolean)) := ⟨(xt3 120 rfl rfl), rfl, by decide +kernel, ⟨by decide +kernel, by decide +kernel⟩, by decide, (xt1 3 rfl rfl)⟩
theorem xm_6 : xPM (1, yX1_countOf, cX1_countOf, 2, (some .int)) := ⟨(xt3 2 rfl rfl), rfl, by decide +kernel, ⟨by decide +kernel, by decide +kernel⟩, by decide, (xt1 3 rfl rfl)⟩
theorem xm_7 : xPM (1, yX1_tell, cX1_tell, 4, (some .int)) := ⟨(xt3 14 rfl rfl), rfl, by decide +kernel, ⟨by decide +kernel, by decide +kernel⟩, by decide, (xt1 3 rfl rfl)⟩
theorem xm_8 : xPM (1, yX1_openingOf, cX1_openingOf, 2, (some .int)) := ⟨(xt3 58 rfl rfl), rfl, by decide +kernel, ⟨by decide +kernel, by decide +kernel⟩, by decide, (xt1 3 rfl rfl)⟩
theorem xm_9 : xPM (1, yX1_rowOf, cX1_rowOf, 2, (some (.array .int))) := ⟨(xt3 66 rfl rfl), rfl, by decide +kernel, ⟨by decide +kernel, by decide +kernel⟩, by decide, (xt1 3 rfl rfl)⟩
theorem xm_10 : xPM (1, yX1_hasPrepared, cX1_hasPrepared, 4, (some .boolean)) := ⟨(xt2 158 rfl rfl), rfl, by decide +kernel, ⟨by decide +kernel, by decide +kernel⟩, by decide, (xt1 3 rfl rfl)⟩
theorem xm_11 : xPM (1, yX1_enter, cX1_enter, 9, (some .int)) := ⟨(xt2 170 rfl rfl), rfl, by decide +kernel, ⟨by decide +kernel, by decide +kernel⟩, by decide, (xt1 3 rfl rfl)⟩
theorem xm_12 : xPM (1, yX1_isVoid, cX1_isVoid, 10, (some .boolean)) := ⟨(xt2 178 rfl rfl), rfl, by decide +kernel, ⟨by decide +kernel, by decide +kernel⟩, by decide, (xt1 3 rfl rfl)⟩
theorem xm_13 : xPM (1, yX1_makeRow, cX1_makeRow, 8, none) := ⟨(xt2 206 rfl rfl), rfl, by decide +kernel, ⟨by decide +kernel, by decide +kernel⟩, by decide, (xt1 3 rfl rfl)⟩
theorem xm_14 : xPM (2, yX2_init, cX2_init, 1, none) := ⟨(xt1 165 rfl rfl), rfl, by decide +kernel, ⟨by decide +kernel, by decide +kernel⟩, by decide, (xt1 9 rfl rfl)⟩
theorem xm_15 : xPM (2, yX2_note, cX2_note, 3, none) := ⟨(xt3 37 rfl rfl), rfl, by decide +kernel, ⟨by decide +kernel, by decide +kernel⟩, by decide, (xt1 9 rfl rfl)⟩
theorem xm_16 : xPM (2, yX2_areOfTwo, cX2_areOfTwo, 2, (some .boolean)) := ⟨(xt3 42 rfl rfl), rfl, by decide +kernel, ⟨by decide +kernel, by decide +kernel⟩, by decide, (xt1 9 rfl rfl)⟩
theorem xm_17 : xPM (3, yX3_init, cX3_init, 1, none) := ⟨(xt1 70 rfl rfl), rfl, by decide +kernel, ⟨by decide +kernel, by decide +kernel⟩, by decide, (xt1 4 rfl rfl)⟩
theorem xm_18 : xPM (3, yX3_isFull, cX3_isFull, 1, (some .boolean)) := ⟨(xt2 174 rfl rfl), rfl, by decide +kernel, ⟨by decide +kernel, by decide +kernel⟩, by decide, (xt1 4 rfl rfl)⟩
theorem xm_19 : xPM (3, yX3_has, cX3_has, 2, (some .boolean)) := ⟨(xt2 188 rfl rfl), rfl, by decide +kernel, ⟨by decide +kernel, by decide +kernel⟩, by decide, (xt1 4 rfl rfl)⟩
theorem xm_20 : xPM (3, yX3_get, cX3_get, 3, (some .int)) := ⟨(xt2 184 rfl rfl), rfl, by decide +kernel, ⟨by decide +kernel, by decide +kernel⟩, by decide, (xt1 4 rfl rfl)⟩
theorem xm_21 : xPM (3, yX3_isOf, cX3_isOf, 4, (some .boolean)) := ⟨(xt2 166 rfl rfl), rfl, by decide +kernel, ⟨by decide +kernel, by decide +kernel⟩, by decide, (xt1 4 rfl rfl)⟩
theorem xm_22 : xPM (3, yX3_add, cX3_add, 7, (some .int)) := ⟨(xt2 198 rfl rfl), rfl, by decide +kernel, ⟨by decide +kernel, by decide +kernel⟩, by decide, (xt1 4 rfl rfl)⟩
theorem xm_23 : xPM (3, yX3_hasPrepared, cX3_hasPrepared, 4, (some .boolean)) := ⟨(xt2 162 rfl rfl), rfl, by decide +kernel, ⟨by decide +kernel, by decide +kernel⟩, by decide, (xt1 4 rfl rfl)⟩
theorem xm_24 : xPM (3, yX3_isBinding, cX3_isBinding, 2, (some .boolean)) := ⟨(xt2 214 rfl rfl), rfl, by decide +kernel, ⟨by decide +kernel, by decide +kernel⟩, by decide, (xt1 4 rfl rfl)⟩
theorem xm_25 : xPM (3, yX3_lastViewBelow, cX3_lastViewBelow, 6, (some .int)) := ⟨(xt2 210 rfl rfl), rfl, by decide +kernel, ⟨by decide +kernel, by decide +kernel⟩, by decide, (xt1 4 rfl rfl)⟩
theorem xm_26 : xPM (3, yX3_markTold, cX3_markTold, 6, none) := ⟨(xt2 219 rfl rfl), rfl, by decide +kernel, ⟨by decide +kernel, by decide +kernel⟩, by decide, (xt1 4 rfl rfl)⟩
theorem xm_27 : xPM (3, yX3_rowBehind, cX3_rowBehind, 8, (some (.array .int))) := ⟨(xt2 223 rfl rfl), rfl, by decide +kernel, ⟨by decide +kernel, by decide +kernel⟩, by decide, (xt1 4 rfl rfl)⟩
theorem xm_28 : xPM (4, yX4_init, cX4_init, 2, none) := ⟨(xt1 128 rfl rfl), rfl, by decide +kernel, ⟨by decide +kernel, by decide +kernel⟩, by decide, (xt1 7 rfl rfl)⟩
theorem xm_29 : xPM (4, yX4_put, cX4_put, 3, none) := ⟨(xt3 138 rfl rfl), rfl, by decide +kernel, ⟨by decide +kernel, by decide +kernel⟩, by decide, (xt1 7 rfl rfl)⟩
theorem xm_30 : xPM (4, yX4_holdsNext, cX4_holdsNext, 2, (some .boolean)) := ⟨(xt3 6 rfl rfl), rfl, by decide +kernel, ⟨by decide +kernel, by decide +kernel⟩, by decide, (xt1 7 rfl rfl)⟩
theorem xm_31 : xPM (4, yX4_nextOf, cX4_nextOf, 2, (some .int)) := ⟨(xt2 238 rfl rfl), rfl, by decide +kernel, ⟨by decide +kernel, by decide +kernel⟩, by decide, (xt1 7 rfl rfl)⟩
theorem xm_32 : xPM (4, yX4_pass, cX4_pass, 2, none) := ⟨(xt3 18 rfl rfl), rfl, by decide +kernel, ⟨by decide +kernel, by decide +kernel⟩, by decide, (xt1 7 rfl rfl)⟩
theorem xm_33 : xPM (5, yX5_init, cX5_init, 1, none) := ⟨(xt1 32 rfl rfl), rfl, by decide +kernel, ⟨by decide +kernel, by decide +kernel⟩, by decide, (xt1 2 rfl rfl)⟩
theorem xm_34 : xPM (5, yX5_isFull, cX5_isFull, 1, (some .boolean)) := ⟨(xt2 90 rfl rfl), rfl, by decide +kernel, ⟨by decide +kernel, by decide +kernel⟩, by decide, (xt1 2 rfl rfl)⟩
theorem xm_35 : xPM (5, yX5_has, cX5_has, 2, (some .boolean)) := ⟨(xt2 127 rfl rfl), rfl, by decide +kernel, ⟨by decide +kernel, by decide +kernel⟩, by decide, (xt1 2 rfl rfl)⟩
theorem xm_36 : xPM (5, yX5_add, cX5_add, 5, (some .int)) := ⟨(xt2 110 rfl rfl), rfl, by decide +kernel, ⟨by decide +kernel, by decide +kernel⟩, by decide, (xt1 2 rfl rfl)⟩
theorem xm_37 : xPM (5, yX5_clientOf, cX5_clientOf, 2, (some .int)) := ⟨(xt3 79 rfl rfl), rfl, by decide +kernel, ⟨by decide +kernel, by decide +kernel⟩, by decide, (xt1 2 rfl rfl)⟩
theorem xm_38 : xPM (5, yX5_ownNumberOf, cX5_ownNumberOf, 2, (some .int)) := ⟨(xt3 84 rfl rfl), rfl, by decide +kernel, ⟨by decide +kernel, by decide +kernel⟩, by decide, (xt1 2 rfl rfl)⟩
theorem xm_39 : xPM (5, yX5_keyOf, cX5_keyOf, 2, (some .int)) := ⟨(xt3 88 rfl rfl), rfl, by decide +kernel, ⟨by decide +kernel, by decide +kernel⟩, by decide, (xt1 2 rfl rfl)⟩
theorem xm_40 : xPM (5, yX5_valueAfter, cX5_valueAfter, 3, (some .int)) := ⟨(xt3 92 rfl rfl), rfl, by decide +kernel, ⟨by decide +kernel, by decide +kernel⟩, by decide, (xt1 2 rfl rfl)⟩
theorem xm_41 : xPM (5, yX5_resultOf, cX5_resultOf, 3, (some .int)) := ⟨(xt3 96 rfl rfl), rfl, by decide +kernel, ⟨by decide +kernel, by decide +kernel⟩, by decide, (xt1 2 rfl rfl)⟩
theorem xm_42 : xPM (6, yX6_init, cX6_init, 5, none) := ⟨(xt1 122 rfl rfl), rfl, by decide +kernel, ⟨by decide +kernel, by decide +kernel⟩, by decide, (xt1 6 rfl rfl)⟩
theorem xm_43 : xPM (6, yX6_viewNow, cX6_viewNow, 1, (some .int)) := ⟨(xt3 149 rfl rfl), rfl, by decide +kernel, ⟨by decide +kernel, by decide +kernel⟩, by decide, (xt1 6 rfl rfl)⟩
theorem xm_44 : xPM (6, yX6_isActive, cX6_isActive, 1, (some .boolean)) := ⟨(xt4 24 rfl rfl), rfl, by decide +kernel, ⟨by decide +kernel, by decide +kernel⟩, by decide, (xt1 6 rfl rfl)⟩
theorem xm_45 : xPM (6, yX6_hasLied, cX6_hasLied, 1, (some .boolean)) := ⟨(xt3 130 rfl rfl), rfl, by decide +kernel, ⟨by decide +kernel, by decide +kernel⟩, by decide, (xt1 6 rfl rfl)⟩
theorem xm_46 : xPM (6, yX6_storeOf, cX6_storeOf, 1, (some (.object "CountedHouse$Store"))) := ⟨(xt3 183 rfl rfl), rfl, by decide +kernel, ⟨by decide +kernel, by decide +kernel⟩, by decide, (xt1 6 rfl rfl)⟩
theorem xm_47 : xPM (6, yX6_greatestAsked, cX6_greatestAsked, 1, (some .int)) := ⟨(xt3 172 rfl rfl), rfl, by decide +kernel, ⟨by decide +kernel, by decide +kernel⟩, by decide, (xt1 6 rfl rfl)⟩
theorem xm_48 : xPM (6, yX6_readsNext, cX6_readsNext, 2, (some .int)) := ⟨(xt4 30 rfl rfl), rfl, by decide +kernel, ⟨by decide +kernel, by decide +kernel⟩, by decide, (xt1 6 rfl rfl)⟩
theorem xm_49 : xPM (6, yX6_startLying, cX6_startLying, 1, none) := ⟨(xt3 211 rfl rfl), rfl, by decide +kernel, ⟨by decide +kernel, by decide +kernel⟩, by decide, (xt1 6 rfl rfl)⟩
theorem xm_50 : xPM (6, yX6_claimAsking, cX6_claimAsking, 2, none) := ⟨(xt4 5 rfl rfl), rfl, by decide +kernel, ⟨by decide +kernel, by decide +kernel⟩, by decide, (xt1 6 rfl rfl)⟩
theorem xm_51 : xPM (6, yX6_hearAsking, cX6_hearAsking, 3, none) := ⟨(xt3 153 rfl rfl), rfl, by decide +kernel, ⟨by decide +kernel, by decide +kernel⟩, by decide, (xt1 6 rfl rfl)⟩
theorem xm_52 : xPM (6, yX6_followsAskings, cX6_followsAskings, 4, (some .boolean)) := ⟨(xt3 158 rfl rfl), rfl, by decide +kernel, ⟨by decide +kernel, by decide +kernel⟩, by decide, (xt1 6 rfl rfl)⟩
theorem xm_53 : xPM (6, yX6_prepares, cX6_prepares, 2, (some .boolean)) := ⟨(xt2 151 rfl rfl), rfl, by decide +kernel, ⟨by decide +kernel, by decide +kernel⟩, by decide, (xt1 6 rfl rfl)⟩
theorem xm_54 : xPM (6, yX6_receive, cX6_receive, 3, none) := ⟨(xt3 134 rfl rfl), rfl, by decide +kernel, ⟨by decide +kernel, by decide +kernel⟩, by decide, (xt1 6 rfl rfl)⟩
theorem xm_55 : xPM (6, yX6_readAll, cX6_readAll, 5, (some .int)) := ⟨(xt2 230 rfl rfl), rfl, by decide +kernel, ⟨by decide +kernel, by decide +kernel⟩, by decide, (xt1 6 rfl rfl)⟩
theorem xm_56 : xPM (6, yX6_nextSender, cX6_nextSender, 2, (some .int)) := ⟨(xt2 234 rfl rfl), rfl, by decide +kernel, ⟨by decide +kernel, by decide +kernel⟩, by decide, (xt1 6 rfl rfl)⟩
theorem xm_57 : xPM (6, yX6_waits, cX6_waits, 5, (some .boolean)) := ⟨(xt3 10 rfl rfl), rfl, by decide +kernel, ⟨by decide +kernel, by decide +kernel⟩, by decide, (xt1 6 rfl rfl)⟩
theorem xm_58 : xPM (6, yX6_take, cX6_take, 4, none) := ⟨(xt3 22 rfl rfl), rfl, by decide +kernel, ⟨by decide +kernel, by decide +kernel⟩, by decide, (xt1 6 rfl rfl)⟩
theorem xm_59 : xPM (6, yX6_enterView, cX6_enterView, 3, none) := ⟨(xt3 46 rfl rfl), rfl, by decide +kernel, ⟨by decide +kernel, by decide +kernel⟩, by decide, (xt1 6 rfl rfl)⟩
theorem xm_60 : xPM (6, yX6_doWhatIsDue, cX6_doWhatIsDue, 3, none) := ⟨(xt3 54 rfl rfl), rfl, by decide +kernel, ⟨by decide +kernel, by decide +kernel⟩, by decide, (xt1 6 rfl rfl)⟩
theorem xm_61 : xPM (7, yX7_init, cX7_init, 2, none) := ⟨(xt1 180 rfl rfl), rfl, by decide +kernel, ⟨by decide +kernel, by decide +kernel⟩, by decide, (xt1 10 rfl rfl)⟩
theorem xm_62 : xPM (7, yX7_length, cX7_length, 1, (some .int)) := ⟨(xt3 70 rfl rfl), rfl, by decide +kernel, ⟨by decide +kernel, by decide +kernel⟩, by decide, (xt1 10 rfl rfl)⟩
theorem xm_63 : xPM (7, yX7_doneAt, cX7_doneAt, 2, (some .int)) := ⟨(xt4 46 rfl rfl), rfl, by decide +kernel, ⟨by decide +kernel, by decide +kernel⟩, by decide, (xt1 10 rfl rfl)⟩
theorem xm_64 : xPM (7, yX7_valueAt, cX7_valueAt, 2, (some .int)) := ⟨(xt4 34 rfl rfl), rfl, by decide +kernel, ⟨by decide +kernel, by decide +kernel⟩, by decide, (xt1 10 rfl rfl)⟩
theorem xm_65 : xPM (7, yX7_hasReply, cX7_hasReply, 2, (some .boolean)) := ⟨(xt3 187 rfl rfl), rfl, by decide +kernel, ⟨by decide +kernel, by decide +kernel⟩, by decide, (xt1 10 rfl rfl)⟩
theorem xm_66 : xPM (7, yX7_replyTo, cX7_replyTo, 2, (some .int)) := ⟨(xt3 191 rfl rfl), rfl, by decide +kernel, ⟨by decide +kernel, by decide +kernel⟩, by decide, (xt1 10 rfl rfl)⟩
theorem xm_67 : xPM (7, yX7_setReply, cX7_setReply, 3, none) := ⟨(xt3 100 rfl rfl), rfl, by decide +kernel, ⟨by decide +kernel, by decide +kernel⟩, by decide, (xt1 10 rfl rfl)⟩
theorem xm_68 : xPM (7, yX7_perform, cX7_perform, 6, none) := ⟨(xt3 74 rfl rfl), rfl, by decide +kernel, ⟨by decide +kernel, by decide +kernel⟩, by decide, (xt1 10 rfl rfl)⟩
theorem xm_69 : xPM (8, yX8_init, cX8_init, 1, none) := ⟨(xt1 141 rfl rfl), rfl, by decide +kernel, ⟨by decide +kernel, by decide +kernel⟩, by decide, (xt1 8 rfl rfl)⟩
theorem xm_70 : xPM (8, yX8_begin, cX8_begin, 2, none) := ⟨(xt3 50 rfl rfl), rfl, by decide +kernel, ⟨by decide +kernel, by decide +kernel⟩, by decide, (xt1 8 rfl rfl)⟩
theorem xm_71 : xPM (8, yX8_put, cX8_put, 2, none) := ⟨(xt3 26 rfl rfl), rfl, by decide +kernel, ⟨by decide +kernel, by decide +kernel⟩, by decide, (xt1 8 rfl rfl)⟩
theorem xm_72 : xPM (8, yX8_vote, cX8_vote, 2, none) := ⟨(xt3 30 rfl rfl), rfl, by decide +kernel, ⟨by decide +kernel, by decide +kernel⟩, by decide, (xt1 8 rfl rfl)⟩
theorem xm_73 : xPM (8, yX8_hasVote, cX8_hasVote, 2, (some .boolean)) := ⟨(xt3 62 rfl rfl), rfl, by decide +kernel, ⟨by decide +kernel, by decide +kernel⟩, by decide, (xt1 8 rfl rfl)⟩
theorem xm_74 : xPM (8, yX8_nextToDo, cX8_nextToDo, 1, (some .int)) := ⟨(xt3 104 rfl rfl), rfl, by decide +kernel, ⟨by decide +kernel, by decide +kernel⟩, by decide, (xt1 8 rfl rfl)⟩
theorem xm_75 : xPM (9, yX9_init, cX9_init, 2, none) := ⟨(xt1 24 rfl rfl), rfl, by decide +kernel, ⟨by decide +kernel, by decide +kernel⟩, by decide, (xt1 1 rfl rfl)⟩
theorem xm_76 : xPM (9, yX9_request, cX9_request, 5, (some .int)) := ⟨(xt2 16 rfl rfl), rfl, by decide +kernel, ⟨by decide +kernel, by decide +kernel⟩, by decide, (xt1 1 rfl rfl)⟩
theorem xm_77 : xPM (9, yX9_bring, cX9_bring, 4, (some .int)) := ⟨(xt2 119 rfl rfl), rfl, by decide +kernel, ⟨by decide +kernel, by decide +kernel⟩, by decide, (xt1 1 rfl rfl)⟩
theorem xm_78 : xPM (9, yX9_send, cX9_send, 5, (some .int)) := ⟨(xt3 112 rfl rfl), rfl, by decide +kernel, ⟨by decide +kernel, by decide +kernel⟩, by decide, (xt1 1 rfl rfl)⟩
theorem xm_79 : xPM (9, yX9_late, cX9_late, 4, (some .int)) := ⟨(xt3 145 rfl rfl), rfl, by decide +kernel, ⟨by decide +kernel, by decide +kernel⟩, by decide, (xt1 1 rfl rfl)⟩
theorem xm_80 : xPM (9, yX9_ask, cX9_ask, 4, (some .int)) := ⟨(xt3 168 rfl rfl), rfl, by decide +kernel, ⟨by decide +kernel, by decide +kernel⟩, by decide, (xt1 1 rfl rfl)⟩
theorem xm_81 : xPM (9, yX9_reply, cX9_reply, 4, (some .int)) := ⟨(xt3 179 rfl rfl), rfl, by decide +kernel, ⟨by decide +kernel, by decide +kernel⟩, by decide, (xt1 1 rfl rfl)⟩
theorem xm_82 : xPM (9, yX9_lie, cX9_lie, 3, (some .boolean)) := ⟨(xt3 207 rfl rfl), rfl, by decide +kernel, ⟨by decide +kernel, by decide +kernel⟩, by decide, (xt1 1 rfl rfl)⟩
theorem xm_83 : xPM (9, yX9_certify, cX9_certify, 6, (some .int)) := ⟨(xt3 218 rfl rfl), rfl, by decide +kernel, ⟨by decide +kernel, by decide +kernel⟩, by decide, (xt1 1 rfl rfl)⟩
theorem xm_84 : xPM (9, yX9_askFor, cX9_askFor, 3, none) := ⟨(xt4 1 rfl rfl), rfl, by decide +kernel, ⟨by decide +kernel, by decide +kernel⟩, by decide, (xt1 1 rfl rfl)⟩
theorem xm_85 : xPM (9, yX9_replyWith, cX9_replyWith, 4, none) := ⟨(xt4 12 rfl rfl), rfl, by decide +kernel, ⟨by decide +kernel, by decide +kernel⟩, by decide, (xt1 1 rfl rfl)⟩
theorem xm_86 : xPM (9, yX9_state, cX9_state, 4, (some .int)) := ⟨(xt4 20 rfl rfl), rfl, by decide +kernel, ⟨by decide +kernel, by decide +kernel⟩, by decide, (xt1 1 rfl rfl)⟩
theorem xm_87 : xPM (9, yX9_history, cX9_history, 3, (some .int)) := ⟨(xt4 42 rfl rfl), rfl, by decide +kernel, ⟨by decide +kernel, by decide +kernel⟩, by decide, (xt1 1 rfl rfl)⟩
theorem xm_88 : xPM (9, yX9_message, cX9_message, 4, (some .int)) := ⟨(xt4 53 rfl rfl), rfl, by decide +kernel, ⟨by decide +kernel, by decide +kernel⟩, by decide, (xt1 1 rfl rfl)⟩
theorem xm_89 : xPM (9, yX9_row, cX9_row, 4, (some .int)) := ⟨(xt4 62 rfl rfl), rfl, by decide +kernel, ⟨by decide +kernel, by decide +kernel⟩, by decide, (xt1 1 rfl rfl)⟩
theorem xm_90 : xPM (9, yX9_told, cX9_told, 3, (some .int)) := ⟨(xt4 70 rfl rfl), rfl, by decide +kernel, ⟨by decide +kernel, by decide +kernel⟩, by decide, (xt1 1 rfl rfl)⟩
theorem xm_91 : xPM (9, yX9_result, cX9_result, 3, (some .int)) := ⟨(xt4 85 rfl rfl), rfl, by decide +kernel, ⟨by decide +kernel, by decide +kernel⟩, by decide, (xt1 1 rfl rfl)⟩
theorem xm_92 : xPM (9, yX9_checkServer, cX9_checkServer, 1, none) := ⟨(xt2 146 rfl rfl), rfl, by decide +kernel, ⟨by decide +kernel, by decide +kernel⟩, by decide, (xt1 1 rfl rfl)⟩
theorem xm_93 : xPM (9, yX9_checkRequest, cX9_checkRequest, 2, none) := ⟨(xt2 123 rfl rfl), rfl, by decide +kernel, ⟨by decide +kernel, by decide +kernel⟩, by decide, (xt1 1 rfl rfl)⟩
theorem xm_94 : xPM (9, yX9_checkMessage, cX9_checkMessage, 3, none) := ⟨(xt3 116 rfl rfl), rfl, by decide +kernel, ⟨by decide +kernel, by decide +kernel⟩, by decide, (xt1 1 rfl rfl)⟩
theorem xm_95 : xPM (9, yX9_checkNotSame, cX9_checkNotSame, 2, none) := ⟨(xt3 125 rfl rfl), rfl, by decide +kernel, ⟨by decide +kernel, by decide +kernel⟩, by decide, (xt1 1 rfl rfl)⟩
theorem xm_96 : xPM (9, yX9_checkView, cX9_checkView, 1, none) := ⟨(xt3 226 rfl rfl), rfl, by decide +kernel, ⟨by decide +kernel, by decide +kernel⟩, by decide, (xt1 1 rfl rfl)⟩
theorem xm_97 : xPM (9, yX9_checkLiar, cX9_checkLiar, 2, none) := ⟨(xt3 222 rfl rfl), rfl, by decide +kernel, ⟨by decide +kernel, by decide +kernel⟩, by decide, (xt1 1 rfl rfl)⟩
theorem xm_98 : xPM (9, yX9_canStandIn, cX9_canStandIn, 3, (some .boolean)) := ⟨(xt3 231 rfl rfl), rfl, by decide +kernel, ⟨by decide +kernel, by decide +kernel⟩, by decide, (xt1 1 rfl rfl)⟩
theorem xm_99 : xPM (9, yX9_leaderOf, cX9_leaderOf, 1, (some .int)) := ⟨(xt2 154 rfl rfl), rfl, by decide +kernel, ⟨by decide +kernel, by decide +kernel⟩, by decide, (xt1 1 rfl rfl)⟩
theorem xm_100 : xPM (9, yX9_pairOf, cX9_pairOf, 2, (some .int)) := ⟨(xt3 33 rfl rfl), rfl, by decide +kernel, ⟨by decide +kernel, by decide +kernel⟩, by decide, (xt1 1 rfl rfl)⟩
theorem xm_101 : xPM (9, yX9_serverOf, cX9_serverOf, 1, (some .int)) := ⟨(xt2 191 rfl rfl), rfl, by decide +kernel, ⟨by decide +kernel, by decide +kernel⟩, by decide, (xt1 1 rfl rfl)⟩
theorem xm_102 : xPM (9, yX9_numberOf, cX9_numberOf, 1, (some .int)) := ⟨(xt2 194 rfl rfl), rfl, by decide +kernel, ⟨by decide +kernel, by decide +kernel⟩, by decide, (xt1 1 rfl rfl)⟩
theorem xm_103 : xPM (10, yX10_init, cX10_init, 3, none) := ⟨(xt4 90 rfl rfl), rfl, by decide +kernel, ⟨by decide +kernel, by decide +kernel⟩, by decide, (xt1 11 rfl rfl)⟩
theorem xm_104 : xPM (10, yX10_thrown, cX10_thrown, 1, (some .int)) := ⟨(xt4 219 rfl rfl), rfl, by decide +kernel, ⟨by decide +kernel, by decide +kernel⟩, by decide, (xt1 11 rfl rfl)⟩
theorem xm_105 : xPM (10, yX10_request, cX10_request, 7, (some .int)) := ⟨(xt4 223 rfl rfl), rfl, by decide +kernel, ⟨by decide +kernel, by decide +kernel⟩, by decide, (xt1 11 rfl rfl)⟩
theorem xm_106 : xPM (10, yX10_at, cX10_at, 2, (some .int)) := ⟨(xt5 1 rfl rfl), rfl, by decide +kernel, ⟨by decide +kernel, by decide +kernel⟩, by decide, (xt1 11 rfl rfl)⟩
theorem xm_107 : xPM (10, yX10_isThere, cX10_isThere, 3, (some .boolean)) := ⟨(xt5 33 rfl rfl), rfl, by decide +kernel, ⟨by decide +kernel, by decide +kernel⟩, by decide, (xt1 11 rfl rfl)⟩
theorem xm_108 : xPM (10, yX10_hasLeft, cX10_hasLeft, 6, (some .boolean)) := ⟨(xt5 37 rfl rfl), rfl, by decide +kernel, ⟨by decide +kernel, by decide +kernel⟩, by decide, (xt1 11 rfl rfl)⟩
theorem xm_109 : xPM (10, yX10_isChange, cX10_isChange, 6, (some .boolean)) := ⟨(xt5 29 rfl rfl), rfl, by decide +kernel, ⟨by decide +kernel, by decide +kernel⟩, by decide, (xt1 11 rfl rfl)⟩
theorem xm_110 : xPM (10, yX10_isVoidNew, cX10_isVoidNew, 5, (some .boolean)) := ⟨(xt5 25 rfl rfl), rfl, by decide +kernel, ⟨by decide +kernel, by decide +kernel⟩, by decide, (xt1 11 rfl rfl)⟩
theorem xm_111 : xPM (10, yX10_opening, cX10_opening, 4, (some .int)) := ⟨(xt5 21 rfl rfl), rfl, by decide +kernel, ⟨by decide +kernel, by decide +kernel⟩, by decide, (xt1 11 rfl rfl)⟩
theorem xm_112 : xPM (10, yX10_isVoidPrepare, cX10_isVoidPrepare, 5, (some .boolean)) := ⟨(xt5 17 rfl rfl), rfl, by decide +kernel, ⟨by decide +kernel, by decide +kernel⟩, by decide, (xt1 11 rfl rfl)⟩
theorem xm_113 : xPM (10, yX10_isVoidCommit, cX10_isVoidCommit, 8, (some .boolean)) := ⟨(xt5 41 rfl rfl), rfl, by decide +kernel, ⟨by decide +kernel, by decide +kernel⟩, by decide, (xt1 11 rfl rfl)⟩
theorem xm_114 : xPM (10, yX10_isVoid, cX10_isVoid, 3, (some .boolean)) := ⟨(xt5 13 rfl rfl), rfl, by decide +kernel, ⟨by decide +kernel, by decide +kernel⟩, by decide, (xt1 11 rfl rfl)⟩
theorem xm_115 : xPM (10, yX10_hasOf, cX10_hasOf, 8, (some .boolean)) := ⟨(xt5 73 rfl rfl), rfl, by decide +kernel, ⟨by decide +kernel, by decide +kernel⟩, by decide, (xt1 11 rfl rfl)⟩
theorem xm_116 : xPM (10, yX10_tells, cX10_tells, 7, (some .boolean)) := ⟨(xt5 81 rfl rfl), rfl, by decide +kernel, ⟨by decide +kernel, by decide +kernel⟩, by decide, (xt1 11 rfl rfl)⟩
theorem xm_117 : xPM (10, yX10_before, cX10_before, 4, (some .int)) := ⟨(xt5 69 rfl rfl), rfl, by decide +kernel, ⟨by decide +kernel, by decide +kernel⟩, by decide, (xt1 11 rfl rfl)⟩
theorem xm_118 : xPM (10, yX10_adds, cX10_adds, 11, none) := ⟨(xt5 77 rfl rfl), rfl, by decide +kernel, ⟨by decide +kernel, by decide +kernel⟩, by decide, (xt1 11 rfl rfl)⟩
theorem xm_119 : xPM (10, yX10_rows, cX10_rows, 4, none) := ⟨(xt5 65 rfl rfl), rfl, by decide +kernel, ⟨by decide +kernel, by decide +kernel⟩, by decide, (xt1 11 rfl rfl)⟩
theorem xm_120 : xPM (10, yX10_turnsTo, cX10_turnsTo, 5, none) := ⟨(xt5 57 rfl rfl), rfl, by decide +kernel, ⟨by decide +kernel, by decide +kernel⟩, by decide, (xt1 11 rfl rfl)⟩
theorem xm_121 : xPM (10, yX10_certifies, cX10_certifies, 8, (some .int)) := ⟨(xt5 5 rfl rfl), rfl, by decide +kernel, ⟨by decide +kernel, by decide +kernel⟩, by decide, (xt1 11 rfl rfl)⟩
theorem xm_122 : xPM (10, yX10_read, cX10_read, 6, none) := ⟨(xt5 9 rfl rfl), rfl, by decide +kernel, ⟨by decide +kernel, by decide +kernel⟩, by decide, (xt1 11 rfl rfl)⟩
theorem xm_123 : xPM (10, yX10_readPrepare, cX10_readPrepare, 3, none) := ⟨(xt5 45 rfl rfl), rfl, by decide +kernel, ⟨by decide +kernel, by decide +kernel⟩, by decide, (xt1 11 rfl rfl)⟩
theorem xm_124 : xPM (10, yX10_readNew, cX10_readNew, 4, none) := ⟨(xt5 53 rfl rfl), rfl, by decide +kernel, ⟨by decide +kernel, by decide +kernel⟩, by decide, (xt1 11 rfl rfl)⟩
theorem xm_125 : xPM (10, yX10_readChange, cX10_readChange, 10, none) := ⟨(xt5 49 rfl rfl), rfl, by decide +kernel, ⟨by decide +kernel, by decide +kernel⟩, by decide, (xt1 11 rfl rfl)⟩
theorem xm_126 : xPM (10, yX10_does, cX10_does, 5, none) := ⟨(xt5 61 rfl rfl), rfl, by decide +kernel, ⟨by decide +kernel, by decide +kernel⟩, by decide, (xt1 11 rfl rfl)⟩
theorem xm_127 : xPM (10, yX10_doOne, cX10_doOne, 6, none) := ⟨(xt5 85 rfl rfl), rfl, by decide +kernel, ⟨by decide +kernel, by decide +kernel⟩, by decide, (xt1 11 rfl rfl)⟩
theorem xm_128 : xPM (10, yX10_readsOn, cX10_readsOn, 5, (some .int)) := ⟨(xt5 89 rfl rfl), rfl, by decide +kernel, ⟨by decide +kernel, by decide +kernel⟩, by decide, (xt1 11 rfl rfl)⟩
theorem xm_129 : xPM (10, yX10_waits, cX10_waits, 5, (some .boolean)) := ⟨(xt5 93 rfl rfl), rfl, by decide +kernel, ⟨by decide +kernel, by decide +kernel⟩, by decide, (xt1 11 rfl rfl)⟩
theorem xm_130 : xPM (10, yX10_isServer, cX10_isServer, 1, (some .boolean)) := ⟨(xt4 234 rfl rfl), rfl, by decide +kernel, ⟨by decide +kernel, by decide +kernel⟩, by decide, (xt1 11 rfl rfl)⟩
theorem xm_131 : xPM (10, yX10_isRequest, cX10_isRequest, 2, (some .boolean)) := ⟨(xt4 231 rfl rfl), rfl, by decide +kernel, ⟨by decide +kernel, by decide +kernel⟩, by decide, (xt1 11 rfl rfl)⟩
theorem xm_132 : xPM (10, yX10_bad, cX10_bad, 3, (some .boolean)) := ⟨(xt4 238 rfl rfl), rfl, by decide +kernel, ⟨by decide +kernel, by decide +kernel⟩, by decide, (xt1 11 rfl rfl)⟩
theorem xm_133 : xPM (10, yX10_bring, cX10_bring, 4, (some .int)) := ⟨(xt4 227 rfl rfl), rfl, by decide +kernel, ⟨by decide +kernel, by decide +kernel⟩, by decide, (xt1 11 rfl rfl)⟩
theorem xm_134 : xPM (10, yX10_send, cX10_send, 4, (some .int)) := ⟨(xt5 97 rfl rfl), rfl, by decide +kernel, ⟨by decide +kernel, by decide +kernel⟩, by decide, (xt1 11 rfl rfl)⟩
theorem xm_135 : xPM (10, yX10_turns, cX10_turns, 6, (some .boolean)) := ⟨(xt5 105 rfl rfl), rfl, by decide +kernel, ⟨by decide +kernel, by decide +kernel⟩, by decide, (xt1 11 rfl rfl)⟩
theorem xm_136 : xPM (10, yX10_late, cX10_late, 3, (some .int)) := ⟨(xt5 101 rfl rfl), rfl, by decide +kernel, ⟨by decide +kernel, by decide +kernel⟩, by decide, (xt1 11 rfl rfl)⟩
theorem xm_137 : xPM (10, yX10_ask, cX10_ask, 4, (some .int)) := ⟨(xt5 109 rfl rfl), rfl, by decide +kernel, ⟨by decide +kernel, by decide +kernel⟩, by decide, (xt1 11 rfl rfl)⟩
theorem xm_138 : xPM (10, yX10_reply, cX10_reply, 5, (some .int)) := ⟨(xt5 113 rfl rfl), rfl, by decide +kernel, ⟨by decide +kernel, by decide +kernel⟩, by decide, (xt1 11 rfl rfl)⟩
theorem xm_139 : xPM (10, yX10_lie, cX10_lie, 3, (some .boolean)) := ⟨(xt5 117 rfl rfl), rfl, by decide +kernel, ⟨by decide +kernel, by decide +kernel⟩, by decide, (xt1 11 rfl rfl)⟩
theorem xm_140 : xPM (10, yX10_certify, cX10_certify, 7, (some .int)) := ⟨(xt5 121 rfl rfl), rfl, by decide +kernel, ⟨by decide +kernel, by decide +kernel⟩, by decide, (xt1 11 rfl rfl)⟩
theorem xm_141 : xPM (10, yX10_askFor, cX10_askFor, 3, none) := ⟨(xt5 125 rfl rfl), rfl, by decide +kernel, ⟨by decide +kernel, by decide +kernel⟩, by decide, (xt1 11 rfl rfl)⟩
theorem xm_142 : xPM (10, yX10_replyWith, cX10_replyWith, 4, none) := ⟨(xt5 129 rfl rfl), rfl, by decide +kernel, ⟨by decide +kernel, by decide +kernel⟩, by decide, (xt1 11 rfl rfl)⟩
theorem xm_143 : xPM (10, yX10_state, cX10_state, 3, (some .int)) := ⟨(xt5 133 rfl rfl), rfl, by decide +kernel, ⟨by decide +kernel, by decide +kernel⟩, by decide, (xt1 11 rfl rfl)⟩
theorem xm_144 : xPM (10, yX10_history, cX10_history, 3, (some .int)) := ⟨(xt5 137 rfl rfl), rfl, by decide +kernel, ⟨by decide +kernel, by decide +kernel⟩, by decide, (xt1 11 rfl rfl)⟩
theorem xm_145 : xPM (10, yX10_message, cX10_message, 5, (some .int)) := ⟨(xt5 141 rfl rfl), rfl, by decide +kernel, ⟨by decide +kernel, by decide +kernel⟩, by decide, (xt1 11 rfl rfl)⟩
theorem xm_146 : xPM (10, yX10_row, cX10_row, 3, (some .int)) := ⟨(xt5 145 rfl rfl), rfl, by decide +kernel, ⟨by decide +kernel, by decide +kernel⟩, by decide, (xt1 11 rfl rfl)⟩
theorem xm_147 : xPM (10, yX10_told, cX10_told, 3, (some .int)) := ⟨(xt5 149 rfl rfl), rfl, by decide +kernel, ⟨by decide +kernel, by decide +kernel⟩, by decide, (xt1 11 rfl rfl)⟩
theorem xm_148 : xPM (10, yX10_result, cX10_result, 3, (some .int)) := ⟨(xt5 153 rfl rfl), rfl, by decide +kernel, ⟨by decide +kernel, by decide +kernel⟩, by decide, (xt1 11 rfl rfl)⟩
set_option maxRecDepth 100000 in
theorem xMt_ok_0 : ∀ q ∈ xMt_0, xPM q := List.forall_mem_cons.mpr ⟨xm_0, List.forall_mem_cons.mpr ⟨xm_1, List.forall_mem_cons.mpr ⟨xm_2, List.forall_mem_cons.mpr ⟨xm_3, List.forall_mem_cons.mpr ⟨xm_4, List.forall_mem_cons.mpr ⟨xm_5, List.forall_mem_cons.mpr ⟨xm_6, List.forall_mem_cons.mpr ⟨xm_7, List.forall_mem_cons.mpr ⟨xm_8, List.forall_mem_cons.mpr ⟨xm_9, List.forall_mem_cons.mpr ⟨xm_10, List.forall_mem_cons.mpr ⟨xm_11, List.forall_mem_cons.mpr ⟨xm_12, List.forall_mem_cons.mpr ⟨xm_13, List.forall_mem_cons.mpr ⟨xm_14, List.forall_mem_cons.mpr ⟨xm_15, fun _ h => nomatch h⟩⟩⟩⟩⟩⟩⟩⟩⟩⟩⟩⟩⟩⟩⟩⟩
set_option maxRecDepth 100000 in
theorem xMt_ok_1 : ∀ q ∈ xMt_1, xPM q := List.forall_mem_cons.mpr ⟨xm_16, List.forall_mem_cons.mpr ⟨xm_17, List.forall_mem_cons.mpr ⟨xm_18, List.forall_mem_cons.mpr ⟨xm_19, List.forall_mem_cons.mpr ⟨xm_20, List.forall_mem_cons.mpr ⟨xm_21, List.forall_mem_cons.mpr ⟨xm_22, List.forall_mem_cons.mpr ⟨xm_23, List.forall_mem_cons.mpr ⟨xm_24, List.forall_mem_cons.mpr ⟨xm_25, List.forall_mem_cons.mpr ⟨xm_26, List.forall_mem_cons.mpr ⟨xm_27, List.forall_mem_cons.mpr ⟨xm_28, List.forall_mem_cons.mpr ⟨xm_29, List.forall_mem_cons.mpr ⟨xm_30, List.forall_mem_cons.mpr ⟨xm_31, fun _ h => nomatch h⟩⟩⟩⟩⟩⟩⟩⟩⟩⟩⟩⟩⟩⟩⟩⟩
set_option maxRecDepth 100000 in
theorem xMt_ok_2 : ∀ q ∈ xMt_2, xPM q := List.forall_mem_cons.mpr ⟨xm_32, List.forall_mem_cons.mpr ⟨xm_33, List.forall_mem_cons.mpr ⟨xm_34, List.forall_mem_cons.mpr ⟨xm_35, List.forall_mem_cons.mpr ⟨xm_36, List.forall_mem_cons.mpr ⟨xm_37, List.forall_mem_cons.mpr ⟨xm_38, List.forall_mem_cons.mpr ⟨xm_39, List.forall_mem_cons.mpr ⟨xm_40, List.forall_mem_cons.mpr ⟨xm_41, List.forall_mem_cons.mpr ⟨xm_42, List.forall_mem_cons.mpr ⟨xm_43, List.forall_mem_cons.mpr ⟨xm_44, List.forall_mem_cons.mpr ⟨xm_45, List.forall_mem_cons.mpr ⟨xm_46, List.forall_mem_cons.mpr ⟨xm_47, fun _ h => nomatch h⟩⟩⟩⟩⟩⟩⟩⟩⟩⟩⟩⟩⟩⟩⟩⟩
set_option maxRecDepth 100000 in
theorem xMt_ok_3 : ∀ q ∈ xMt_3, xPM q := List.forall_mem_cons.mpr ⟨xm_48, List.forall_mem_cons.mpr ⟨xm_49, List.forall_mem_cons.mpr ⟨xm_50, List.forall_mem_cons.mpr ⟨xm_51, List.forall_mem_cons.mpr ⟨xm_52, List.forall_mem_cons.mpr ⟨xm_53, List.forall_mem_cons.mpr ⟨xm_54, List.forall_mem_cons.mpr ⟨xm_55, List.forall_mem_cons.mpr ⟨xm_56, List.forall_mem_cons.mpr ⟨xm_57, List.forall_mem_cons.mpr ⟨xm_58, List.forall_mem_cons.mpr ⟨xm_59, List.forall_mem_cons.mpr ⟨xm_60, List.forall_mem_cons.mpr ⟨xm_61, List.forall_mem_cons.mpr ⟨xm_62, List.forall_mem_cons.mpr ⟨xm_63, fun _ h => nomatch h⟩⟩⟩⟩⟩⟩⟩⟩⟩⟩⟩⟩⟩⟩⟩⟩
set_option maxRecDepth 100000 in
theorem xMt_ok_4 : ∀ q ∈ xMt_4, xPM q := List.forall_mem_cons.mpr ⟨xm_64, List.forall_mem_cons.mpr ⟨xm_65, List.forall_mem_cons.mpr ⟨xm_66, List.forall_mem_cons.mpr ⟨xm_67, List.forall_mem_cons.mpr ⟨xm_68, List.forall_mem_cons.mpr ⟨xm_69, List.forall_mem_cons.mpr ⟨xm_70, List.forall_mem_cons.mpr ⟨xm_71, List.forall_mem_cons.mpr ⟨xm_72, List.forall_mem_cons.mpr ⟨xm_73, List.forall_mem_cons.mpr ⟨xm_74, List.forall_mem_cons.mpr ⟨xm_75, List.forall_mem_cons.mpr ⟨xm_76, List.forall_mem_cons.mpr ⟨xm_77, List.forall_mem_cons.mpr ⟨xm_78, List.forall_mem_cons.mpr ⟨xm_79, fun _ h => nomatch h⟩⟩⟩⟩⟩⟩⟩⟩⟩⟩⟩⟩⟩⟩⟩⟩
set_option maxRecDepth 100000 in
theorem xMt_ok_5 : ∀ q ∈ xMt_5, xPM q := List.forall_mem_cons.mpr ⟨xm_80, List.forall_mem_cons.mpr ⟨xm_81, List.forall_mem_cons.mpr ⟨xm_82, List.forall_mem_cons.mpr ⟨xm_83, List.forall_mem_cons.mpr ⟨xm_84, List.forall_mem_cons.mpr ⟨xm_85, List.forall_mem_cons.mpr ⟨xm_86, List.forall_mem_cons.mpr ⟨xm_87, List.forall_mem_cons.mpr ⟨xm_88, List.forall_mem_cons.mpr ⟨xm_89, List.forall_mem_cons.mpr ⟨xm_90, List.forall_mem_cons.mpr ⟨xm_91, List.forall_mem_cons.mpr ⟨xm_92, List.forall_mem_cons.mpr ⟨xm_93, List.forall_mem_cons.mpr ⟨xm_94, List.forall_mem_cons.mpr ⟨xm_95, fun _ h => nomatch h⟩⟩⟩⟩⟩⟩⟩⟩⟩⟩⟩⟩⟩⟩⟩⟩
set_option maxRecDepth 100000 in
theorem xMt_ok_6 : ∀ q ∈ xMt_6, xPM q := List.forall_mem_cons.mpr ⟨xm_96, List.forall_mem_cons.mpr ⟨xm_97, List.forall_mem_cons.mpr ⟨xm_98, List.forall_mem_cons.mpr ⟨xm_99, List.forall_mem_cons.mpr ⟨xm_100, List.forall_mem_cons.mpr ⟨xm_101, List.forall_mem_cons.mpr ⟨xm_102, List.forall_mem_cons.mpr ⟨xm_103, List.forall_mem_cons.mpr ⟨xm_104, List.forall_mem_cons.mpr ⟨xm_105, List.forall_mem_cons.mpr ⟨xm_106, List.forall_mem_cons.mpr ⟨xm_107, List.forall_mem_cons.mpr ⟨xm_108, List.forall_mem_cons.mpr ⟨xm_109, List.forall_mem_cons.mpr ⟨xm_110, List.forall_mem_cons.mpr ⟨xm_111, fun _ h => nomatch h⟩⟩⟩⟩⟩⟩⟩⟩⟩⟩⟩⟩⟩⟩⟩⟩
set_option maxRecDepth 100000 in
theorem xMt_ok_7 : ∀ q ∈ xMt_7, xPM q := List.forall_mem_cons.mpr ⟨xm_112, List.forall_mem_cons.mpr ⟨xm_113, List.forall_mem_cons.mpr ⟨xm_114, List.forall_mem_cons.mpr ⟨xm_115, List.forall_mem_cons.mpr ⟨xm_116, List.forall_mem_cons.mpr ⟨xm_117, List.forall_mem_cons.mpr ⟨xm_118, List.forall_mem_cons.mpr ⟨xm_119, List.forall_mem_cons.mpr ⟨xm_120, List.forall_mem_cons.mpr ⟨xm_121, List.forall_mem_cons.mpr ⟨xm_122, List.forall_mem_cons.mpr ⟨xm_123, List.forall_mem_cons.mpr ⟨xm_124, List.forall_mem_cons.mpr ⟨xm_125, List.forall_mem_cons.mpr ⟨xm_126, List.forall_mem_cons.mpr ⟨xm_127, fun _ h => nomatch h⟩⟩⟩⟩⟩⟩⟩⟩⟩⟩⟩⟩⟩⟩⟩⟩
set_option maxRecDepth 100000 in
theorem xMt_ok_8 : ∀ q ∈ xMt_8, xPM q := List.forall_mem_cons.mpr ⟨xm_128, List.forall_mem_cons.mpr ⟨xm_129, List.forall_mem_cons.mpr ⟨xm_130, List.forall_mem_cons.mpr ⟨xm_131, List.forall_mem_cons.mpr ⟨xm_132, List.forall_mem_cons.mpr ⟨xm_133, List.forall_mem_cons.mpr ⟨xm_134, List.forall_mem_cons.mpr ⟨xm_135, List.forall_mem_cons.mpr ⟨xm_136, List.forall_mem_cons.mpr ⟨xm_137, List.forall_mem_cons.mpr ⟨xm_138, List.forall_mem_cons.mpr ⟨xm_139, List.forall_mem_cons.mpr ⟨xm_140, List.forall_mem_cons.mpr ⟨xm_141, List.forall_mem_cons.mpr ⟨xm_142, List.forall_mem_cons.mpr ⟨xm_143, fun _ h => nomatch h⟩⟩⟩⟩⟩⟩⟩⟩⟩⟩⟩⟩⟩⟩⟩⟩
set_option maxRecDepth 100000 in
theorem xMt_ok_9 : ∀ q ∈ xMt_9, xPM q := List.forall_mem_cons.mpr ⟨xm_144, List.forall_mem_cons.mpr ⟨xm_145, List.forall_mem_cons.mpr ⟨xm_146, List.forall_mem_cons.mpr ⟨xm_147, List.forall_mem_cons.mpr ⟨xm_148, fun _ h => nomatch h⟩⟩⟩⟩⟩
theorem xapp {α : Type} {P : α → Prop} {a b : List α} (h1 : ∀ q ∈ a, P q) (h2 : ∀ q ∈ b, P q) : ∀ q ∈ a ++ b, P q := fun q h => (List.mem_append.mp h).elim (h1 q) (h2 q)
theorem xMt_ok : ∀ q ∈ xMt, xPM q := xapp (xapp (xapp (xapp (xapp (xapp (xapp (xapp (xapp (xMt_ok_0) xMt_ok_1) xMt_ok_2) xMt_ok_3) xMt_ok_4) xMt_ok_5) xMt_ok_6) xMt_ok_7) xMt_ok_8) xMt_ok_9
set_option maxRecDepth 100000 in
theorem xIt_ok_0 : (xMt_0.zip xIt_0).all (fun q => xChkI q.1.2.2.1 q.2) = true := by decide +kernel
set_option maxRecDepth 100000 in
theorem xIt_ok_1 : (xMt_1.zip xIt_1).all (fun q => xChkI q.1.2.2.1 q.2) = true := by decide +kernel
set_option maxRecDepth 100000 in
theorem xIt_ok_2 : (xMt_2.zip xIt_2).all (fun q => xChkI q.1.2.2.1 q.2) = true := by decide +kernel
set_option maxRecDepth 100000 in
theorem xIt_ok_3 : (xMt_3.zip xIt_3).all (fun q => xChkI q.1.2.2.1 q.2) = true := by decide +kernel
set_option maxRecDepth 100000 in
theorem xIt_ok_4 : (xMt_4.zip xIt_4).all (fun q => xChkI q.1.2.2.1 q.2) = true := by decide +kernel
set_option maxRecDepth 100000 in
theorem xIt_ok_5 : (xMt_5.zip xIt_5).all (fun q => xChkI q.1.2.2.1 q.2) = true := by decide +kernel
set_option maxRecDepth 100000 in
theorem xIt_ok_6 : (xMt_6.zip xIt_6).all (fun q => xChkI q.1.2.2.1 q.2) = true := by decide +kernel
set_option maxRecDepth 100000 in
theorem xIt_ok_7 : (xMt_7.zip xIt_7).all (fun q => xChkI q.1.2.2.1 q.2) = true := by decide +kernel
set_option maxRecDepth 100000 in
theorem xIt_ok_8 : (xMt_8.zip xIt_8).all (fun q => xChkI q.1.2.2.1 q.2) = true := by decide +kernel
set_option maxRecDepth 100000 in
theorem xIt_ok_9 : (xMt_9.zip xIt_9).all (fun q => xChkI q.1.2.2.1 q.2) = true := by decide +kernel
set_option maxRecDepth 100000 in
theorem xu_0 : ∀ w ∈ u_ws RX0 TX0 4, w ∈ xT := List.forall_mem_cons.mpr ⟨(xt1 108 rfl rfl), List.forall_mem_cons.mpr ⟨(xt1 110 rfl rfl), List.forall_mem_cons.mpr ⟨(xt1 112 rfl rfl), List.forall_mem_cons.mpr ⟨(xt1 114 rfl rfl), fun _ h => nomatch h⟩⟩⟩⟩
set_option maxRecDepth 100000 in
theorem xu_1 : ∀ w ∈ u_ws RX1 TX1 4, w ∈ xT := List.forall_mem_cons.mpr ⟨(xt1 89 rfl rfl), List.forall_mem_cons.mpr ⟨(xt1 91 rfl rfl), List.forall_mem_cons.mpr ⟨(xt1 93 rfl rfl), List.forall_mem_cons.mpr ⟨(xt1 95 rfl rfl), fun _ h => nomatch h⟩⟩⟩⟩
set_option maxRecDepth 100000 in
theorem xu_2 : ∀ w ∈ u_ws RX2 TX2 2, w ∈ xT := List.forall_mem_cons.mpr ⟨(xt1 171 rfl rfl), List.forall_mem_cons.mpr ⟨(xt1 173 rfl rfl), fun _ h => nomatch h⟩⟩
set_option maxRecDepth 100000 in
theorem xu_3 : ∀ w ∈ u_ws RX3 TX3 3, w ∈ xT := List.forall_mem_cons.mpr ⟨(xt1 77 rfl rfl), List.forall_mem_cons.mpr ⟨(xt1 79 rfl rfl), List.forall_mem_cons.mpr ⟨(xt1 81 rfl rfl), fun _ h => nomatch h⟩⟩⟩
set_option maxRecDepth 100000 in
theorem xu_4 : ∀ w ∈ u_ws RX4 TX4 2, w ∈ xT := List.forall_mem_cons.mpr ⟨(xt1 132 rfl rfl), List.forall_mem_cons.mpr ⟨(xt1 134 rfl rfl), fun _ h => nomatch h⟩⟩
set_option maxRecDepth 100000 in
theorem xu_5 : ∀ w ∈ u_ws RX5 TX5 7, w ∈ xT := List.forall_mem_cons.mpr ⟨(xt1 41 rfl rfl), List.forall_mem_cons.mpr ⟨(xt1 43 rfl rfl), List.forall_mem_cons.mpr ⟨(xt1 45 rfl rfl), List.forall_mem_cons.mpr ⟨(xt1 47 rfl rfl), List.forall_mem_cons.mpr ⟨(xt1 49 rfl rfl), List.forall_mem_cons.mpr ⟨(xt1 51 rfl rfl), List.forall_mem_cons.mpr ⟨(xt1 53 rfl rfl), fun _ h => nomatch h⟩⟩⟩⟩⟩⟩⟩
set_option maxRecDepth 100000 in
theorem xu_6 : ∀ w ∈ u_ws RX6 TX6 10, w ∈ xT := List.forall_mem_cons.mpr ⟨(xt1 214 rfl rfl), List.forall_mem_cons.mpr ⟨(xt1 216 rfl rfl), List.forall_mem_cons.mpr ⟨(xt1 218 rfl rfl), List.forall_mem_cons.mpr ⟨(xt1 220 rfl rfl), List.forall_mem_cons.mpr ⟨(xt1 222 rfl rfl), List.forall_mem_cons.mpr ⟨(xt1 224 rfl rfl), List.forall_mem_cons.mpr ⟨(xt1 226 rfl rfl), List.forall_mem_cons.mpr ⟨(xt1 228 rfl rfl), List.forall_mem_cons.mpr ⟨(xt1 230 rfl rfl), List.forall_mem_cons.mpr ⟨(xt1 232 rfl rfl), fun _ h => nomatch h⟩⟩⟩⟩⟩⟩⟩⟩⟩⟩
set_option maxRecDepth 100000 in
theorem xu_7 : ∀ w ∈ u_ws RX7 TX7 7, w ∈ xT := List.forall_mem_cons.mpr ⟨(xt1 189 rfl rfl), List.forall_mem_cons.mpr ⟨(xt1 191 rfl rfl), List.forall_mem_cons.mpr ⟨(xt1 193 rfl rfl), List.forall_mem_cons.mpr ⟨(xt1 195 rfl rfl), List.forall_mem_cons.mpr ⟨(xt1 197 rfl rfl), List.forall_mem_cons.mpr ⟨(xt1 199 rfl rfl), List.forall_mem_cons.mpr ⟨(xt1 201 rfl rfl), fun _ h => nomatch h⟩⟩⟩⟩⟩⟩⟩
set_option maxRecDepth 100000 in
theorem xu_8 : ∀ w ∈ u_ws RX8 TX8 5, w ∈ xT := List.forall_mem_cons.mpr ⟨(xt1 150 rfl rfl), List.forall_mem_cons.mpr ⟨(xt1 152 rfl rfl), List.forall_mem_cons.mpr ⟨(xt1 154 rfl rfl), List.forall_mem_cons.mpr ⟨(xt1 156 rfl rfl), List.forall_mem_cons.mpr ⟨(xt1 158 rfl rfl), fun _ h => nomatch h⟩⟩⟩⟩⟩
set_option maxRecDepth 100000 in
theorem xu_9 : ∀ w ∈ u_ws RX9 TX9 4, w ∈ xT := List.forall_mem_cons.mpr ⟨(xt1 239 rfl rfl), List.forall_mem_cons.mpr ⟨(xt2 1 rfl rfl), List.forall_mem_cons.mpr ⟨(xt2 3 rfl rfl), List.forall_mem_cons.mpr ⟨(xt2 5 rfl rfl), fun _ h => nomatch h⟩⟩⟩⟩
set_option maxRecDepth 100000 in
theorem xu_10 : ∀ w ∈ u_ws RX10 TX10 41, w ∈ xT := List.forall_mem_cons.mpr ⟨(xt4 133 rfl rfl), List.forall_mem_cons.mpr ⟨(xt4 135 rfl rfl), List.forall_mem_cons.mpr ⟨(xt4 137 rfl rfl), List.forall_mem_cons.mpr ⟨(xt4 139 rfl rfl), List.forall_mem_cons.mpr ⟨(xt4 141 rfl rfl), List.forall_mem_cons.mpr ⟨(xt4 143 rfl rfl), List.forall_mem_cons.mpr ⟨(xt4 145 rfl rfl), List.forall_mem_cons.mpr ⟨(xt4 147 rfl rfl), List.forall_mem_cons.mpr ⟨(xt4 149 rfl rfl), List.forall_mem_cons.mpr ⟨(xt4 151 rfl rfl), List.forall_mem_cons.mpr ⟨(xt4 153 rfl rfl), List.forall_mem_cons.mpr ⟨(xt4 155 rfl rfl), List.forall_mem_cons.mpr ⟨(xt4 157 rfl rfl), List.forall_mem_cons.mpr ⟨(xt4 159 rfl rfl), List.forall_mem_cons.mpr ⟨(xt4 161 rfl rfl), List.forall_mem_cons.mpr ⟨(xt4 163 rfl rfl), List.forall_mem_cons.mpr ⟨(xt4 165 rfl rfl), List.forall_mem_cons.mpr ⟨(xt4 167 rfl rfl), List.forall_mem_cons.mpr ⟨(xt4 169 rfl rfl), List.forall_mem_cons.mpr ⟨(xt4 171 rfl rfl), List.forall_mem_cons.mpr ⟨(xt4 173 rfl rfl), List.forall_mem_cons.mpr ⟨(xt4 175 rfl rfl), List.forall_mem_cons.mpr ⟨(xt4 177 rfl rfl), List.forall_mem_cons.mpr ⟨(xt4 179 rfl rfl), List.forall_mem_cons.mpr ⟨(xt4 181 rfl rfl), List.forall_mem_cons.mpr ⟨(xt4 183 rfl rfl), List.forall_mem_cons.mpr ⟨(xt4 185 rfl rfl), List.forall_mem_cons.mpr ⟨(xt4 187 rfl rfl), List.forall_mem_cons.mpr ⟨(xt4 189 rfl rfl), List.forall_mem_cons.mpr ⟨(xt4 191 rfl rfl), List.forall_mem_cons.mpr ⟨(xt4 193 rfl rfl), List.forall_mem_cons.mpr ⟨(xt4 195 rfl rfl), List.forall_mem_cons.mpr ⟨(xt4 197 rfl rfl), List.forall_mem_cons.mpr ⟨(xt4 199 rfl rfl), List.forall_mem_cons.mpr ⟨(xt4 201 rfl rfl), List.forall_mem_cons.mpr ⟨(xt4 203 rfl rfl), List.forall_mem_cons.mpr ⟨(xt4 205 rfl rfl), List.forall_mem_cons.mpr ⟨(xt4 207 rfl rfl), List.forall_mem_cons.mpr ⟨(xt4 209 rfl rfl), List.forall_mem_cons.mpr ⟨(xt4 211 rfl rfl), List.forall_mem_cons.mpr ⟨(xt4 213 rfl rfl), fun _ h => nomatch h⟩⟩⟩⟩⟩⟩⟩⟩⟩⟩⟩⟩⟩⟩⟩⟩⟩⟩⟩⟩⟩⟩⟩⟩⟩⟩⟩⟩⟩⟩⟩⟩⟩⟩⟩⟩⟩⟩⟩⟩⟩
end
section
/-- how many parameters the methods have -/
def xAt_0 : List Nat := [0, 3, 1, 1, 0, 2, 1, 3, 1, 1, 3, 5, 5, 3, 0, 2]
theorem xAt_ok_0 : (xMt_0.zip xAt_0).all (fun q => decide ((parseMethodDescriptor q.1.2.1.desc).map (fun d => d.parameters.length) = some q.2)) = true := by decide +kernel
def xAt_1 : List Nat := [1, 0, 0, 1, 2, 3, 5, 2, 1, 2, 3, 3, 0, 2, 1, 1]
theorem xAt_ok_1 : (xMt_1.zip xAt_1).all (fun q => decide ((parseMethodDescriptor q.1.2.1.desc).map (fun d => d.parameters.length) = some q.2)) = true := by decide +kernel
def xAt_2 : List Nat := [1, 0, 0, 1, 4, 1, 1, 1, 2, 2, 3, 0, 0, 0, 0, 0]
theorem xAt_ok_2 : (xMt_2.zip xAt_2).all (fun q => decide ((parseMethodDescriptor q.1.2.1.desc).map (fun d => d.parameters.length) = some q.2)) = true := by decide +kernel
def xAt_3 : List Nat := [1, 0, 1, 2, 0, 1, 2, 0, 0, 2, 2, 2, 0, 1, 0, 1]
theorem xAt_ok_3 : (xMt_3.zip xAt_3).all (fun q => decide ((parseMethodDescriptor q.1.2.1.desc).map (fun d => d.parameters.length) = some q.2)) = true := by decide +kernel
def xAt_4 : List Nat := [1, 1, 1, 2, 1, 0, 0, 1, 1, 1, 0, 0, 4, 2, 3, 1]
theorem xAt_ok_4 : (xMt_4.zip xAt_4).all (fun q => decide ((parseMethodDescriptor q.1.2.1.desc).map (fun d => d.parameters.length) = some q.2)) = true := by decide +kernel
def xAt_5 : List Nat := [2, 2, 1, 5, 2, 3, 2, 2, 3, 2, 2, 2, 1, 1, 2, 2]
theorem xAt_ok_5 : (xMt_5.zip xAt_5).all (fun q => decide ((parseMethodDescriptor q.1.2.1.desc).map (fun d => d.parameters.length) = some q.2)) = true := by decide +kernel
def xAt_6 : List Nat := [1, 1, 2, 1, 2, 1, 1, 0, 0, 4, 2, 2, 3, 3, 2, 1]
theorem xAt_ok_6 : (xMt_6.zip xAt_6).all (fun q => decide ((parseMethodDescriptor q.1.2.1.desc).map (fun d => d.parameters.length) = some q.2)) = true := by decide +kernel
def xAt_7 : List Nat := [2, 2, 2, 3, 4, 1, 2, 1, 3, 5, 3, 2, 3, 4, 1, 2]
theorem xAt_ok_7 : (xMt_7.zip xAt_7).all (fun q => decide ((parseMethodDescriptor q.1.2.1.desc).map (fun d => d.parameters.length) = some q.2)) = true := by decide +kernel
def xAt_8 : List Nat := [1, 3, 1, 1, 2, 2, 3, 1, 1, 2, 2, 1, 5, 2, 3, 2]
theorem xAt_ok_8 : (xMt_8.zip xAt_8).all (fun q => decide ((parseMethodDescriptor q.1.2.1.desc).map (fun d => d.parameters.length) = some q.2)) = true := by decide +kernel
def xAt_9 : List Nat := [2, 3, 2, 2, 2]
theorem xAt_ok_9 : (xMt_9.zip xAt_9).all (fun q => decide ((parseMethodDescriptor q.1.2.1.desc).map (fun d => d.parameters.length) = some q.2)) = true := by decide +kernel
def xAt : List Nat := xAt_0 ++ xAt_1 ++ xAt_2 ++ xAt_3 ++ xAt_4 ++ xAt_5 ++ xAt_6 ++ xAt_7 ++ xAt_8 ++ xAt_9
theorem xarI : Cond.arrayClass .int ∈ xT := (xt1 56 rfl rfl)
theorem xarZ : Cond.arrayClass .boolean ∈ xT := (xt1 84 rfl rfl)
end
section
def xPK (q : (Nat × Nat) × Nat) : Prop := Cond.classLink (xR q.1.1) q.1.2 (xR q.2) ∈ xT ∧ Cond.instantiable (xR q.2) (xV q.2).2.2 ∈ xT ∧ Cond.initialized (xR q.2) ∈ xT ∧ vwCl[q.2]? = some (xV q.2)
theorem xk_0 : xPK ((9, 9), 5) := ⟨(xt1 28 rfl rfl), (xt1 29 rfl rfl), (xt1 2 rfl rfl), rfl⟩
theorem xk_1 : xPK ((9, 16), 1) := ⟨(xt1 57 rfl rfl), (xt1 58 rfl rfl), (xt1 3 rfl rfl), rfl⟩
theorem xk_2 : xPK ((1, 9), 3) := ⟨(xt1 63 rfl rfl), (xt1 67 rfl rfl), (xt1 4 rfl rfl), rfl⟩
theorem xk_3 : xPK ((9, 23), 0) := ⟨(xt1 98 rfl rfl), (xt1 99 rfl rfl), (xt1 5 rfl rfl), rfl⟩
theorem xk_4 : xPK ((9, 30), 6) := ⟨(xt1 117 rfl rfl), (xt1 119 rfl rfl), (xt1 6 rfl rfl), rfl⟩
theorem xk_5 : xPK ((6, 9), 4) := ⟨(xt1 124 rfl rfl), (xt1 125 rfl rfl), (xt1 7 rfl rfl), rfl⟩
theorem xk_6 : xPK ((6, 18), 8) := ⟨(xt1 137 rfl rfl), (xt1 138 rfl rfl), (xt1 8 rfl rfl), rfl⟩
theorem xk_7 : xPK ((6, 25), 2) := ⟨(xt1 161 rfl rfl), (xt1 162 rfl rfl), (xt1 9 rfl rfl), rfl⟩
theorem xk_8 : xPK ((6, 48), 7) := ⟨(xt1 176 rfl rfl), (xt1 177 rfl rfl), (xt1 10 rfl rfl), rfl⟩
set_option maxRecDepth 100000 in
theorem xKt_ok : ∀ q ∈ xKt, xPK q := List.forall_mem_cons.mpr ⟨xk_0, List.forall_mem_cons.mpr ⟨xk_1, List.forall_mem_cons.mpr ⟨xk_2, List.forall_mem_cons.mpr ⟨xk_3, List.forall_mem_cons.mpr ⟨xk_4, List.forall_mem_cons.mpr ⟨xk_5, List.forall_mem_cons.mpr ⟨xk_6, List.forall_mem_cons.mpr ⟨xk_7, List.forall_mem_cons.mpr ⟨xk_8, fun _ h => nomatch h⟩⟩⟩⟩⟩⟩⟩⟩⟩
/-- the one new int[n][k] -/
def xMN (o j : Nat) : Bool := decide (o = 1 ∧ j = 21)
theorem xMN_ok {o j : Nat} (h : xMN o j = true) : Cond.classLink (xR o) j "[[I" ∈ xT := by obtain ⟨rfl, rfl⟩ := of_decide_eq_true h; exact (xt1 65 rfl rfl)
/-- arrays of references: words of their own -/
def xO : List Cond := [.arrayOver (.object RX3), .arrayOver (.object RX6), .arrayOver (.array .int)]
theorem xO_in : ∀ w ∈ xO, w ∈ lw_tbl := List.forall_mem_cons.mpr ⟨xl1 (List.mem_of_getElem? (i := 64) rfl), List.forall_mem_cons.mpr ⟨xl1 (List.mem_of_getElem? (i := 118) rfl), List.forall_mem_cons.mpr ⟨xl1 (List.mem_of_getElem? (i := 66) rfl), fun _ h => nomatch h⟩⟩⟩
def xNx : List Cond := xN ++ xO
theorem xNl {w : Cond} (h : w ∈ xN) : w ∈ xNx := List.mem_append_left _ h
end
section
/-! the abstract machine: cells by their numbers; objects (class, fields), arrays (kind of element, length, contents) -/
abbrev XE : Type := (Nat × List Value) ⊕ (Nat × Nat × ((Nat → Int32) ⊕ (Nat → Option Nat)))
abbrev XS : Type := Nat × Nat × (Nat → XE)
abbrev XL : Type := List (Option Value)
abbrev XO : Type := Option (Option Value × XS)
def xjmp {α : Type} (pc : Nat) (off : Int) (k : Nat → Option α) : Option α := if 0 ≤ (pc : Int) + off then k ((pc : Int) + off).toNat else none
def xty (t : Nat) : FieldType := match t with
  | 0 => .int
  | 1 => .boolean
  | 2 => .object RX3
  | 3 => .object RX6
  | _ => .array .int
def xfit (ty : FieldType) (v : Value) : Bool := match ty, v with
  | .int, .int _ => true
  | .boolean, .int x => decide (x = 0 ∨ x = 1)
  | .object _, .ref _ => true
  | .array _, .ref _ => true
  | _, _ => false
/-- an int or a reference -/
def xiv (v : Value) : Bool := match v with
  | .int _ => true
  | .ref _ => true
  | _ => false
/-- the type of a field -/
def xFty (c k : Nat) : FieldType := match c with
  | 0 => tyX0 k
  | 1 => tyX1 k
  | 2 => tyX2 k
  | 3 => tyX3 k
  | 4 => tyX4 k
  | 5 => tyX5 k
  | 6 => tyX6 k
  | 7 => tyX7 k
  | 8 => tyX8 k
  | 9 => tyX9 k
  | _ => tyX10 k
/-- a field may be written: not final, or in its own class's constructor -/
def xput (o : Nat) (ini : Bool) (c k : Nat) (nest : Bool) : Bool := if ((xV c).2.1 k).2.2.2 then ini && decide (o = c) && !nest else true
/-- what a new object holds -/
def xdef (c : Nat) : List Value := (List.range (xV c).2.2).map (fun k => defaultValue (xFty c k))
/-- the kind of an array of references to objects of a class -/
def xtag (c : Nat) : Option Nat := match c with
  | 3 => some 2
  | 6 => some 3
  | _ => none
/-- what an array of a kind may hold -/
def xels (t : Nat) (x : XE) : Bool := match t, x with
  | 2, .inl (c, _) => decide (c = 3)
  | 3, .inl (c, _) => decide (c = 6)
  | 4, .inr (0, _, _) => true
  | _, _ => false
def xst {α : Type} (o : Nat) (ini : Bool) (pc : Nat) (i : Instr) (lo : XL) (st : List Value) (σ : XS) (k : Nat → XL → List Value → XS → Option α) : Option α := match i with
  | .iload_n j => (match lo[j.val]? with | some (some (.int x)) => k (pc + 1) lo (.int x :: st) σ | _ => none)
  | .iload j => (match lo[j]? with | some (some (.int x)) => k (pc + 2) lo (.int x :: st) σ | _ => none)
  | .aload_n j => (match lo[j.val]? with | some (some (.ref x)) => k (pc + 1) lo (.ref x :: st) σ | _ => none)
  | .aload j => (match lo[j]? with | some (some (.ref x)) => k (pc + 2) lo (.ref x :: st) σ | _ => none)
  | .istore_n j => (match st with | .int x :: r => if j.val < lo.length then k (pc + 1) (lo.set j.val (some (.int x))) r σ else none | _ => none)
  | .istore j => (match st with | .int x :: r => if j < lo.length then k (pc + 2) (lo.set j (some (.int x))) r σ else none | _ => none)
  | .astore_n j => (match st with | .ref x :: r => if j.val < lo.length then k (pc + 1) (lo.set j.val (some (.ref x))) r σ else none | _ => none)
  | .astore j => (match st with | .ref x :: r => if j < lo.length then k (pc + 2) (lo.set j (some (.ref x))) r σ else none | _ => none)
  | .iconst n => k (pc + 1) lo (.int (Int32.ofInt n) :: st) σ
  | .bipush n => k (pc + 2) lo (.int (Int8.ofInt n).toInt32 :: st) σ
  | .sipush n => k (pc + 3) lo (.int (Int16.ofInt n).toInt32 :: st) σ
  | .iadd => (match st with | .int y :: .int x :: r => k (pc + 1) lo (.int (x + y) :: r) σ | _ => none)
  | .isub => (match st with | .int y :: .int x :: r => k (pc + 1) lo (.int (x - y) :: r) σ | _ => none)
  | .imul => (match st with | .int y :: .int x :: r => k (pc + 1) lo (.int (x * y) :: r) σ | _ => none)
  | .idiv => (match st with | .int y :: .int x :: r => if y = 0 then none else k (pc + 1) lo (.int (x / y) :: r) σ | _ => none)
  | .irem => (match st with | .int y :: .int x :: r => if y = 0 then none else k (pc + 1) lo (.int (x - x / y * y) :: r) σ | _ => none)
  | .iinc j n => (match lo[j]? with | some (some (.int x)) => k (pc + 3) (lo.set j (some (.int (x + Int32.ofInt n)))) st σ | _ => none)
  | .dup => (match st with | v :: r => k (pc + 1) lo (v :: v :: r) σ | _ => none)
  | .dup2 => (match st with | v :: w :: r => k (pc + 1) lo (v :: w :: v :: w :: r) σ | _ => none)
  | .pop => (match st with | _ :: r => k (pc + 1) lo r σ | _ => none)
  | .goto off => xjmp pc off (fun t => k t lo st σ)
  | .ifCond c off => (match st with
    | .int x :: r => (match c with
      | .eq => xjmp pc off (fun t => if x = 0 then k t lo r σ else k (pc + 3) lo r σ)
      | .ne => xjmp pc off (fun t => if x = 0 then k (pc + 3) lo r σ else k t lo r σ)
      | .lt => xjmp pc off (fun t => if x < 0 then k t lo r σ else k (pc + 3) lo r σ)
      | .ge => xjmp pc off (fun t => if x < 0 then k (pc + 3) lo r σ else k t lo r σ)
      | .gt => xjmp pc off (fun t => if 0 < x then k t lo r σ else k (pc + 3) lo r σ)
      | .le => xjmp pc off (fun t => if 0 < x then k (pc + 3) lo r σ else k t lo r σ))
    | _ => none)
  | .if_icmp c off => (match st with
    | .int y :: .int x :: r => (match c with
      | .eq => xjmp pc off (fun t => if x = y then k t lo r σ else k (pc + 3) lo r σ)
      | .ne => xjmp pc off (fun t => if x = y then k (pc + 3) lo r σ else k t lo r σ)
      | .lt => xjmp pc off (fun t => if x < y then k t lo r σ else k (pc + 3) lo r σ)
      | .ge => xjmp pc off (fun t => if x < y then k (pc + 3) lo r σ else k t lo r σ)
      | .gt => xjmp pc off (fun t => if y < x then k t lo r σ else k (pc + 3) lo r σ)
      | .le => xjmp pc off (fun t => if y < x then k (pc + 3) lo r σ else k t lo r σ))
    | _ => none)
  | .tableswitch d l h offs => (match st with
    | .int x :: r => if x.toInt < l ∨ h < x.toInt then xjmp pc d (fun t => k t lo r σ) else (match offs[(x.toInt - l).toNat]? with | some off => xjmp pc off (fun t => k t lo r σ) | none => none)
    | _ => none)
  | .getfield j => (match xF o j with
    | some (ci, kf, _) => (match st with
      | .ref a :: r => if a < σ.1 then (match σ.2.2 a with | .inl (c, fs) => if c = ci then (match fs[kf]? with | some v => if xiv v = true then k (pc + 3) lo (v :: r) σ else none | none => none) else none | _ => none) else none
      | _ => none)
    | none => none)
  | .putfield j => (match xF o j with
    | some (ci, kf, nest) => (match st with
      | v :: .ref a :: r => if a < σ.1 then (match σ.2.2 a with | .inl (c, fs) => if c = ci ∧ kf < fs.length ∧ xput o ini ci kf nest = true ∧ xfit (xFty ci kf) v = true then k (pc + 3) lo r (σ.1, σ.2.1, va_up σ.2.2 a (.inl (c, fs.set kf v))) else none | _ => none) else none
      | _ => none)
    | none => none)
  | .iaload => (match st with
    | .int i :: .ref a :: r => if a < σ.1 then (match σ.2.2 a with | .inr (0, n, .inl g) => if i < 0 ∨ n ≤ i.toNatClampNeg then none else k (pc + 1) lo (.int (g i.toNatClampNeg) :: r) σ | _ => none) else none
    | _ => none)
  | .baload => (match st with
    | .int i :: .ref a :: r => if a < σ.1 then (match σ.2.2 a with | .inr (1, n, .inl g) => if i < 0 ∨ n ≤ i.toNatClampNeg then none else k (pc + 1) lo (.int (g i.toNatClampNeg) :: r) σ | _ => none) else none
    | _ => none)
  | .aaload => (match st with
    | .int i :: .ref a :: r => if a < σ.1 then (match σ.2.2 a with | .inr (t, n, .inr g) => if t < 2 ∨ i < 0 ∨ n ≤ i.toNatClampNeg then none else (match g i.toNatClampNeg with | some b => k (pc + 1) lo (.ref b :: r) σ | none => none) | _ => none) else none
    | _ => none)
  | .iastore => (match st with
    | .int x :: .int i :: .ref a :: r => if a < σ.1 then (match σ.2.2 a with | .inr (0, n, .inl g) => if i < 0 ∨ n ≤ i.toNatClampNeg then none else k (pc + 1) lo r (σ.1, σ.2.1, va_up σ.2.2 a (.inr (0, n, .inl (upd g i.toNatClampNeg x)))) | _ => none) else none
    | _ => none)
  | .bastore => (match st with
    | .int x :: .int i :: .ref a :: r => if a < σ.1 then (match σ.2.2 a with | .inr (1, n, .inl g) => if i < 0 ∨ n ≤ i.toNatClampNeg then none else k (pc + 1) lo r (σ.1, σ.2.1, va_up σ.2.2 a (.inr (1, n, .inl (upd g i.toNatClampNeg (vp_nar .boolean x))))) | _ => none) else none
    | _ => none)
  | .arraylength => (match st with
    | .ref a :: r => if a < σ.1 then (match σ.2.2 a with | .inr (_, n, _) => k (pc + 1) lo (.int (Int32.ofNat n) :: r) σ | _ => none) else none
    | _ => none)
  | .newarray t => (match st with
    | .int n :: r => if n < 0 ∨ 100000 < n.toNatClampNeg then none else (match t with
      | .int => k (pc + 2) lo (.ref σ.1 :: r) (σ.1 + 1, σ.2.1 + n.toNatClampNeg, va_up σ.2.2 σ.1 (.inr (0, n.toNatClampNeg, .inl (fun _ => 0))))
      | .boolean => k (pc + 2) lo (.ref σ.1 :: r) (σ.1 + 1, σ.2.1 + n.toNatClampNeg, va_up σ.2.2 σ.1 (.inr (1, n.toNatClampNeg, .inl (fun _ => 0))))
      | _ => none)
    | _ => none)
  | .new j => (match xK o j with
    | some ci => k (pc + 3) lo (.ref σ.1 :: st) (σ.1 + 1, σ.2.1 + (xV ci).2.2, va_up σ.2.2 σ.1 (.inl (ci, xdef ci)))
    | none => none)
  | .anewarray j => (match xK o j with
    | some ci => (match xtag ci with
      | some t => (match st with
        | .int n :: r => if n < 0 ∨ 100000 < n.toNatClampNeg then none else k (pc + 3) lo (.ref σ.1 :: r) (σ.1 + 1, σ.2.1 + n.toNatClampNeg, va_up σ.2.2 σ.1 (.inr (t, n.toNatClampNeg, .inr (fun _ => none))))
        | _ => none)
      | none => none)
    | none => none)
  | .aastore => (match st with
    | .ref v :: .int i :: .ref a :: r => if a < σ.1 ∧ v < σ.1 then (match σ.2.2 a with | .inr (t, n, .inr g) => if xels t (σ.2.2 v) = false ∨ i < 0 ∨ n ≤ i.toNatClampNeg then none else k (pc + 1) lo r (σ.1, σ.2.1, va_up σ.2.2 a (.inr (t, n, .inr (va_up g i.toNatClampNeg (some v))))) | _ => none) else none
    | _ => none)
  | .multianewarray j dm => if xMN o j = true ∧ dm = 2 then (match st with
    | .int kk :: .int n :: r => if kk < 0 ∨ n < 0 ∨ 10000 < n.toNatClampNeg ∨ 10000 < kk.toNatClampNeg then none else k (pc + 4) lo (.ref σ.1 :: r) (σ.1 + 1 + n.toNatClampNeg, σ.2.1 + n.toNatClampNeg + n.toNatClampNeg * kk.toNatClampNeg, fun q => if q < σ.1 then σ.2.2 q else if q = σ.1 then .inr (4, n.toNatClampNeg, .inr (fun i => if i < n.toNatClampNeg then some (σ.1 + 1 + i) else none)) else .inr (0, kk.toNatClampNeg, .inl (fun _ => 0)))
    | _ => none) else none
  | _ => none
/-- how many parameters a method has -/
def xA (u : Nat) : Nat := xAt.getD u 0
def xini (u : Nat) : Bool := decide ((xM u).2.1.name = "<init>")
def xinv {α : Type} (call : Nat → List Value → XS → XO) (o j vk : Nat) (st : List Value) (σ : XS) (k : List Value → XS → Option α) : Option α := match xC o j with
  | some (kd, u') =>
    if kd = 0 ∧ vk = 0 then (match st.drop (xA u') with
      | .ref b :: rest => if (rest.map Value.category).sum ≤ 8 ∧ b < σ.1 then (match σ.2.2 b with
        | .inl (c, _) => if c = (xM u').1 then (match call u' (.ref b :: (st.take (xA u')).reverse) σ with | some (rv, σ') => k (rv.toList ++ rest) σ' | none => none) else none
        | _ => none) else none
      | _ => none)
    else if (kd = 1 ∨ kd = 2) ∧ vk = 1 then (if (st.take (xA u')).length = xA u' ∧ ((st.drop (xA u')).map Value.category).sum ≤ 8 then (match call u' (st.take (xA u')).reverse σ with | some (rv, σ') => k (rv.toList ++ st.drop (xA u')) σ' | none => none) else none)
    else if kd = 7 ∧ vk = 1 then (match st with | .int y :: .int x :: r => if (r.map Value.category).sum ≤ 8 then k (.int (if x < y then y else x) :: r) σ else none | _ => none)
    else if kd = 8 ∧ vk = 1 then (match st with | .int y :: .int x :: r => if (r.map Value.category).sum ≤ 8 then k (.int (if y < x then y else x) :: r) σ else none | _ => none)
    else if kd = 6 ∧ vk = 2 then (match st with | .ref _ :: r => if (r.map Value.category).sum ≤ 8 then k r σ else none | _ => none)
    else if (kd = 4 ∨ kd = 5) ∧ vk = 2 ∧ xini u' = true ∧ (xM u').2.2.2.2 = none then (match st.drop (xA u') with
      | .ref b :: rest => if (rest.map Value.category).sum ≤ 8 then (match call u' (.ref b :: (st.take (xA u')).reverse) σ with | some (rv, σ') => k (rv.toList ++ rest) σ' | none => none) else none
      | _ => none)
    else if kd = 9 ∧ vk = 1 then (match st with
      | .int n :: .int dp :: .ref a1 :: .int sp :: .ref a0 :: r => if (r.map Value.category).sum ≤ 8 ∧ a0 < σ.1 ∧ a1 < σ.1 then (match σ.2.2 a0, σ.2.2 a1 with
        | .inr (0, n0, .inl g0), .inr (0, n1, .inl g1) => if n < 0 ∨ dp < 0 ∨ sp < 0 ∨ n0 < sp.toNatClampNeg + n.toNatClampNeg ∨ n1 < dp.toNatClampNeg + n.toNatClampNeg then none else k r (σ.1, σ.2.1, va_up σ.2.2 a1 (.inr (0, n1, .inl (va_cpy g0 g1 sp.toNatClampNeg dp.toNatClampNeg n.toNatClampNeg))))
        | _, _ => none) else none
      | _ => none)
    else none
  | none => none
def xgo (call : Nat → List Value → XS → XO) (u : Nat) : Nat → Nat → XL → List Value → XS → XO
  | 0, _, _, _, _ => none
  | n + 1, pc, lo, st, σ => match xIn u pc with
    | none => none
    | some (i, _) => match i with
      | .ireturn => (match st with
        | [.int x] => (match (xM u).2.2.2.2 with | some ty => if xfit ty (.int x) = true then some (some (.int x), σ) else none | none => none)
        | _ => none)
      | .areturn => (match st with
        | [.ref a] => (match (xM u).2.2.2.2 with | some ty => if xfit ty (.ref a) = true then some (some (.ref a), σ) else none | none => none)
        | _ => none)
      | .return_ => (match st with
        | [] => if (xM u).2.2.2.2 = none then some (none, σ) else none
        | _ => none)
      | .invokevirtual j => xinv call (xM u).1 j 0 st σ (fun st' σ' => xgo call u n (pc + 3) lo st' σ')
      | .invokestatic j => xinv call (xM u).1 j 1 st σ (fun st' σ' => xgo call u n (pc + 3) lo st' σ')
      | .invokespecial j => xinv call (xM u).1 j 2 st σ (fun st' σ' => xgo call u n (pc + 3) lo st' σ')
      | i => xst (xM u).1 (xini u) pc i lo st σ (fun pc' lo' st' σ' => xgo call u n pc' lo' st' σ')
def xcall (N : Nat) : Nat → Nat → List Value → XS → XO
  | 0, _, _, _ => none
  | d + 1, u, vs, σ => if vs.length ≤ (xM u).2.2.2.1 then xgo (xcall N d) u N 0 (vs.map some ++ List.replicate ((xM u).2.2.2.1 - vs.length) none) [] σ else none
/-- how long an instruction is -/
def xlenok (i : Instr) (n : Nat) : Bool := match i with
  | .iload_n _ | .aload_n _ | .istore_n _ | .astore_n _ | .iconst _ | .iadd | .isub | .imul | .idiv | .irem | .dup | .dup2 | .pop | .iaload | .baload | .aaload | .aastore | .iastore | .bastore | .arraylength | .ireturn | .areturn | .return_ => decide (n = 1)
  | .iload _ | .aload _ | .istore _ | .astore _ | .bipush _ | .newarray _ => decide (n = 2)
  | .sipush _ | .iinc _ _ | .goto _ | .ifCond _ _ | .if_icmp _ _ | .getfield _ | .putfield _ | .invokevirtual _ | .invokestatic _ | .invokespecial _ | .new _ | .anewarray _ => decide (n = 3)
  | .multianewarray _ _ => decide (n = 4)
  | _ => true
set_option maxRecDepth 100000 in
theorem xIt_len : xIt.all (fun q => q.all (fun r => xlenok r.2.1 r.2.2)) = true := by decide +kernel
end
section
/-! what the abstract machine's cells are in the heap -/
def xcv (ad : Nat → Nat) (v : Value) : Value := match v with
  | .ref a => .ref (ad a)
  | v => v
def xce (ad : Nat → Nat) (cA : ClassId) (x : XE) : va_E := match x with
  | .inl (ci, fs) => .inr (ci, fs.map (xcv ad))
  | .inr (_, n, .inl g) => .inl (cA, n, .inl g)
  | .inr (_, n, .inr g) => .inl (cA, n, .inr (.inr (.inr (.inr (fun i => (g i).map ad)))))
def xws (ad : Nat → Nat) (ca : Nat → ClassId) (f : Nat → XE) (n : Nat) : va_W := (List.range n).map (fun i => (ad i, xce ad (ca i) (f i)))
theorem xws_at {ad : Nat → Nat} {ca : Nat → ClassId} {f : Nat → XE} {n a : Nat} (h : a < n) : (xws ad ca f n)[a]? = some (ad a, xce ad (ca a) (f a)) := by simp [xws, h]
theorem xws_set {ad : Nat → Nat} {ca : Nat → ClassId} {f : Nat → XE} {n a : Nat} (x : XE) (h : a < n) : (xws ad ca f n).set a (ad a, xce ad (ca a) x) = xws ad ca (va_up f a x) n := by
  apply List.ext_getElem?
  intro i
  rw [List.getElem?_set]
  by_cases hi : a = i
  · subst hi
    rw [xws_at h]
    simp [xws, h, va_up]
  · rw [if_neg hi]
    by_cases hn : i < n
    · rw [xws_at hn, xws_at hn]
      simp [va_up, show ¬ i = a from fun q => hi q.symm]
    · simp [xws, hn]
/-- an int, or a reference to a cell -/
def xok (n : Nat) (v : Value) : Prop := match v with
  | .int _ => True
  | .ref a => a < n
  | _ => False
/-- no cell points out -/
def xclo (n : Nat) (f : Nat → XE) : Prop := ∀ i, i < n → (∀ ci fs, f i = .inl (ci, fs) → ∀ b, Value.ref b ∈ fs → b < n) ∧ (∀ t k g, f i = .inr (t, k, .inr g) → ∀ j b, g j = some b → b < n)
def xFix (p : Program) (s : State) (m : MethodId) (args : Array Value) (meth : Method) (c : Code) (u : Nat) : Prop :=
  p.tables.exec = Jvm.exec ∧ c.code = (xM u).2.2.1 ∧ c.maxLocals = (xM u).2.2.2.1 ∧ s.vm.findClass (xR (xM u).1) = some m.cls ∧ (∀ w ∈ xT, w.before args s = true) ∧ (∀ w ∈ xNx, w.before args s = true) ∧ (xini u = true → meth.name = "<init>")
def xKn (D : va_G) (ca : Nat → ClassId) (σ : XS) (U : State) : Prop := (∀ (c : Nat) (q : vw_C), vwCl[c]? = some q → u_Kn U q.1 q.2.1 q.2.2 (D.1 c) (D.2 c)) ∧ ∀ i, i < σ.1 → ∀ t n b, σ.2.2 i = .inr (t, n, b) → ArrOfT U (ca i) (xty t) ∧ va_RA U (ca i) (xty t)
def xSim (D : va_G) (A : Nat → Prop) (s : State) (H : Heap) (locs : List Loc) (ad : Nat → Nat) (ca : Nat → ClassId) (σ : XS) : Prop :=
  va_P D vwCl (xws ad ca σ.2.2 σ.1) H ∧ va_D A (xws ad ca σ.2.2 σ.1) ∧ va_S A s.heap H locs ∧ xKn D ca σ s ∧ xclo σ.1 σ.2.2
def xLoc (ls : Array Slot) (nL : Nat) (ad : Nat → Nat) (n : Nat) (lo : XL) : Prop := ls.size = nL ∧ lv_wf ls ∧ lo.length = nL ∧ ∀ (i : Nat) (v : Value), lo[i]? = some (some v) → ls[i]? = some (.val (xcv ad v)) ∧ xok n v
def xPt (D : va_G) (A : Nat → Prop) (s : State) (nL n0 s0 : Nat) (ad0 : Nat → Nat) (ca0 : Nat → ClassId) (H : Heap) (locs : List Loc) (ls : Array Slot) (ad : Nat → Nat) (ca : Nat → ClassId) (lo : XL) (st : List Value) (σ : XS) : Prop :=
  xSim D A s H locs ad ca σ ∧ xLoc ls nL ad σ.1 lo ∧ (∀ v ∈ st, xok σ.1 v) ∧ n0 ≤ σ.1 ∧ s0 ≤ σ.2.1 ∧ ∀ i, i < n0 → ad i = ad0 i ∧ ca i = ca0 i
theorem xok_cat {n : Nat} {v : Value} (h : xok n v) : v.category = 1 := by
  cases v <;> first | rfl | exact absurd h (by simp [xok])
theorem xcv_cat {ad : Nat → Nat} (v : Value) : (xcv ad v).category = v.category := by cases v <;> rfl
theorem xcls {ci : Nat} {q : vw_C} (h : vwCl[ci]? = some q) : (∀ w ∈ u_ws q.1 q.2.1 q.2.2, w ∈ xT) ∧ (∀ k, k < q.2.2 → parseFieldDescriptor (q.2.1 k).2.2.1 = some (xFty ci k)) ∧ (∀ a, a < q.2.2 → ∀ b, b < q.2.2 → a ≠ b → (q.2.1 a).2.1 ≠ (q.2.1 b).2.1) := by
  match ci, h with
  | 0, h => cases h; exact ⟨xu_0, tyX0_ok, nmX0⟩
  | 1, h => cases h; exact ⟨xu_1, tyX1_ok, nmX1⟩
  | 2, h => cases h; exact ⟨xu_2, tyX2_ok, nmX2⟩
  | 3, h => cases h; exact ⟨xu_3, tyX3_ok, nmX3⟩
  | 4, h => cases h; exact ⟨xu_4, tyX4_ok, nmX4⟩
  | 5, h => cases h; exact ⟨xu_5, tyX5_ok, nmX5⟩
  | 6, h => cases h; exact ⟨xu_6, tyX6_ok, nmX6⟩
  | 7, h => cases h; exact ⟨xu_7, tyX7_ok, nmX7⟩
  | 8, h => cases h; exact ⟨xu_8, tyX8_ok, nmX8⟩
  | 9, h => cases h; exact ⟨xu_9, tyX9_ok, nmX9⟩
  | 10, h => cases h; exact ⟨xu_10, tyX10_ok, nmX10⟩
  | k + 11, h => simp [vwCl] at h
theorem xfit_ok {ty : FieldType} {v : Value} (ad : Nat → Nat) (h : xfit ty v = true) : narrow ty (xcv ad v) = xcv ad v ∧ fits ty (xcv ad v) = true := by
  unfold xfit at h
  split at h
  · exact ⟨rfl, rfl⟩
  · rename_i x
    rcases of_decide_eq_true h with rfl | rfl
    · exact ⟨rfl, rfl⟩
    · exact ⟨rfl, rfl⟩
  · exact ⟨rfl, rfl⟩
  · exact ⟨rfl, rfl⟩
  · cases h
theorem xF_ok {o j : Nat} {q : Nat × Nat × Bool} (h : xF o j = some q) : xPF ((o, j), q) := by
  have h1 : ((o, j), q) ∈ xFt := by
    unfold xF at h
    generalize xFt = l at h ⊢
    induction l with
    | nil => cases h
    | cons x l ih =>
      rw [List.lookup_cons] at h
      split at h
      · rename_i hb
        cases h
        have : (o, j) = x.1 := by simpa using hb
        rw [this]
        exact List.mem_cons_self
      · exact List.mem_cons_of_mem _ (ih h)
  exact xFt_ok _ h1
theorem xK_ok {o j ci : Nat} (h : xK o j = some ci) : xPK ((o, j), ci) := by
  have h1 : ((o, j), ci) ∈ xKt := by
    unfold xK at h
    generalize xKt = l at h ⊢
    induction l with
    | nil => cases h
    | cons x l ih =>
      rw [List.lookup_cons] at h
      split at h
      · rename_i hb
        cases h
        have : (o, j) = x.1 := by simpa using hb
        rw [this]
        exact List.mem_cons_self
      · exact List.mem_cons_of_mem _ (ih h)
  exact xKt_ok _ h1
end
section
/-! new T[n][m]: begun from the printed names' own rows (vr_, va_mna) -/
def va_AOA (t : FieldType) (U : State) : Prop := (Cond.arrayOver (.array t)).before #[] U = true
theorem va_AOA.use {t : FieldType} {A : Array Value} {U : State} (h : va_AOA t U) : (Cond.arrayOver (.array t)).before A U = true := h
/-- f, but v at every address of l -/
def vr_up {α : Type} (f : Nat → α) (l : List Nat) (v : α) : Nat → α := fun a => if a ∈ l then v else f a
theorem vr_up_in {α : Type} {f : Nat → α} {l : List Nat} {v : α} {a : Nat} (h : a ∈ l) : vr_up f l v a = v := if_pos h
theorem vr_up_ne {α : Type} {f : Nat → α} {l : List Nat} {v : α} {a : Nat} (h : a ∉ l) : vr_up f l v a = f a := if_neg h
theorem vr_rows {L l : List Nat} {f : Nat → va_E} {e : va_E} (h : ∀ a, a ∈ l → a ∉ L) : va_pl L f ++ l.map (fun a => (a, e)) = va_pl (L ++ l) (vr_up f l e) := by
  unfold va_pl
  rw [List.map_append]
  congr 1
  · apply List.map_congr_left
    intro a ha
    rw [vr_up_ne (fun q => h a q ha)]
  · apply List.map_congr_left
    intro a ha
    rw [vr_up_in ha]
theorem vr_lay {X rows : va_W} {x : Nat × va_E} {pl : va_W} {D : va_G} {cl : List vw_C} {H : Heap} (hP : va_P D cl (((X ++ pl) ++ [x]) ++ rows) H) : va_P D cl ((X ++ [x]) ++ (pl ++ rows)) H := by
  rw [List.append_assoc (X ++ pl)] at hP
  have h := va_P.swap hP
  rw [← List.append_assoc X] at h
  have h2 := va_P.swap h
  rw [List.append_assoc (X ++ [x])] at h2
  exact h2
theorem vr_layD {X rows : va_W} {x : Nat × va_E} {pl : va_W} {A : Nat → Prop} (hD : va_D A (((X ++ pl) ++ [x]) ++ rows)) : va_D A ((X ++ [x]) ++ (pl ++ rows)) := by
  rw [List.append_assoc (X ++ pl)] at hD
  have h := va_D.swap hD
  rw [← List.append_assoc X] at h
  have h2 := va_D.swap h
  rw [List.append_assoc (X ++ [x])] at h2
  exact h2
theorem vr_outer (c : ClassId) (N h0 : Nat) : ∀ i : Nat, Jvm.Free.Multi.outerC c N h0 i = arrV c N (fun j => va_rf (if j < i then some (h0 + 1 + j) else none))
  | 0 => by
    show ({ cls := c, slots := Array.replicate N .null, vm := .none } : Cell) = _
    rw [arrV_new]
    refine congrArg (arrV c N) (funext fun j => ?_)
    simp [va_rf]
  | i + 1 => by
    show (Jvm.Free.Multi.outerC c N h0 i).setSlot i (.ref (h0 + 1 + i)) = _
    rw [vr_outer c N h0 i, arrV_store]
    refine congrArg (arrV c N) (funext fun j => ?_)
    by_cases e : j = i
    · subst e
      simp [updV, va_rf]
    · by_cases h : j < i
      · simp [updV, e, h, Nat.lt_succ_of_lt h]
      · simp [updV, e, h, show ¬ j < i + 1 by omega]
section VGM
variable {p : Program} {l : Launch} {e : Env} {R : Room} {s : State} {m : MethodId} {args : Array Value} {below : List Frame} {meth : Method} {c : Code} {H : Heap} {locs : List Loc} {cells slots : Nat} {Q : State → Prop}
variable {cc : ByteArray} {pc : Nat} {ls : Array Slot} {rest : List Value} {D : va_G} {cl : List vw_C} {A : Nat → Prop} {a : Nat} {tys : List (ClassId × FieldType)} {ws : va_W} {H0 : Heap}
theorem va_mna {X : va_W} {L : List Nat} {f : Nat → va_E} {cc : ByteArray} (hexec : p.tables.exec = Jvm.exec) (hb : c.code = cc) {own : String} {index : Nat} {ty : FieldType} {cy : ClassId} (hown : s.vm.findClass own = some m.cls) (hclink : (Cond.classLink own index ("[" ++ (FieldType.array ty).toString)).before args s = true) (hover : va_AOA ty s) (harr : (Cond.arrayClass ty).before args s = true) (hcy : s.vm.findClass (FieldType.array ty).toString = some cy)
    (hK : va_K D cl tys s) (hP : va_P D cl (X ++ va_pl L f) H) (hD : va_D A (X ++ va_pl L f)) (hS : va_S A H0 H locs) (hA : ∀ q, H0.size ≤ q → A q) {n k : Int32} {N' K' : Nat} {z : vp_A} (hn : ¬ n < 0) (hk : ¬ k < 0) (hN : n.toNatClampNeg = N') (hM : k.toNatClampNeg = K')
    (hb1 : N' * 4 ≤ 536870912) (hb2 : K' * componentBytes ty ≤ 536870912) (hb3 : K' ≤ 536870912) (hdf : fits ty (defaultValue ty) = true) (hdd : (defaultValue ty).isDefault = true) (hcells : cells + (1 + N') ≤ R.cells) (hslots : slots + (N' + N' * K') ≤ R.slots) (hz : ∀ c : ClassId, Jvm.Free.Multi.innerC c K' (defaultValue ty) = vp_cell c z) (hdg : decode cc pc = .ok (.multianewarray index 2, 4))
    (kk : ∀ (q : Nat) (r : Nat → Nat) (cA : ClassId) (H1 : Heap), (∀ i j : Nat, i < N' → j < N' → r i = r j → i = j) → (∀ i : Nat, i < N' → r i ∉ L) → va_K D cl (tys ++ [(cA, .array ty)]) s →
      va_P D cl ((X ++ [(q, .inl (cA, N', .inr (.inr (.inr (.inr (fun i => if i < N' then some (r i) else none))))))]) ++ va_pl (L ++ (List.range N').map r) (vr_up f ((List.range N').map r) (.inl (cy, z)))) H1 → va_D A ((X ++ [(q, .inl (cA, N', .inr (.inr (.inr (.inr (fun i => if i < N' then some (r i) else none))))))]) ++ va_pl (L ++ (List.range N').map r) (vr_up f ((List.range N').map r) (.inl (cy, z)))) → va_S A H0 H1 locs →
      W p l e R s m args below meth c H1 locs (cells + 1 + N') (slots + N' + N' * K') Q (F0 m (pc + 4) ls (.ref q :: rest))) : W p l e R s m args below meth c H locs cells slots Q (F0 m pc ls (.int k :: .int n :: rest)) := by
  subst hN
  subst hM
  intro T hT Xs
  obtain ⟨vm₁, cA, comp, -, fA, fC, hO, -, X', step⟩ := Xs.multianewarray2F hexec hown hclink (va_AOA.use hover) harr (g := F0 m pc ls (.int k :: .int n :: rest)) rfl (by rw [hb]; exact hdg) rfl hn hk hb1 hb2 hb3 hdf hdd hcells hslots
  have ec : some cy = some comp := hcy.symm.trans fC
  cases ec
  generalize hF : Jvm.Free.Multi.fill (T.setVm vm₁) cA cy n.toNatClampNeg k.toNatClampNeg (defaultValue ty) n.toNatClampNeg = F at X' step
  have hTh : (T.setVm vm₁).heap = H := hT
  obtain ⟨f1, f2, -, -⟩ := Jvm.Free.Multi.fill_facts (T.setVm vm₁) cA cy n.toNatClampNeg k.toNatClampNeg (defaultValue ty) n.toNatClampNeg
  rw [hF, hTh] at f1 f2
  have hold : ∀ x : Nat, x < H.size → F.heap[x]? = H[x]? := fun x hx => by
    have := Jvm.Free.Multi.fill_old (T.setVm vm₁) cA cy n.toNatClampNeg k.toNatClampNeg (defaultValue ty) (a := x) (by rw [hTh]; exact hx) n.toNatClampNeg
    rw [hF, hTh] at this
    exact this
  have hrow : ∀ j : Nat, j < n.toNatClampNeg → F.heap[H.size + 1 + j]? = some (vp_cell cy z) := fun j hj => by
    have := Jvm.Free.Multi.fill_inner (T.setVm vm₁) cA cy n.toNatClampNeg k.toNatClampNeg (defaultValue ty) n.toNatClampNeg j hj
    rw [hF, hTh, hz] at this
    exact this
  have hout : Jvm.Free.Multi.outerC cA n.toNatClampNeg H.size n.toNatClampNeg = vp_cell cA (n.toNatClampNeg, .inr (.inr (.inr (.inr (fun i => if i < n.toNatClampNeg then some (H.size + 1 + i) else none))))) := by
    rw [vp_cell_q]
    exact vr_outer cA n.toNatClampNeg H.size n.toNatClampNeg
  rw [hout] at f2
  have hlt : ∀ a, a ∈ L → a < H.size := fun a ha => by
    obtain ⟨k9, hk9⟩ := va_pl_get (X := X) (f := f) ha
    exact (hP k9 _ hk9).lt
  have hnl : ∀ i : Nat, i < n.toNatClampNeg → H.size + 1 + i ∉ L := fun i _ h => by
    have := hlt _ h
    omega
  have hnm : ∀ a, a ∈ (List.range n.toNatClampNeg).map (fun i => H.size + 1 + i) → a ∉ L := fun a ha h => by
    obtain ⟨i, -, rfl⟩ := List.mem_map.mp ha
    have := hlt _ h
    omega
  have hP0 : va_P D cl (X ++ va_pl L f) F.heap := hP.kept (fun k9 x hx => hold x.1 ((hP k9 x hx).lt))
  have hP1 : va_P D cl ((X ++ va_pl L f) ++ [(H.size, .inl (cA, n.toNatClampNeg, .inr (.inr (.inr (.inr (fun i => if i < n.toNatClampNeg then some (H.size + 1 + i) else none))))))]) F.heap := hP0.app (fun k9 x hx => by
    have h0 : k9 < 1 := (List.getElem?_eq_some_iff.mp hx).1
    rw [show k9 = 0 by omega] at hx
    cases hx
    exact f2)
  have hP2 : va_P D cl (((X ++ va_pl L f) ++ [(H.size, .inl (cA, n.toNatClampNeg, .inr (.inr (.inr (.inr (fun i => if i < n.toNatClampNeg then some (H.size + 1 + i) else none))))))]) ++ ((List.range n.toNatClampNeg).map (fun i => H.size + 1 + i)).map (fun a => (a, .inl (cy, z)))) F.heap := hP1.app (fun k9 x hx => by
    obtain ⟨a, ha, rfl⟩ := List.mem_map.mp (List.mem_of_getElem? hx)
    obtain ⟨i, hi, rfl⟩ := List.mem_map.mp ha
    exact hrow i (List.mem_range.mp hi))
  have hD2 : va_D A (((X ++ va_pl L f) ++ [(H.size, .inl (cA, n.toNatClampNeg, .inr (.inr (.inr (.inr (fun i => if i < n.toNatClampNeg then some (H.size + 1 + i) else none))))))]) ++ ((List.range n.toNatClampNeg).map (fun i => H.size + 1 + i)).map (fun a => (a, .inl (cy, z)))) := by
    have hD1 := hD.push (e := .inl (cA, n.toNatClampNeg, .inr (.inr (.inr (.inr (fun i => if i < n.toNatClampNeg then some (H.size + 1 + i) else none)))))) hP rfl (hA _ hS.1)
    generalize hW1 : (X ++ va_pl L f) ++ [(H.size, .inl (cA, n.toNatClampNeg, .inr (.inr (.inr (.inr (fun i => if i < n.toNatClampNeg then some (H.size + 1 + i) else none))))))] = W1 at hD1 hP1 ⊢
    have hle : ∀ (k9 : Nat) (x : Nat × va_E), W1[k9]? = some x → x.1 ≤ H.size := fun k9 x hx => by
      rw [← hW1] at hx
      by_cases hl : k9 < (X ++ va_pl L f).length
      · rw [List.getElem?_append_left hl] at hx
        exact Nat.le_of_lt ((hP k9 x hx).lt)
      · rw [List.getElem?_append_right (by omega)] at hx
        have h0 : k9 - (X ++ va_pl L f).length < 1 := (List.getElem?_eq_some_iff.mp hx).1
        rw [show k9 - (X ++ va_pl L f).length = 0 by omega] at hx
        cases hx
        exact Nat.le_refl _
    have hr : ∀ (k9 : Nat) (x : Nat × va_E), (((List.range n.toNatClampNeg).map (fun i => H.size + 1 + i)).map (fun a => ((a, .inl (cy, z)) : Nat × va_E)))[k9]? = some x → x.1 = H.size + 1 + k9 := fun k9 x hx => by
      rw [List.getElem?_map, List.getElem?_map] at hx
      by_cases h9 : k9 < n.toNatClampNeg
      · rw [List.getElem?_range h9] at hx
        cases hx
        rfl
      · have hn0 : (List.range n.toNatClampNeg)[k9]? = none := List.getElem?_eq_none (by rw [List.length_range]; omega)
        rw [hn0] at hx
        cases hx
    refine ⟨fun i j x y hi hj hxy => ?_, fun k9 x hx => ?_⟩
    · by_cases h1 : i < W1.length <;> by_cases h2 : j < W1.length
      · rw [List.getElem?_append_left h1] at hi
        rw [List.getElem?_append_left h2] at hj
        exact hD1.1 i j x y hi hj hxy
      · rw [List.getElem?_append_left h1] at hi
        rw [List.getElem?_append_right (by omega)] at hj
        have := hle _ _ hi
        have := hr _ _ hj
        omega
      · rw [List.getElem?_append_right (by omega)] at hi
        rw [List.getElem?_append_left h2] at hj
        have := hle _ _ hj
        have := hr _ _ hi
        omega
      · rw [List.getElem?_append_right (by omega)] at hi hj
        have := hr _ _ hi
        have := hr _ _ hj
        omega
    · by_cases h1 : k9 < W1.length
      · rw [List.getElem?_append_left h1] at hx
        exact hD1.2 k9 x hx
      · rw [List.getElem?_append_right (by omega)] at hx
        have := hr _ _ hx
        exact hA _ (by have := hS.1; omega)
  have hAr : ArrOfT s cA (.array ty) := fun N9 z9 => by
    obtain ⟨-, k9, hk9, cm9, hkk9⟩ := (hO 0 0 0).1
    exact ⟨(fun q hq => by cases hq), k9, hk9, cm9, hkk9⟩
  have hK2 : va_K D cl (tys ++ [(cA, .array ty)]) s := ⟨hK.1, fun k9 x hx => by
    by_cases hl : k9 < tys.length
    · rw [List.getElem?_append_left hl] at hx
      exact hK.2 k9 x hx
    · rw [List.getElem?_append_right (by omega)] at hx
      have h0 : k9 - tys.length < 1 := (List.getElem?_eq_some_iff.mp hx).1
      rw [show k9 - tys.length = 0 by omega] at hx
      cases hx
      exact ⟨hAr, fA⟩⟩
  obtain ⟨t, a1, b1⟩ := kk H.size (fun i => H.size + 1 + i) cA F.heap (fun i j _ _ h => by have h9 : H.size + 1 + i = H.size + 1 + j := h; omega) hnl hK2 (by rw [← vr_rows hnm]; exact vr_lay hP2) (by rw [← vr_rows hnm]; exact vr_layD hD2) ⟨by rw [f1]; have := hS.1; omega, fun x h1 h2 => (hold x (Nat.lt_of_lt_of_le h1 hS.1)).trans (hS.2.1 x h1 h2), hS.2.2⟩ F rfl X'
  refine ⟨t, step t ?_, b1⟩
  have e : T.heap.size = H.size := by rw [hT]
  rw [e]
  exact a1
end VGM
end
section
/-! one instruction of the abstract machine is one of the machine -/
section XST
variable {p : Program} {l : Launch} {e : Env} {R : Room} {s : State} {m : MethodId} {args : Array Value} {below : List Frame} {meth : Method} {c : Code} {Q : State → Prop} {D : va_G} {A : Nat → Prop} {u nL n0 s0 : Nat} {ad0 : Nat → Nat} {ca0 : Nat → ClassId} {H : Heap} {locs : List Loc} {ls : Array Slot} {ad : Nat → Nat} {ca : Nat → ClassId} {lo : XL} {st : List Value} {σ : XS}
theorem xPt.push {v : Value} (h : xPt D A s nL n0 s0 ad0 ca0 H locs ls ad ca lo st σ) (hv : xok σ.1 v) : xPt D A s nL n0 s0 ad0 ca0 H locs ls ad ca lo (v :: st) σ :=
  ⟨h.1, h.2.1, fun w hw => (List.mem_cons.mp hw).elim (fun e => e ▸ hv) (h.2.2.1 w), h.2.2.2⟩
theorem xPt.pop {v : Value} (h : xPt D A s nL n0 s0 ad0 ca0 H locs ls ad ca lo (v :: st) σ) : xPt D A s nL n0 s0 ad0 ca0 H locs ls ad ca lo st σ :=
  ⟨h.1, h.2.1, fun w hw => h.2.2.1 w (List.mem_cons_of_mem _ hw), h.2.2.2⟩
theorem xPt.top {v : Value} (h : xPt D A s nL n0 s0 ad0 ca0 H locs ls ad ca lo (v :: st) σ) : xok σ.1 v := h.2.2.1 v List.mem_cons_self
theorem xPt.loc {i : Nat} {v : Value} (h : xPt D A s nL n0 s0 ad0 ca0 H locs ls ad ca lo st σ) (hi : lo[i]? = some (some v)) : ls[i]? = some (.val (xcv ad v)) ∧ xok σ.1 v := h.2.1.2.2.2 i v hi
/-- the locals' list of the kit -/
def xlv (ad : Nat → Nat) (lo : XL) : List (Nat × Value) := (List.range lo.length).filterMap (fun i => match lo[i]? with | some (some v) => some (i, xcv ad v) | _ => none)
theorem xlv_mem {i : Nat} {v : Value} (h : lo[i]? = some (some v)) : (i, xcv ad v) ∈ xlv ad lo := by
  refine List.mem_filterMap.mpr ⟨i, List.mem_range.mpr ?_, by rw [h]⟩
  exact (List.getElem?_eq_some_iff.mp h).1
theorem xlv_has {n : Nat} (h : xLoc ls nL ad n lo) : lv_has ls nL (xlv ad lo) := by
  refine ⟨h.1, h.2.1, fun q hq => ?_⟩
  obtain ⟨i, -, hi⟩ := List.mem_filterMap.mp hq
  split at hi
  · rename_i v hv
    cases hi
    exact (h.2.2.2 i v hv).1
  · cases hi
theorem xloc_set {n i : Nat} {v : Value} (h : xLoc ls nL ad n lo) (hv : xok n v) (hi : i < lo.length) {ls' : Array Slot} (h' : lv_has ls' nL ((i, xcv ad v) :: (xlv ad lo).filter (fun q => !(q.1 == i) && !(q.1 + 1 == i && q.2.category == 2)))) : xLoc ls' nL ad n (lo.set i (some v)) := by
  refine ⟨h'.1, h'.2.1, by rw [List.length_set]; exact h.2.2.1, fun j w hj => ?_⟩
  rw [List.getElem?_set] at hj
  by_cases e : i = j
  · subst e
    rw [if_pos rfl, if_pos hi] at hj
    cases hj
    exact ⟨h'.2.2 (i, xcv ad v) List.mem_cons_self, hv⟩
  · rw [if_neg e] at hj
    obtain ⟨h1, h2⟩ := h.2.2.2 j w hj
    refine ⟨h'.2.2 (j, xcv ad w) (List.mem_cons_of_mem _ (List.mem_filter.mpr ⟨xlv_mem hj, ?_⟩)), h2⟩
    have hc : (xcv ad w).category = 1 := by rw [xcv_cat]; exact xok_cat h2
    simp [hc, show ¬ j = i from fun q => e q.symm]
theorem xPt.setL {ls' : Array Slot} {i : Nat} {v : Value} (h : xPt D A s nL n0 s0 ad0 ca0 H locs ls ad ca lo st σ) (hv : xok σ.1 v) (hi : i < lo.length) (h' : lv_has ls' nL ((i, xcv ad v) :: (xlv ad lo).filter (fun q => !(q.1 == i) && !(q.1 + 1 == i && q.2.category == 2)))) : xPt D A s nL n0 s0 ad0 ca0 H locs ls' ad ca (lo.set i (some v)) st σ :=
  ⟨h.1, xloc_set h.2.1 hv hi h', h.2.2⟩
/-- the arrays' words of one cell -/
theorem xPt.arr {a t k : Nat} {b : (Nat → Int32) ⊕ (Nat → Option Nat)} (h : xPt D A s nL n0 s0 ad0 ca0 H locs ls ad ca lo st σ) (ha : a < σ.1) (hf : σ.2.2 a = .inr (t, k, b)) : va_K D vwCl [(ca a, xty t)] s := by
  refine ⟨h.1.2.2.2.1.1, fun k q hq => ?_⟩
  match k, hq with
  | 0, hq => cases hq; exact h.1.2.2.2.1.2 a ha _ _ _ hf
  | k + 1, hq => simp at hq
theorem xPt.K (h : xPt D A s nL n0 s0 ad0 ca0 H locs ls ad ca lo st σ) : va_K D vwCl [] s := ⟨h.1.2.2.2.1.1, fun k q hq => by simp at hq⟩
/-- a cell is written -/
theorem xPt.write {a : Nat} {x : XE} {H1 : Heap} {locs1 : List Loc} {st' : List Value} (h : xPt D A s nL n0 s0 ad0 ca0 H locs ls ad ca lo st σ) (ha : a < σ.1) (hst : ∀ v ∈ st', xok σ.1 v)
    (hP : va_P D vwCl ((xws ad ca σ.2.2 σ.1).set a (ad a, xce ad (ca a) x)) H1) (hD : va_D A ((xws ad ca σ.2.2 σ.1).set a (ad a, xce ad (ca a) x))) (hS : va_S A s.heap H1 locs1)
    (hk : ∀ t n b, x = .inr (t, n, b) → ∃ n' b', σ.2.2 a = .inr (t, n', b'))
    (hc1 : ∀ ci fs, x = .inl (ci, fs) → ∀ b, Value.ref b ∈ fs → b < σ.1) (hc2 : ∀ t k g, x = .inr (t, k, .inr g) → ∀ j b, g j = some b → b < σ.1) :
    xPt D A s nL n0 s0 ad0 ca0 H1 locs1 ls ad ca lo st' (σ.1, σ.2.1, va_up σ.2.2 a x) := by
  rw [xws_set x ha] at hP hD
  refine ⟨⟨hP, hD, hS, ⟨h.1.2.2.2.1.1, fun i hi t n b hf => ?_⟩, fun i hi => ?_⟩, h.2.1, hst, h.2.2.2⟩
  · have hf : va_up σ.2.2 a x i = .inr (t, n, b) := hf
    by_cases e : i = a
    · subst e
      rw [va_up_self] at hf
      obtain ⟨n', b', h9⟩ := hk _ _ _ hf
      exact h.1.2.2.2.1.2 i hi _ _ _ h9
    · rw [va_up_ne _ _ e] at hf
      exact h.1.2.2.2.1.2 i hi _ _ _ hf
  · by_cases e : i = a
    · subst e
      show (∀ ci fs, va_up σ.2.2 i x i = _ → _) ∧ (∀ t k g, va_up σ.2.2 i x i = _ → _)
      rw [va_up_self]
      exact ⟨hc1, hc2⟩
    · show (∀ ci fs, va_up σ.2.2 a x i = _ → _) ∧ (∀ t k g, va_up σ.2.2 a x i = _ → _)
      rw [va_up_ne _ _ e]
      exact h.1.2.2.2.2 i hi
theorem xcv_ext {ad' : Nat → Nat} {n : Nat} {v : Value} (hv : xok n v) (h : ∀ i, i < n → ad' i = ad i) : xcv ad' v = xcv ad v := by
  cases v with
  | ref a => exact congrArg Value.ref (h a hv)
  | _ => rfl
theorem xmap_ext {ad' : Nat → Nat} {n : Nat} {r : List Value} (hv : ∀ v ∈ r, xok n v) (h : ∀ i, i < n → ad' i = ad i) : r.map (xcv ad') = r.map (xcv ad) := List.map_congr_left fun v hm => xcv_ext (hv v hm) h
theorem xce_ext {ad' : Nat → Nat} {n : Nat} {x : XE} {cA : ClassId} (h : ∀ i, i < n → ad' i = ad i) (h1 : ∀ ci fs, x = .inl (ci, fs) → ∀ b, Value.ref b ∈ fs → b < n) (h2 : ∀ t k g, x = .inr (t, k, .inr g) → ∀ j b, g j = some b → b < n) : xce ad' cA x = xce ad cA x := by
  match x with
  | .inl (ci, fs) =>
    show (Sum.inr (ci, fs.map (xcv ad')) : va_E) = .inr (ci, fs.map (xcv ad))
    rw [List.map_congr_left fun v hm => ?_]
    cases v with
    | ref a => exact congrArg Value.ref (h a (h1 _ _ rfl a hm))
    | _ => rfl
  | .inr (t, k, .inl g) => rfl
  | .inr (t, k, .inr g) =>
    show (Sum.inl (cA, k, .inr (.inr (.inr (.inr (fun i => (g i).map ad'))))) : va_E) = .inl (cA, k, .inr (.inr (.inr (.inr (fun i => (g i).map ad)))))
    have : (fun i => (g i).map ad') = (fun i => (g i).map ad) := by
      funext i
      cases hg : g i with
      | none => rfl
      | some b => exact congrArg some (h b (h2 _ _ _ rfl i b hg))
    rw [this]
theorem xws_push {ad' : Nat → Nat} {ca' : Nat → ClassId} {f f' : Nat → XE} {n : Nat} (hc : xclo n f) (h1 : ∀ i, i < n → ad' i = ad i) (h2 : ∀ i, i < n → ca' i = ca i) (h3 : ∀ i, i < n → f' i = f i) : xws ad' ca' f' (n + 1) = xws ad ca f n ++ [(ad' n, xce ad' (ca' n) (f' n))] := by
  unfold xws
  rw [List.range_succ, List.map_append]
  congr 1
  refine List.map_congr_left fun i hi => ?_
  have hi := List.mem_range.mp hi
  rw [h1 i hi, h2 i hi, h3 i hi, xce_ext h1 (hc i hi).1 (hc i hi).2]
theorem xloc_ext {ad' : Nat → Nat} {n n' : Nat} (h : xLoc ls nL ad n lo) (h1 : ∀ i, i < n → ad' i = ad i) (hn : n ≤ n') : xLoc ls nL ad' n' lo := by
  refine ⟨h.1, h.2.1, h.2.2.1, fun i v hi => ?_⟩
  obtain ⟨a, b⟩ := h.2.2.2 i v hi
  rw [xcv_ext b h1]
  refine ⟨a, ?_⟩
  cases v with
  | ref x => exact Nat.lt_of_lt_of_le b hn
  | int x => trivial
  | _ => exact b
theorem xok_le {n n' : Nat} {v : Value} (h : xok n v) (hn : n ≤ n') : xok n' v := by
  cases v with
  | ref x => exact Nat.lt_of_lt_of_le h hn
  | int x => trivial
  | _ => exact h
/-- a new cell -/
theorem xPt.alloc {q : Nat} {cA : ClassId} {x : XE} {dn : Nat} {H1 : Heap} {locs1 : List Loc} {st' : List Value} (h : xPt D A s nL n0 s0 ad0 ca0 H locs ls ad ca lo st σ) (hst : ∀ v ∈ st', xok σ.1 v)
    (hk : ∀ t n b, x = .inr (t, n, b) → ArrOfT s cA (xty t) ∧ va_RA s cA (xty t)) (hc1 : ∀ ci fs, x = .inl (ci, fs) → ∀ b, Value.ref b ∈ fs → b < σ.1) (hc2 : ∀ t k g, x = .inr (t, k, .inr g) → ∀ j b, g j = some b → b < σ.1)
    (hP : va_P D vwCl (xws ad ca σ.2.2 σ.1 ++ [(q, xce ad cA x)]) H1) (hD : va_D A (xws ad ca σ.2.2 σ.1 ++ [(q, xce ad cA x)])) (hS : va_S A s.heap H1 locs1) :
    xPt D A s nL n0 s0 ad0 ca0 H1 locs1 ls (va_up ad σ.1 q) (va_up ca σ.1 cA) lo (.ref σ.1 :: st') (σ.1 + 1, σ.2.1 + dn, va_up σ.2.2 σ.1 x) := by
  have e1 : ∀ i, i < σ.1 → va_up ad σ.1 q i = ad i := fun i hi => va_up_ne _ _ (Nat.ne_of_lt hi)
  have hpush : xws (va_up ad σ.1 q) (va_up ca σ.1 cA) (va_up σ.2.2 σ.1 x) (σ.1 + 1) = xws ad ca σ.2.2 σ.1 ++ [(q, xce ad cA x)] := by
    rw [xws_push (ad := ad) (ca := ca) (f := σ.2.2) h.1.2.2.2.2 e1 (fun i hi => va_up_ne _ _ (Nat.ne_of_lt hi)) (fun i hi => va_up_ne _ _ (Nat.ne_of_lt hi))]
    rw [va_up_self, va_up_self, va_up_self, xce_ext e1 hc1 hc2]
  refine ⟨⟨?_, ?_, hS, ⟨h.1.2.2.2.1.1, fun i hi t n b hf => ?_⟩, fun i hi => ?_⟩, xloc_ext h.2.1 e1 (Nat.le_succ _), fun v hv => ?_, Nat.le_succ_of_le h.2.2.2.1, Nat.le_trans h.2.2.2.2.1 (Nat.le_add_right _ _), fun i hi => ?_⟩
  · show va_P D vwCl (xws (va_up ad σ.1 q) (va_up ca σ.1 cA) (va_up σ.2.2 σ.1 x) (σ.1 + 1)) H1
    rw [hpush]; exact hP
  · show va_D A (xws (va_up ad σ.1 q) (va_up ca σ.1 cA) (va_up σ.2.2 σ.1 x) (σ.1 + 1))
    rw [hpush]; exact hD
  · have hf : va_up σ.2.2 σ.1 x i = .inr (t, n, b) := hf
    have hi : i < σ.1 + 1 := hi
    by_cases e : i = σ.1
    · subst e
      rw [va_up_self] at hf ⊢
      exact hk _ _ _ hf
    · rw [va_up_ne _ _ e] at hf ⊢
      exact h.1.2.2.2.1.2 i (by omega) _ _ _ hf
  · have hi : i < σ.1 + 1 := hi
    show (∀ ci fs, va_up σ.2.2 σ.1 x i = .inl (ci, fs) → ∀ b, Value.ref b ∈ fs → b < σ.1 + 1) ∧ (∀ t k g, va_up σ.2.2 σ.1 x i = .inr (t, k, .inr g) → ∀ j b, g j = some b → b < σ.1 + 1)
    by_cases e : i = σ.1
    · subst e
      rw [va_up_self]
      exact ⟨fun ci fs e b hb => Nat.lt_succ_of_lt (hc1 ci fs e b hb), fun t k g e j b hb => Nat.lt_succ_of_lt (hc2 t k g e j b hb)⟩
    · rw [va_up_ne _ _ e]
      have hh := h.1.2.2.2.2 i (by omega)
      exact ⟨fun ci fs e b hb => Nat.lt_succ_of_lt (hh.1 ci fs e b hb), fun t k g e j b hb => Nat.lt_succ_of_lt (hh.2 t k g e j b hb)⟩
  · show xok (σ.1 + 1) v
    rcases List.mem_cons.mp hv with rfl | hv
    · exact Nat.lt_succ_self _
    · exact xok_le (hst v hv) (Nat.le_succ _)
  · have := h.2.2.2.1
    rw [va_up_ne _ _ (by omega), va_up_ne _ _ (by omega)]
    exact h.2.2.2.2.2 i hi
theorem xty_ref {t : Nat} (h : 2 ≤ t) : (xty t).isReference = true := by
  match t, h with
  | 2, _ => rfl
  | 3, _ => rfl
  | k + 4, _ => rfl
theorem xcyI {args : Array Value} {s : State} (h : (Cond.arrayClass .int).before args s = true) : ∃ c : ClassId, ArrOfT s c .int ∧ va_RA s c .int := by
  obtain ⟨c, k, comp, h1, h2, h3⟩ := Cond.arrayClass_spec h
  exact ⟨c, fun N z => ⟨(fun q hq => by cases hq), k, h2, comp, h3⟩, h1⟩
/-- new int[n][k] -/
theorem xPt.grid {q : Nat} {r9 : Nat → Nat} {cA cy : ClassId} {N9 K9 : Nat} {H1 : Heap} {locs1 : List Loc} {st' : List Value} {f9 : Nat → va_E} (h : xPt D A s nL n0 s0 ad0 ca0 H locs ls ad ca lo st σ) (hst : ∀ v ∈ st', xok σ.1 v)
    (hkA : ArrOfT s cA (.array .int) ∧ va_RA s cA (.array .int)) (hkI : ArrOfT s cy .int ∧ va_RA s cy .int)
    (hP : va_P D vwCl ((xws ad ca σ.2.2 σ.1 ++ [(q, .inl (cA, N9, .inr (.inr (.inr (.inr (fun i => if i < N9 then some (r9 i) else none))))))]) ++ va_pl ([] ++ (List.range N9).map r9) (vr_up f9 ((List.range N9).map r9) (.inl (cy, K9, .inl (fun _ => 0))))) H1)
    (hD : va_D A ((xws ad ca σ.2.2 σ.1 ++ [(q, .inl (cA, N9, .inr (.inr (.inr (.inr (fun i => if i < N9 then some (r9 i) else none))))))]) ++ va_pl ([] ++ (List.range N9).map r9) (vr_up f9 ((List.range N9).map r9) (.inl (cy, K9, .inl (fun _ => 0)))))) (hS : va_S A s.heap H1 locs1) :
    xPt D A s nL n0 s0 ad0 ca0 H1 locs1 ls (fun i => if i < σ.1 then ad i else if i = σ.1 then q else r9 (i - (σ.1 + 1))) (fun i => if i < σ.1 then ca i else if i = σ.1 then cA else cy) lo (.ref σ.1 :: st')
      (σ.1 + 1 + N9, σ.2.1 + N9 + N9 * K9, fun q => if q < σ.1 then σ.2.2 q else if q = σ.1 then .inr (4, N9, .inr (fun i => if i < N9 then some (σ.1 + 1 + i) else none)) else .inr (0, K9, .inl (fun _ => 0))) := by
  generalize had : (fun i => if i < σ.1 then ad i else if i = σ.1 then q else r9 (i - (σ.1 + 1))) = ad'
  generalize hca : (fun i => if i < σ.1 then ca i else if i = σ.1 then cA else cy) = ca'
  generalize hf : (fun q => if q < σ.1 then σ.2.2 q else if q = σ.1 then (.inr (4, N9, .inr (fun i => if i < N9 then some (σ.1 + 1 + i) else none)) : XE) else .inr (0, K9, .inl (fun _ => 0))) = f'
  have a1 : ∀ i, i < σ.1 → ad' i = ad i := fun i hi => by rw [← had]; exact if_pos hi
  have a2 : ad' σ.1 = q := by rw [← had]; simp
  have a3 : ∀ i, ad' (σ.1 + 1 + i) = r9 i := fun i => by
    rw [← had]
    show (if σ.1 + 1 + i < σ.1 then _ else _) = _
    rw [if_neg (by omega), if_neg (by omega), show σ.1 + 1 + i - (σ.1 + 1) = i by omega]
  have c1 : ∀ i, i < σ.1 → ca' i = ca i := fun i hi => by rw [← hca]; exact if_pos hi
  have c2 : ca' σ.1 = cA := by rw [← hca]; simp
  have c3 : ∀ i, ca' (σ.1 + 1 + i) = cy := fun i => by
    rw [← hca]
    show (if σ.1 + 1 + i < σ.1 then _ else _) = _
    rw [if_neg (by omega), if_neg (by omega)]
  have f1 : ∀ i, i < σ.1 → f' i = σ.2.2 i := fun i hi => by rw [← hf]; exact if_pos hi
  have f2 : f' σ.1 = .inr (4, N9, .inr (fun i => if i < N9 then some (σ.1 + 1 + i) else none)) := by rw [← hf]; simp
  have f3 : ∀ i, σ.1 < i → f' i = .inr (0, K9, .inl (fun _ => 0)) := fun i hi => by
    rw [← hf]
    show (if i < σ.1 then _ else _) = _
    rw [if_neg (by omega), if_neg (by omega)]
  have key : xws ad' ca' f' (σ.1 + 1 + N9) = (xws ad ca σ.2.2 σ.1 ++ [(q, .inl (cA, N9, .inr (.inr (.inr (.inr (fun i => if i < N9 then some (r9 i) else none))))))]) ++ va_pl ([] ++ (List.range N9).map r9) (vr_up f9 ((List.range N9).map r9) (.inl (cy, K9, .inl (fun _ => 0)))) := by
    have e1 : xws ad' ca' f' (σ.1 + 1 + N9) = xws ad' ca' f' (σ.1 + 1) ++ (List.range N9).map (fun i => (r9 i, (.inl (cy, K9, .inl (fun _ => 0)) : va_E))) := by
      unfold xws
      rw [List.range_add, List.map_append, List.map_map]
      congr 1
      refine List.map_congr_left fun i _ => ?_
      show (ad' (σ.1 + 1 + i), xce ad' (ca' (σ.1 + 1 + i)) (f' (σ.1 + 1 + i))) = _
      rw [a3, c3, f3 _ (by omega)]
      rfl
    rw [e1, xws_push (ad := ad) (ca := ca) (f := σ.2.2) h.1.2.2.2.2 a1 c1 f1, a2, c2, f2, List.nil_append]
    congr 1
    · congr 3
      show (Sum.inl (cA, N9, .inr (.inr (.inr (.inr (fun i => (if i < N9 then some (σ.1 + 1 + i) else none : Option Nat).map ad'))))) : va_E) = _
      have : (fun i => (if i < N9 then some (σ.1 + 1 + i) else none : Option Nat).map ad') = fun i => if i < N9 then some (r9 i) else none := by
        funext i
        by_cases hi : i < N9
        · rw [if_pos hi, if_pos hi]
          exact congrArg some (a3 i)
        · rw [if_neg hi, if_neg hi]
          rfl
      rw [this]
    · unfold va_pl
      rw [List.map_map]
      refine List.map_congr_left fun i hi => ?_
      show _ = (r9 i, vr_up f9 ((List.range N9).map r9) _ (r9 i))
      rw [vr_up_in (List.mem_map.mpr ⟨i, hi, rfl⟩)]
  rw [← key] at hP hD
  refine ⟨⟨hP, hD, hS, ⟨h.1.2.2.2.1.1, fun i hi t n b hfi => ?_⟩, fun i hi => ?_⟩, xloc_ext h.2.1 a1 (by show σ.1 ≤ σ.1 + 1 + N9; omega), fun v hv => ?_, ?_, ?_, fun i hi => ?_⟩
  · have hi : i < σ.1 + 1 + N9 := hi
    have hfi : f' i = .inr (t, n, b) := hfi
    rcases Nat.lt_trichotomy i σ.1 with q1 | q1 | q1
    · rw [f1 i q1] at hfi
      rw [c1 i q1]
      exact h.1.2.2.2.1.2 i q1 _ _ _ hfi
    · subst q1
      rw [f2] at hfi
      cases hfi
      rw [c2]
      exact hkA
    · rw [f3 i q1] at hfi
      cases hfi
      have := c3 (i - (σ.1 + 1))
      rw [show σ.1 + 1 + (i - (σ.1 + 1)) = i by omega] at this
      rw [this]
      exact hkI
  · have hi : i < σ.1 + 1 + N9 := hi
    show (∀ ci fs, f' i = .inl (ci, fs) → ∀ b, Value.ref b ∈ fs → b < σ.1 + 1 + N9) ∧ (∀ t k g, f' i = .inr (t, k, .inr g) → ∀ j b, g j = some b → b < σ.1 + 1 + N9)
    rcases Nat.lt_trichotomy i σ.1 with q1 | q1 | q1
    · rw [f1 i q1]
      have hh := h.1.2.2.2.2 i q1
      exact ⟨fun ci fs e b hb => Nat.lt_of_lt_of_le (hh.1 ci fs e b hb) (by omega), fun t k g e j b hb => Nat.lt_of_lt_of_le (hh.2 t k g e j b hb) (by omega)⟩
    · subst q1
      rw [f2]
      refine ⟨(fun ci fs e => nomatch e), fun t k g e j b hb => ?_⟩
      cases e
      dsimp only at hb
      split at hb
      · cases hb
        omega
      · cases hb
    · rw [f3 i q1]
      exact ⟨(fun ci fs e => nomatch e), fun t k g e => by cases e⟩
  · show xok (σ.1 + 1 + N9) v
    rcases List.mem_cons.mp hv with rfl | hv
    · show σ.1 < σ.1 + 1 + N9
      omega
    · exact xok_le (hst v hv) (by omega)
  · have := h.2.2.2.1
    show n0 ≤ σ.1 + 1 + N9
    omega
  · have := h.2.2.2.2.1
    show s0 ≤ σ.2.1 + N9 + N9 * K9
    generalize N9 * K9 = z
    omega
  · have := h.2.2.2.1
    rw [a1 i (by omega), c1 i (by omega)]
    exact h.2.2.2.2.2 i hi
theorem xdef_nr {c : Nat} (b : Nat) : ¬ Value.ref b ∈ xdef c := by
  intro h
  obtain ⟨k, -, hk⟩ := List.mem_map.mp h
  cases hty : xFty c k <;> rw [hty] at hk <;> cases hk
theorem xdef_map {c : Nat} : (xdef c).map (xcv ad) = xdef c := by
  conv => rhs; rw [← List.map_id (xdef c)]
  refine List.map_congr_left fun v hv => ?_
  cases v with
  | ref b => exact absurd hv (xdef_nr b)
  | _ => rfl
theorem xdef_at {c j : Nat} (h : j < (xV c).2.2) : defaultValue (xFty c j) = vp_V (xdef c) j := by
  unfold vp_V xdef
  rw [List.getD_eq_getElem?_getD, List.getElem?_map, List.getElem?_range h]
  rfl
theorem xtag_ok {c t : Nat} (h : xtag c = some t) : xty t = .object (xR c) ∧ Cond.arrayOver (.object (xR c)) ∈ xO := by
  unfold xtag at h
  split at h
  · cases h; exact ⟨rfl, List.mem_cons_self⟩
  · cases h; exact ⟨rfl, List.mem_cons_of_mem _ List.mem_cons_self⟩
  · cases h
theorem xup_map {g : Nat → Option Nat} {i v : Nat} : va_up (fun i => (g i).map ad) i (some (ad v)) = fun j => (va_up g i (some v) j).map ad := by
  funext j
  by_cases e : j = i
  · subst e
    rw [va_up_self, va_up_self]
    rfl
  · rw [va_up_ne _ _ e, va_up_ne _ _ e]
theorem xasg (vm : Vm) (c : ClassId) : vm.assignable c c = true := by
  unfold Vm.assignable Vm.assignableAux
  simp
theorem xjmp_ok {α : Type} {pc : Nat} {off : Int} {k : Nat → Option α} {r : α} (h : xjmp pc off k = some r) : (pc : Int) + off = (((pc : Int) + off).toNat : Int) ∧ k ((pc : Int) + off).toNat = some r := by
  unfold xjmp at h
  split at h
  · exact ⟨(Int.toNat_of_nonneg (by assumption)).symm, h⟩
  · cases h
theorem xcls0 {ci : Nat} {q : vw_C} (h : vwCl[ci]? = some q) : ∀ k, k < q.2.2 → (q.2.1 k).1 = xR ci := by
  match ci, h with
  | 0, h => cases h; decide
  | 1, h => cases h; decide
  | 2, h => cases h; decide
  | 3, h => cases h; decide
  | 4, h => cases h; decide
  | 5, h => cases h; decide
  | 6, h => cases h; decide
  | 7, h => cases h; decide
  | 8, h => cases h; decide
  | 9, h => cases h; decide
  | 10, h => cases h; decide +kernel
  | k + 11, h => simp [vwCl] at h
theorem ts_nt' {x : Bool} (h : ¬ x = true) : x = false := by cases x <;> simp_all
theorem xvp {i : Int32} {n : Nat} (h : ¬ (i < 0 ∨ n ≤ i.toNatClampNeg)) : vp_in i n := h
theorem xlt {a b : Int32} (h : ¬ a < b) : b ≤ a := by
  rw [Int32.le_iff_toInt_le]
  rw [Int32.lt_iff_toInt_lt] at h
  omega
theorem xle {a b : Int32} (h : ¬ b ≤ a) : a < b := by
  rw [Int32.le_iff_toInt_le] at h
  rw [Int32.lt_iff_toInt_lt]
  omega
theorem xnle {a b : Int32} (h : a < b) : ¬ b ≤ a := by
  rw [Int32.le_iff_toInt_le]
  rw [Int32.lt_iff_toInt_lt] at h
  omega
set_option maxHeartbeats 4000000 in
set_option maxRecDepth 100000 in
theorem xst_ok {α : Type} {pc len : Nat} {i : Instr} {k : Nat → XL → List Value → XS → Option α} {r : α} (F : xFix p s m args meth c u) (hA : ∀ q, s.heap.size ≤ q → A q) (hd : decode (xM u).2.2.1 pc = .ok (i, len)) (hl : xlenok i len = true)
    (h : xst (xM u).1 (xini u) pc i lo st σ k = some r) (hpt : xPt D A s nL n0 s0 ad0 ca0 H locs ls ad ca lo st σ)
    (hk : ∀ pc' lo' st' σ' H' locs' ls' ad' ca', k pc' lo' st' σ' = some r → xPt D A s nL n0 s0 ad0 ca0 H' locs' ls' ad' ca' lo' st' σ' → W p l e R s m args below meth c H' locs' (σ'.1 - n0) (σ'.2.1 - s0) Q (F0 m pc' ls' (st'.map (xcv ad'))))
    (hm : ∀ pc' lo' st' σ', k pc' lo' st' σ' = some r → σ'.1 - n0 ≤ R.cells ∧ σ'.2.1 - s0 ≤ R.slots) :
    W p l e R s m args below meth c H locs (σ.1 - n0) (σ.2.1 - s0) Q (F0 m pc ls (st.map (xcv ad))) := by
  obtain ⟨hx, hb, hml, hown, hts, htn, hini⟩ := F
  have hLL : lo.length = nL := hpt.2.1.2.2.1
  cases i
  case iload_n j =>
    cases of_decide_eq_true hl
    dsimp only [xst] at h
    split at h
    · rename_i x hj
      obtain ⟨h1, h2⟩ := hpt.loc hj
      exact lv_iload_n hx hb hd rfl h1 (hk _ _ _ _ _ _ _ _ _ h (hpt.push trivial))
    · cases h
  case iload j =>
    cases of_decide_eq_true hl
    dsimp only [xst] at h
    split at h
    · rename_i x hj
      obtain ⟨h1, h2⟩ := hpt.loc hj
      exact lv_iload hx hb hd h1 (hk _ _ _ _ _ _ _ _ _ h (hpt.push trivial))
    · cases h
  case aload_n j =>
    cases of_decide_eq_true hl
    dsimp only [xst] at h
    split at h
    · rename_i x hj
      obtain ⟨h1, h2⟩ := hpt.loc hj
      exact lv_aload_n hx hb hd rfl h1 (hk _ _ _ _ _ _ _ _ _ h (hpt.push h2))
    · cases h
  case aload j =>
    cases of_decide_eq_true hl
    dsimp only [xst] at h
    split at h
    · rename_i x hj
      obtain ⟨h1, h2⟩ := hpt.loc hj
      exact lv_aload hx hb hd h1 (hk _ _ _ _ _ _ _ _ _ h (hpt.push h2))
    · cases h
  case istore_n j =>
    cases of_decide_eq_true hl
    dsimp only [xst] at h
    split at h
    · rename_i x r'
      split at h
      · rename_i hj
        exact lv_istore_n hx hb hd rfl (xlv_has hpt.2.1) (hLL ▸ hj) rfl (fun ls' h' => hk _ _ _ _ _ _ _ _ _ h (hpt.pop.setL (v := .int x) hpt.top hj h'))
      · cases h
    · cases h
  case istore j =>
    cases of_decide_eq_true hl
    dsimp only [xst] at h
    split at h
    · rename_i x r'
      split at h
      · rename_i hj
        exact lv_istore hx hb hd (xlv_has hpt.2.1) (hLL ▸ hj) rfl (fun ls' h' => hk _ _ _ _ _ _ _ _ _ h (hpt.pop.setL (v := .int x) hpt.top hj h'))
      · cases h
    · cases h
  case astore_n j =>
    cases of_decide_eq_true hl
    dsimp only [xst] at h
    split at h
    · rename_i x r'
      split at h
      · rename_i hj
        exact lv_astore_n hx hb hd rfl (xlv_has hpt.2.1) (hLL ▸ hj) rfl (fun ls' h' => hk _ _ _ _ _ _ _ _ _ h (hpt.pop.setL (v := .ref x) hpt.top hj h'))
      · cases h
    · cases h
  case astore j =>
    cases of_decide_eq_true hl
    dsimp only [xst] at h
    split at h
    · rename_i x r'
      split at h
      · rename_i hj
        exact lv_astore hx hb hd (xlv_has hpt.2.1) (hLL ▸ hj) rfl (fun ls' h' => hk _ _ _ _ _ _ _ _ _ h (hpt.pop.setL (v := .ref x) hpt.top hj h'))
      · cases h
    · cases h
  case iconst n =>
    cases of_decide_eq_true hl
    exact lv_iconst hx hb hd rfl (hk _ _ _ _ _ _ _ _ _ h (hpt.push trivial))
  case bipush n =>
    cases of_decide_eq_true hl
    exact lv_bipush hx hb hd rfl (hk _ _ _ _ _ _ _ _ _ h (hpt.push trivial))
  case sipush n =>
    cases of_decide_eq_true hl
    exact lv_sipush hx hb hd rfl (hk _ _ _ _ _ _ _ _ _ h (hpt.push trivial))
  case iadd =>
    cases of_decide_eq_true hl
    dsimp only [xst] at h
    split at h
    · exact lv_iadd hx hb hd (hk _ _ _ _ _ _ _ _ _ h (hpt.pop.pop.push trivial))
    · cases h
  case isub =>
    cases of_decide_eq_true hl
    dsimp only [xst] at h
    split at h
    · exact lv_isub hx hb hd (hk _ _ _ _ _ _ _ _ _ h (hpt.pop.pop.push trivial))
    · cases h
  case imul =>
    cases of_decide_eq_true hl
    dsimp only [xst] at h
    split at h
    · exact lv_imul hx hb hd (hk _ _ _ _ _ _ _ _ _ h (hpt.pop.pop.push trivial))
    · cases h
  case idiv =>
    cases of_decide_eq_true hl
    dsimp only [xst] at h
    split at h
    · split at h
      · cases h
      · rename_i hne
        exact lv_idiv hx hb hd hne (hk _ _ _ _ _ _ _ _ _ h (hpt.pop.pop.push trivial))
    · cases h
  case irem =>
    cases of_decide_eq_true hl
    dsimp only [xst] at h
    split at h
    · split at h
      · cases h
      · rename_i hne
        exact lv_irem hx hb hd hne (hk _ _ _ _ _ _ _ _ _ h (hpt.pop.pop.push trivial))
    · cases h
  case iinc j n =>
    cases of_decide_eq_true hl
    dsimp only [xst] at h
    split at h
    · rename_i x hj
      have hjl : j < lo.length := (List.getElem?_eq_some_iff.mp hj).1
      obtain ⟨k9, hk9⟩ := List.mem_iff_getElem?.mp (xlv_mem (ad := ad) hj)
      exact lv_iinc hx hb hd (xlv_has hpt.2.1) hk9 rfl (hLL ▸ hjl) rfl (fun ls' h' => hk _ _ _ _ _ _ _ _ _ h (hpt.setL (v := .int (x + Int32.ofInt n)) trivial hjl h'))
    · cases h
  case dup =>
    cases of_decide_eq_true hl
    dsimp only [xst] at h
    split at h
    · rename_i v r'
      exact lv_dup hx hb hd (by rw [xcv_cat]; exact xok_cat hpt.top) (hk _ _ _ _ _ _ _ _ _ h (hpt.push hpt.top))
    · cases h
  case dup2 =>
    cases of_decide_eq_true hl
    dsimp only [xst] at h
    split at h
    · rename_i v w r'
      exact lv_dup2_11 hx hb hd (by rw [xcv_cat]; exact xok_cat hpt.top) (by rw [xcv_cat]; exact xok_cat hpt.pop.top) (hk _ _ _ _ _ _ _ _ _ h ((hpt.push hpt.pop.top).push hpt.top))
    · cases h
  case pop =>
    cases of_decide_eq_true hl
    dsimp only [xst] at h
    split at h
    · rename_i v r'
      exact lv_pop hx hb hd (by rw [xcv_cat]; exact xok_cat hpt.top) (hk _ _ _ _ _ _ _ _ _ h hpt.pop)
    · cases h
  case goto off =>
    cases of_decide_eq_true hl
    dsimp only [xst] at h
    obtain ⟨h1, h2⟩ := xjmp_ok h
    exact lv_goto hx hb hd h1 (hk _ _ _ _ _ _ _ _ _ h2 hpt)
  case ifCond cc off =>
    cases of_decide_eq_true hl
    dsimp only [xst] at h
    split at h
    · cases cc
      case eq =>
        obtain ⟨h1, h2⟩ := xjmp_ok h
        exact lv_if_eq hx hb hd h1 (fun hc => hk _ _ _ _ _ _ _ _ _ ((if_pos hc).symm.trans h2) hpt.pop) (fun hc => hk _ _ _ _ _ _ _ _ _ ((if_neg hc).symm.trans h2) hpt.pop)
      case ne =>
        obtain ⟨h1, h2⟩ := xjmp_ok h
        exact lv_if_ne hx hb hd h1 (fun hc => hk _ _ _ _ _ _ _ _ _ ((if_neg hc).symm.trans h2) hpt.pop) (fun hc => hk _ _ _ _ _ _ _ _ _ ((if_pos hc).symm.trans h2) hpt.pop)
      case lt =>
        obtain ⟨h1, h2⟩ := xjmp_ok h
        exact lv_if_lt hx hb hd h1 (fun hc => hk _ _ _ _ _ _ _ _ _ ((if_pos hc).symm.trans h2) hpt.pop) (fun hc => hk _ _ _ _ _ _ _ _ _ ((if_neg hc).symm.trans h2) hpt.pop)
      case ge =>
        obtain ⟨h1, h2⟩ := xjmp_ok h
        exact lv_if_ge hx hb hd h1 (fun hc => hk _ _ _ _ _ _ _ _ _ ((if_neg (fun q => xnle q hc)).symm.trans h2) hpt.pop) (fun hc => hk _ _ _ _ _ _ _ _ _ ((if_pos (xle hc)).symm.trans h2) hpt.pop)
      case gt =>
        obtain ⟨h1, h2⟩ := xjmp_ok h
        exact lv_if_gt hx hb hd h1 (fun hc => hk _ _ _ _ _ _ _ _ _ ((if_pos hc).symm.trans h2) hpt.pop) (fun hc => hk _ _ _ _ _ _ _ _ _ ((if_neg hc).symm.trans h2) hpt.pop)
      case le =>
        obtain ⟨h1, h2⟩ := xjmp_ok h
        exact lv_if_le hx hb hd h1 (fun hc => hk _ _ _ _ _ _ _ _ _ ((if_neg (fun q => xnle q hc)).symm.trans h2) hpt.pop) (fun hc => hk _ _ _ _ _ _ _ _ _ ((if_pos (xle hc)).symm.trans h2) hpt.pop)
    · cases h
  case if_icmp cc off =>
    cases of_decide_eq_true hl
    dsimp only [xst] at h
    split at h
    · cases cc
      case eq =>
        obtain ⟨h1, h2⟩ := xjmp_ok h
        exact lv_icmp_eq hx hb hd h1 (fun hc => hk _ _ _ _ _ _ _ _ _ ((if_pos hc).symm.trans h2) hpt.pop.pop) (fun hc => hk _ _ _ _ _ _ _ _ _ ((if_neg hc).symm.trans h2) hpt.pop.pop)
      case ne =>
        obtain ⟨h1, h2⟩ := xjmp_ok h
        exact lv_icmp_ne hx hb hd h1 (fun hc => hk _ _ _ _ _ _ _ _ _ ((if_neg hc).symm.trans h2) hpt.pop.pop) (fun hc => hk _ _ _ _ _ _ _ _ _ ((if_pos hc).symm.trans h2) hpt.pop.pop)
      case lt =>
        obtain ⟨h1, h2⟩ := xjmp_ok h
        exact lv_icmp_lt hx hb hd h1 (fun hc => hk _ _ _ _ _ _ _ _ _ ((if_pos hc).symm.trans h2) hpt.pop.pop) (fun hc => hk _ _ _ _ _ _ _ _ _ ((if_neg hc).symm.trans h2) hpt.pop.pop)
      case ge =>
        obtain ⟨h1, h2⟩ := xjmp_ok h
        exact lv_icmp_ge hx hb hd h1 (fun hc => hk _ _ _ _ _ _ _ _ _ ((if_neg (fun q => xnle q hc)).symm.trans h2) hpt.pop.pop) (fun hc => hk _ _ _ _ _ _ _ _ _ ((if_pos (xle hc)).symm.trans h2) hpt.pop.pop)
      case gt =>
        obtain ⟨h1, h2⟩ := xjmp_ok h
        exact lv_icmp_gt hx hb hd h1 (fun hc => hk _ _ _ _ _ _ _ _ _ ((if_pos hc).symm.trans h2) hpt.pop.pop) (fun hc => hk _ _ _ _ _ _ _ _ _ ((if_neg hc).symm.trans h2) hpt.pop.pop)
      case le =>
        obtain ⟨h1, h2⟩ := xjmp_ok h
        exact lv_icmp_le hx hb hd h1 (fun hc => hk _ _ _ _ _ _ _ _ _ ((if_neg (fun q => xnle q hc)).symm.trans h2) hpt.pop.pop) (fun hc => hk _ _ _ _ _ _ _ _ _ ((if_pos (xle hc)).symm.trans h2) hpt.pop.pop)
    · cases h
  case tableswitch dd lw hi offs =>
    dsimp only [xst] at h
    split at h
    · split at h
      · rename_i hc
        obtain ⟨h1, h2⟩ := xjmp_ok h
        exact lv_tableOut hx hb hd hc h1 (hk _ _ _ _ _ _ _ _ _ h2 hpt.pop)
      · rename_i hc
        split at h
        · rename_i off ho
          obtain ⟨h1, h2⟩ := xjmp_ok h
          exact lv_tableIn hx hb hd (fun q => hc (Or.inl q)) (fun q => hc (Or.inr q)) ho h1 (hk _ _ _ _ _ _ _ _ _ h2 hpt.pop)
        · cases h
    · cases h
  case getfield j =>
    cases of_decide_eq_true hl
    dsimp only [xst] at h
    split at h
    · rename_i ci kf nest hF
      obtain ⟨f1, f2, f3, f4⟩ := xF_ok hF
      split at h
      · rename_i a r'
        split at h
        · rename_i ha
          split at h
          · rename_i c' fs hf
            split at h
            · rename_i hc
              subst hc
              split at h
              · rename_i v hv
                split at h
                · rename_i hiv
                  have hw := xws_at (ad := ad) (ca := ca) (f := σ.2.2) ha
                  rw [hf] at hw
                  have hv' : (fs.map (xcv ad))[kf]? = some (xcv ad v) := by rw [List.getElem?_map, hv]; rfl
                  have hvo : xok σ.1 v := by
                    cases v with
                    | int x => trivial
                    | ref b => exact (hpt.1.2.2.2.2 a ha).1 _ _ hf b (List.mem_of_getElem? hv)
                    | _ => cases hiv
                  have hgo := hk _ _ _ _ _ _ _ _ _ h (hpt.pop.push hvo)
                  cases nest with
                  | false => exact va_get (C := (xV c').1) (T := (xV c').2.1) (N := (xV c').2.2) hx hb hts (xcls f1).1 hown hpt.K hpt.1.1 a hw f1 kf f2 (hts _ (f3 rfl)) (fun _ h9 => h9) hv' hd hgo
                  | true => exact va_getN (C := (xV c').1) (T := (xV c').2.1) (N := (xV c').2.2) hx hb hts (xcls f1).1 hown hpt.K hpt.1.1 a hw f1 kf f2 (htn _ (xNl (f4 rfl))) (fun _ h9 => h9) hv' hd hgo
                · cases h
              · cases h
            · cases h
          · cases h
        · cases h
      · cases h
    · cases h
  case putfield j =>
    cases of_decide_eq_true hl
    dsimp only [xst] at h
    split at h
    · rename_i ci kf nest hF
      obtain ⟨f1, f2, f3, f4⟩ := xF_ok hF
      split at h
      · rename_i v a r'
        split at h
        · rename_i ha
          split at h
          · rename_i c' fs hf
            split at h
            · rename_i hc
              obtain ⟨hc1, hc2, hc3, hc4⟩ := hc
              subst hc1
              have hw := xws_at (ad := ad) (ca := ca) (f := σ.2.2) ha
              rw [hf] at hw
              obtain ⟨g1, g2, g3⟩ := xcls f1
              obtain ⟨n1, n2⟩ := xfit_ok ad hc4
              have hl' : kf < (fs.map (xcv ad)).length := by rw [List.length_map]; exact hc2
              have hset : (fs.map (xcv ad)).set kf (xcv ad v) = (fs.set kf v).map (xcv ad) := by rw [List.map_set]
              have hgo : ∀ (H1 : Heap) (locs1 : List Loc), va_P D vwCl ((xws ad ca σ.2.2 σ.1).set a (ad a, .inr (c', (fs.map (xcv ad)).set kf (xcv ad v)))) H1 → va_D A ((xws ad ca σ.2.2 σ.1).set a (ad a, .inr (c', (fs.map (xcv ad)).set kf (xcv ad v)))) → va_S A s.heap H1 locs1 → W p l e R s m args below meth c H1 locs1 (σ.1 - n0) (σ.2.1 - s0) Q (F0 m (pc + 3) ls (r'.map (xcv ad))) := by
                intro H1 locs1 q1 q2 q3
                rw [hset] at q1 q2
                have q9 := hk _ _ _ _ H1 locs1 ls ad ca h
                refine q9 (hpt.write (x := .inl (c', fs.set kf v)) ha (fun w hw => hpt.2.2.1 w (List.mem_cons_of_mem _ (List.mem_cons_of_mem _ hw))) q1 q2 q3 (fun _ _ _ q => nomatch q) ?_ (fun _ _ _ q => nomatch q))
                intro ci' fs' q b hb'
                cases q
                rcases List.mem_or_eq_of_mem_set hb' with q | q
                · exact (hpt.1.2.2.2.2 a ha).1 _ _ hf b q
                · have := hpt.top
                  rw [← q] at this
                  exact this
              unfold xput at hc3
              split at hc3
              · rename_i hfin
                simp only [Bool.and_eq_true, Bool.not_eq_true', decide_eq_true_eq] at hc3
                obtain ⟨⟨i1, i2⟩, i3⟩ := hc3
                subst i3
                have hdecl : ((xV c').2.1 kf).1 = xR (xM u).1 := by rw [i2]; exact xcls0 f1 kf f2
                exact va_putF (C := (xV c').1) (T := (xV c').2.1) (N := (xV c').2.2) hx hb hts g1 (xFty c') g2 g3 hown hpt.K hpt.1.1 hpt.1.2.1 hpt.1.2.2.1 a hw f1 kf f2 (hts _ (f3 rfl)) (fun _ h9 => h9) hfin (hini i1) hdecl (g2 kf f2) n1 n2 hl' hd hgo
              · rename_i hfin
                have hfin := ts_nt' hfin
                cases nest with
                | false => exact va_put (C := (xV c').1) (T := (xV c').2.1) (N := (xV c').2.2) hx hb hts g1 (xFty c') g2 g3 hown hpt.K hpt.1.1 hpt.1.2.1 hpt.1.2.2.1 a hw f1 kf f2 (hts _ (f3 rfl)) (fun _ h9 => h9) hfin (g2 kf f2) n1 n2 hl' hd hgo
                | true => exact va_putN (C := (xV c').1) (T := (xV c').2.1) (N := (xV c').2.2) hx hb hts g1 (xFty c') g2 g3 hown hpt.K hpt.1.1 hpt.1.2.1 hpt.1.2.2.1 a hw f1 kf f2 (htn _ (xNl (f4 rfl))) (fun _ h9 => h9) hfin (g2 kf f2) n1 n2 hl' hd hgo
            · cases h
          · cases h
        · cases h
      · cases h
    · cases h
  case iaload =>
    cases of_decide_eq_true hl
    dsimp only [xst] at h
    split at h
    · rename_i i a r'
      split at h
      · rename_i ha
        split at h
        · rename_i n g hf
          split at h
          · cases h
          · rename_i hi
            have hw := xws_at (ad := ad) (ca := ca) (f := σ.2.2) ha
            rw [hf] at hw
            exact va_iald hx hb (hpt.arr ha hf) hpt.1.1 a 0 hw rfl hi hd (hk _ _ _ _ _ _ _ _ _ h (hpt.pop.pop.push trivial))
        · cases h
      · cases h
    · cases h
  case baload =>
    cases of_decide_eq_true hl
    dsimp only [xst] at h
    split at h
    · rename_i i a r'
      split at h
      · rename_i ha
        split at h
        · rename_i n g hf
          split at h
          · cases h
          · rename_i hi
            have hw := xws_at (ad := ad) (ca := ca) (f := σ.2.2) ha
            rw [hf] at hw
            exact va_zald hx hb (hpt.arr ha hf) hpt.1.1 a 0 hw rfl hi hd (hk _ _ _ _ _ _ _ _ _ h (hpt.pop.pop.push trivial))
        · cases h
      · cases h
    · cases h
  case iastore =>
    cases of_decide_eq_true hl
    dsimp only [xst] at h
    split at h
    · rename_i x i a r'
      split at h
      · rename_i ha
        split at h
        · rename_i n g hf
          split at h
          · cases h
          · rename_i hi
            have hw := xws_at (ad := ad) (ca := ca) (f := σ.2.2) ha
            rw [hf] at hw
            refine va_iast hx hb (hpt.arr ha hf) hpt.1.1 hpt.1.2.1 hpt.1.2.2.1 a 0 hw rfl hi hd (fun H1 locs1 q1 q2 q3 => ?_)
            have q9 := hk _ _ _ _ H1 locs1 ls ad ca h
            exact q9 (hpt.write (x := .inr (0, n, .inl (upd g i.toNatClampNeg x))) ha (fun w hw => hpt.2.2.1 w (List.mem_cons_of_mem _ (List.mem_cons_of_mem _ (List.mem_cons_of_mem _ hw)))) q1 q2 q3 (fun t n' b q => by cases q; exact ⟨_, _, hf⟩) (fun _ _ q => nomatch q) (fun t k g' q => by cases q))
        · cases h
      · cases h
    · cases h
  case bastore =>
    cases of_decide_eq_true hl
    dsimp only [xst] at h
    split at h
    · rename_i x i a r'
      split at h
      · rename_i ha
        split at h
        · rename_i n g hf
          split at h
          · cases h
          · rename_i hi
            have hw := xws_at (ad := ad) (ca := ca) (f := σ.2.2) ha
            rw [hf] at hw
            refine va_zast hx hb (hpt.arr ha hf) hpt.1.1 hpt.1.2.1 hpt.1.2.2.1 a 0 hw rfl hi hd (fun H1 locs1 q1 q2 q3 => ?_)
            have q9 := hk _ _ _ _ H1 locs1 ls ad ca h
            exact q9 (hpt.write (x := .inr (1, n, .inl (upd g i.toNatClampNeg (vp_nar .boolean x)))) ha (fun w hw => hpt.2.2.1 w (List.mem_cons_of_mem _ (List.mem_cons_of_mem _ (List.mem_cons_of_mem _ hw)))) q1 q2 q3 (fun t n' b q => by cases q; exact ⟨_, _, hf⟩) (fun _ _ q => nomatch q) (fun t k g' q => by cases q))
        · cases h
      · cases h
    · cases h
  case arraylength =>
    cases of_decide_eq_true hl
    dsimp only [xst] at h
    split at h
    · rename_i a r'
      split at h
      · rename_i ha
        split at h
        · rename_i t n b hf
          have hw := xws_at (ad := ad) (ca := ca) (f := σ.2.2) ha
          rw [hf] at hw
          cases b with
          | inl g => exact va_alen hx hb (hpt.arr ha hf) hpt.1.1 a 0 hw rfl rfl hd (hk _ _ _ _ _ _ _ _ _ h (hpt.pop.push trivial))
          | inr g => exact va_alen hx hb (hpt.arr ha hf) hpt.1.1 a 0 hw rfl rfl hd (hk _ _ _ _ _ _ _ _ _ h (hpt.pop.push trivial))
        · cases h
      · cases h
    · cases h
  case aaload =>
    cases of_decide_eq_true hl
    dsimp only [xst] at h
    split at h
    · rename_i i a r'
      split at h
      · rename_i ha
        split at h
        · rename_i t n g hf
          split at h
          · cases h
          · rename_i hi
            split at h
            · rename_i b hg
              have hw := xws_at (ad := ad) (ca := ca) (f := σ.2.2) ha
              rw [hf] at hw
              have ht : 2 ≤ t := Nat.not_lt.mp fun q => hi (Or.inl q)
              have hin : vp_in i n := fun q => hi (Or.inr q)
              have hlt : i.toNatClampNeg < n := Nat.not_le.mp fun q => hin (Or.inr q)
              have hgo := hk _ _ _ _ _ _ _ _ _ h (hpt.pop.pop.push (v := .ref b) ((hpt.1.2.2.2.2 a ha).2 _ _ _ hf _ _ hg))
              refine W.aald (v := .ref (ad b)) (ty := xty t) hx hb (hpt.1.1 a _ hw) (((hpt.arr ha hf).2 0 _ rfl).1 n (fun j => va_rf ((g j).map ad))) (xty_ref ht) (fun q => by cases q) (by show ¬ (i < 0 ∨ (arrV _ _ _).slots.size ≤ _); rw [arrV_size]; exact hin) (by show (arrV _ _ _).slots[_]? = _; rw [arrV_read _ _ hlt]; show some (va_rf (Option.map ad (g i.toNatClampNeg))) = _; rw [hg]; rfl) rfl rfl hd hgo
            · cases h
        · cases h
      · cases h
    · cases h
  case newarray at' =>
    cases of_decide_eq_true hl
    dsimp only [xst] at h
    split at h
    · rename_i n r'
      split at h
      · cases h
      · rename_i hn
        have hn0 : ¬ n < 0 := fun q => hn (Or.inl q)
        have hn1 : n.toNatClampNeg ≤ 100000 := Nat.not_lt.mp fun q => hn (Or.inr q)
        have hok : ∀ v ∈ r', xok σ.1 v := fun w hw => hpt.2.2.1 w (List.mem_cons_of_mem _ hw)
        cases at'
        case int =>
          have hmm := hm _ _ _ _ h
          have hn0' := hpt.2.2.2.1
          have hs0' := hpt.2.2.2.2.1
          dsimp only at hmm
          refine va_newa (atype := .int) (a0 := (n.toNatClampNeg, .inl (fun _ => 0))) (ty := .int) hx hb (hts _ xarI) rfl hpt.K hpt.1.1 hpt.1.2.1 hpt.1.2.2.1 hA (fun _ => rfl) hn0 rfl (by show _ * 4 ≤ _; omega) (by omega) (by omega) hd (fun q cA H1 k1 k2 k3 k4 => ?_)
          have hz := hpt.alloc (q := q) (cA := cA) (x := .inr (0, n.toNatClampNeg, .inl (fun _ => 0))) (dn := n.toNatClampNeg) hok (fun t n' b e => by cases e; exact k1.2 0 _ rfl) (fun _ _ e => nomatch e) (fun _ _ _ e => by cases e) k2 k3 k4
          have q9 := hk _ _ _ _ H1 locs ls _ _ h hz
          rw [show σ.1 - n0 + 1 = σ.1 + 1 - n0 by omega, show σ.2.1 - s0 + n.toNatClampNeg = σ.2.1 + n.toNatClampNeg - s0 by omega]
          rw [List.map_cons, xmap_ext hok (fun i hi => va_up_ne _ _ (Nat.ne_of_lt hi)), show xcv (va_up ad σ.1 q) (.ref σ.1) = .ref q from congrArg Value.ref (va_up_self _ _ _)] at q9
          exact q9
        case boolean =>
          have hmm := hm _ _ _ _ h
          have hn0' := hpt.2.2.2.1
          have hs0' := hpt.2.2.2.2.1
          dsimp only at hmm
          refine va_newa (atype := .boolean) (a0 := (n.toNatClampNeg, .inl (fun _ => 0))) (ty := .boolean) hx hb (hts _ xarZ) rfl hpt.K hpt.1.1 hpt.1.2.1 hpt.1.2.2.1 hA (fun _ => rfl) hn0 rfl (by show _ * 1 ≤ _; omega) (by omega) (by omega) hd (fun q cA H1 k1 k2 k3 k4 => ?_)
          have hz := hpt.alloc (q := q) (cA := cA) (x := .inr (1, n.toNatClampNeg, .inl (fun _ => 0))) (dn := n.toNatClampNeg) hok (fun t n' b e => by cases e; exact k1.2 0 _ rfl) (fun _ _ e => nomatch e) (fun _ _ _ e => by cases e) k2 k3 k4
          have q9 := hk _ _ _ _ H1 locs ls _ _ h hz
          rw [show σ.1 - n0 + 1 = σ.1 + 1 - n0 by omega, show σ.2.1 - s0 + n.toNatClampNeg = σ.2.1 + n.toNatClampNeg - s0 by omega]
          rw [List.map_cons, xmap_ext hok (fun i hi => va_up_ne _ _ (Nat.ne_of_lt hi)), show xcv (va_up ad σ.1 q) (.ref σ.1) = .ref q from congrArg Value.ref (va_up_self _ _ _)] at q9
          exact q9
        all_goals cases h
    · cases h
  case new j =>
    cases of_decide_eq_true hl
    dsimp only [xst] at h
    split at h
    · rename_i ci hK
      obtain ⟨k1, k2, k3, k4⟩ := xK_ok hK
      have hmm := hm _ _ _ _ h
      have hn0' := hpt.2.2.2.1
      have hs0' := hpt.2.2.2.2.1
      dsimp only at hmm
      have hok : ∀ v ∈ st, xok σ.1 v := hpt.2.2.1
      refine va_new (C := (xV ci).1) (T := (xV ci).2.1) (N := (xV ci).2.2) (fs := xdef ci) hx hb hts (xcls k4).1 (xFty ci) (xcls k4).2.1 hown (hts _ k1) (hts _ k2) (hts _ k3) hpt.K hpt.1.1 hpt.1.2.1 hpt.1.2.2.1 hA k4 (fun j hj => xdef_at hj) (by omega) (by omega) hd (fun q H1 k2 k3 k4 => ?_)
      have hz := hpt.alloc (q := q) (cA := ca σ.1) (x := .inl (ci, xdef ci)) (dn := (xV ci).2.2) hok (fun t n' b e => nomatch e) (fun ci' fs e b hb' => by cases e; exact absurd hb' (xdef_nr b)) (fun _ _ _ e => nomatch e) (by show va_P D vwCl (_ ++ [(q, .inr (ci, (xdef ci).map (xcv ad)))]) H1; rw [xdef_map]; exact k2) (by show va_D A (_ ++ [(q, .inr (ci, (xdef ci).map (xcv ad)))]); rw [xdef_map]; exact k3) k4
      have q9 := hk _ _ _ _ H1 locs ls _ _ h hz
      rw [show σ.1 - n0 + 1 = σ.1 + 1 - n0 by omega, show σ.2.1 - s0 + (xV ci).2.2 = σ.2.1 + (xV ci).2.2 - s0 by omega]
      rw [List.map_cons, xmap_ext hok (fun i hi => va_up_ne _ _ (Nat.ne_of_lt hi)), show xcv (va_up ad σ.1 q) (.ref σ.1) = .ref q from congrArg Value.ref (va_up_self _ _ _)] at q9
      exact q9
    · cases h
  case anewarray j =>
    cases of_decide_eq_true hl
    dsimp only [xst] at h
    split at h
    · rename_i ci hK
      obtain ⟨k1, k2, k3, k4⟩ := xK_ok hK
      split at h
      · rename_i t ht
        split at h
        · rename_i n r'
          split at h
          · cases h
          · rename_i hn
            have hn0 : ¬ n < 0 := fun q => hn (Or.inl q)
            have hn1 : n.toNatClampNeg ≤ 100000 := Nat.not_lt.mp fun q => hn (Or.inr q)
            have hok : ∀ v ∈ r', xok σ.1 v := fun w hw => hpt.2.2.1 w (List.mem_cons_of_mem _ hw)
            have hmm := hm _ _ _ _ h
            have hn0' := hpt.2.2.2.1
            have hs0' := hpt.2.2.2.2.1
            dsimp only at hmm
            obtain ⟨ht1, ht2⟩ := xtag_ok ht
            refine va_newq (C := xR ci) hx hb hown (hts _ k1) (va_AO.of (htn _ (List.mem_append_right _ ht2))) hpt.K hpt.1.1 hpt.1.2.1 hpt.1.2.2.1 hA hn0 rfl (by omega) (by omega) (by omega) hd (fun q cA H1 k1 k2 k3 k4 => ?_)
            have hz := hpt.alloc (q := q) (cA := cA) (x := .inr (t, n.toNatClampNeg, .inr (fun _ => none))) (dn := n.toNatClampNeg) hok (fun t n' b e => by cases e; rw [ht1]; exact k1.2 0 _ rfl) (fun _ _ e => nomatch e) (fun _ _ _ e j b hb' => by cases e; cases hb') k2 k3 k4
            have q9 := hk _ _ _ _ H1 locs ls _ _ h hz
            rw [show σ.1 - n0 + 1 = σ.1 + 1 - n0 by omega, show σ.2.1 - s0 + n.toNatClampNeg = σ.2.1 + n.toNatClampNeg - s0 by omega]
            rw [List.map_cons, xmap_ext hok (fun i hi => va_up_ne _ _ (Nat.ne_of_lt hi)), show xcv (va_up ad σ.1 q) (.ref σ.1) = .ref q from congrArg Value.ref (va_up_self _ _ _)] at q9
            exact q9
        · cases h
      · cases h
    · cases h
  case aastore =>
    cases of_decide_eq_true hl
    dsimp only [xst] at h
    split at h
    · rename_i v i a r'
      split at h
      · rename_i hav
        obtain ⟨ha, hvn⟩ := hav
        split at h
        · rename_i t n g hf
          split at h
          · cases h
          · rename_i hi
            have hel : xels t (σ.2.2 v) = true := by
              cases hq : xels t (σ.2.2 v) with
              | true => rfl
              | false => exact absurd (Or.inl hq) hi
            have hin : vp_in i n := fun q => hi (Or.inr q)
            have hlt : i.toNatClampNeg < n := Nat.not_le.mp fun q => hin (Or.inr q)
            have h0 : ¬ i < 0 := fun q => hin (Or.inl q)
            have hw := xws_at (ad := ad) (ca := ca) (f := σ.2.2) ha
            rw [hf] at hw
            have hwv := xws_at (ad := ad) (ca := ca) (f := σ.2.2) hvn
            have hgo : ∀ (H1 : Heap) (locs1 : List Loc), va_P D vwCl ((xws ad ca σ.2.2 σ.1).set a (ad a, .inl (ca a, n, .inr (.inr (.inr (.inr (va_up (fun i => (g i).map ad) i.toNatClampNeg (some (ad v))))))))) H1 → va_D A ((xws ad ca σ.2.2 σ.1).set a (ad a, .inl (ca a, n, .inr (.inr (.inr (.inr (va_up (fun i => (g i).map ad) i.toNatClampNeg (some (ad v))))))))) → va_S A s.heap H1 locs1 → W p l e R s m args below meth c H1 locs1 (σ.1 - n0) (σ.2.1 - s0) Q (F0 m (pc + 1) ls (r'.map (xcv ad))) := by
              intro H1 locs1 q1 q2 q3
              rw [xup_map] at q1 q2
              have q9 := hk _ _ _ _ H1 locs1 ls ad ca h
              refine q9 (hpt.write (x := .inr (t, n, .inr (va_up g i.toNatClampNeg (some v)))) ha (fun w hw => hpt.2.2.1 w (List.mem_cons_of_mem _ (List.mem_cons_of_mem _ (List.mem_cons_of_mem _ hw)))) q1 q2 q3 (fun t n' b q => by cases q; exact ⟨_, _, hf⟩) (fun _ _ q => nomatch q) ?_)
              intro t' k' g' q j b hb'
              cases q
              by_cases e : j = i.toNatClampNeg
              · subst e
                rw [va_up_self] at hb'
                cases hb'
                exact hvn
              · rw [va_up_ne _ _ e] at hb'
                exact (hpt.1.2.2.2.2 a ha).2 _ _ _ hf _ _ hb'
            unfold xels at hel
            split at hel
            · rename_i c' fs hfv
              cases of_decide_eq_true hel
              rw [hfv] at hwv
              exact va_astq (r := xV 3) hx hb (hpt.arr ha hf) hpt.1.1 hpt.1.2.1 hpt.1.2.2.1 a 0 v 3 hw rfl hwv rfl hin hd hgo
            · rename_i c' fs hfv
              cases of_decide_eq_true hel
              rw [hfv] at hwv
              exact va_astq (r := xV 6) hx hb (hpt.arr ha hf) hpt.1.1 hpt.1.2.1 hpt.1.2.2.1 a 0 v 6 hw rfl hwv rfl hin hd hgo
            · rename_i n9 b9 hfv
              rw [hfv] at hwv
              have kv := ((hpt.arr hvn hfv).2 0 _ rfl).2
              have ka := ((hpt.arr ha hf).2 0 _ rfl).2
              have kv : s.vm.findClass ("[" ++ FieldType.int.toString) = some (ca v) := kv
              have ka : s.vm.findClass ("[" ++ (FieldType.array .int).toString) = some (ca a) := ka
              obtain ⟨comp, cc', kk', e1, -, e3, e4, e5⟩ := Jvm.Stand.arrayOver_specB (htn (.arrayOver (.array .int)) (List.mem_append_right _ (List.mem_cons_of_mem _ (List.mem_cons_of_mem _ List.mem_cons_self))))
              have e6 : cc' = ca a := Option.some.inj (e5.symm.trans ka)
              subst e6
              have e7 : comp = ca v := Option.some.inj (e1.symm.trans (by rw [show (FieldType.array FieldType.int).toString = "[" ++ FieldType.int.toString from rfl]; exact kv))
              subst e7
              obtain ⟨kC, hkC, -⟩ := Vm.findClass_spec e1
              obtain ⟨cv, hcv1, hcv2, hcv3⟩ : ∃ cv : Cell, H[ad v]? = some cv ∧ cv.vm = .none ∧ cv.cls = ca v := by
                cases b9 with
                | inl g9 => exact ⟨_, hpt.1.1 v _ hwv, rfl, rfl⟩
                | inr g9 => exact ⟨_, hpt.1.1 v _ hwv, rfl, rfl⟩
              refine W.aast hx hb (hpt.1.1 a _ hw) (fun q h => by cases h) (fun h => by cases h) e3 e4 rfl hkC ⟨h0, by show _ < (arrV _ _ _).slots.size; rw [arrV_size]; exact hlt⟩ hcv1 (fun q h => by rw [hcv2] at h; cases h) (by rw [hcv3]; exact hkC) (by rw [hcv3]; exact xasg _ _) rfl rfl hd fun H1 e z oq => ?_
              refine hgo H1 _ (hpt.1.1.set hpt.1.2.1 hw ?_ oq) (hpt.1.2.1.set hw) (hpt.1.2.2.1.put z oq (hpt.1.2.1.2 a _ hw))
              show H1[ad a]? = some (vp_cell _ _)
              rw [e]
              show some (Cell.setSlot (vp_cell _ _) _ _) = _
              rw [vp_cell_q, vp_cell_q, arrV_store]
              congr 2
              funext q
              by_cases hq : q = i.toNatClampNeg
              · subst hq
                simp [updV, va_up, va_rf]
              · simp [updV, va_up, hq]
            · cases hel
        · cases h
      · cases h
    · cases h
  case multianewarray j dm =>
    cases of_decide_eq_true hl
    dsimp only [xst] at h
    split at h
    · rename_i hmn
      obtain ⟨hmn, rfl⟩ := hmn
      split at h
      · rename_i kk n r'
        split at h
        · cases h
        · rename_i hn
          have hk0 : ¬ kk < 0 := fun q => hn (Or.inl q)
          have hn0 : ¬ n < 0 := fun q => hn (Or.inr (Or.inl q))
          have hn1 : n.toNatClampNeg ≤ 10000 := Nat.not_lt.mp fun q => hn (Or.inr (Or.inr (Or.inl q)))
          have hk1 : kk.toNatClampNeg ≤ 10000 := Nat.not_lt.mp fun q => hn (Or.inr (Or.inr (Or.inr q)))
          have hok : ∀ v ∈ r', xok σ.1 v := fun w hw => hpt.2.2.1 w (List.mem_cons_of_mem _ (List.mem_cons_of_mem _ hw))
          have hmm := hm _ _ _ _ h
          have hn0' := hpt.2.2.2.1
          have hs0' := hpt.2.2.2.2.1
          dsimp only at hmm
          obtain ⟨cy, hcy, hcy2⟩ := xcyI (hts _ xarI)
          have hcy2' : s.vm.findClass (FieldType.array FieldType.int).toString = some cy := hcy2
          have hP0 : va_P D vwCl (xws ad ca σ.2.2 σ.1 ++ va_pl [] (fun _ => .inr (0, []))) H := by rw [show va_pl [] (fun _ => (.inr (0, []) : va_E)) = [] from rfl, List.append_nil]; exact hpt.1.1
          have hD0 : va_D A (xws ad ca σ.2.2 σ.1 ++ va_pl [] (fun _ => .inr (0, []))) := by rw [show va_pl [] (fun _ => (.inr (0, []) : va_E)) = [] from rfl, List.append_nil]; exact hpt.1.2.1
          refine va_mna (z := (kk.toNatClampNeg, .inl (fun _ => 0))) (ty := .int) hx hb hown (hts _ (xMN_ok hmn)) (htn (.arrayOver (.array .int)) (List.mem_append_right _ (List.mem_cons_of_mem _ (List.mem_cons_of_mem _ List.mem_cons_self)))) (hts _ xarI) hcy2' hpt.K hP0 hD0 hpt.1.2.2.1 hA hn0 hk0 rfl rfl (by omega) (by show _ * 4 ≤ _; omega) (by omega) rfl rfl (by omega) (by omega) (fun c => by rw [vp_cell_i, ← arrV_new]; rfl) hd (fun q r9 cA H1 hinj _ k1 k2 k3 k4 => ?_)
          have hz := hpt.grid (q := q) (r9 := r9) (cA := cA) (cy := cy) (N9 := n.toNatClampNeg) (K9 := kk.toNatClampNeg) hok (k1.2 0 _ rfl) ⟨hcy, hcy2⟩ k2 k3 k4
          have q9 := hk _ _ _ _ H1 locs ls _ _ h hz
          rw [show σ.1 - n0 + 1 + n.toNatClampNeg = σ.1 + 1 + n.toNatClampNeg - n0 by omega, show σ.2.1 - s0 + n.toNatClampNeg + n.toNatClampNeg * kk.toNatClampNeg = σ.2.1 + n.toNatClampNeg + n.toNatClampNeg * kk.toNatClampNeg - s0 by omega]
          rw [List.map_cons, xmap_ext hok (fun i hi => if_pos hi), show xcv (fun i => if i < σ.1 then ad i else if i = σ.1 then q else r9 (i - (σ.1 + 1))) (.ref σ.1) = .ref q from congrArg Value.ref (by simp)] at q9
          exact q9
      · cases h
    · cases h
  all_goals (exact absurd h (by dsimp only [xst]; exact fun q => nomatch q))
end XST
end
section
/-! the tables by method numbers -/
theorem xzip {α β : Type} {P : α × β → Bool} {a1 a2 : List α} {b1 b2 : List β} (h1 : (a1.zip b1).all P = true) (h2 : (a2.zip b2).all P = true) (hl : a1.length = b1.length) : ((a1 ++ a2).zip (b1 ++ b2)).all P = true := by
  rw [List.zip_append hl, List.all_append, h1, h2]
  rfl
theorem xzip_at {α β : Type} {P : α × β → Bool} {a : List α} {b : List β} (h : (a.zip b).all P = true) {i : Nat} {x : α} {y : β} (hx : a[i]? = some x) (hy : b[i]? = some y) : P (x, y) = true := by
  refine List.all_eq_true.mp h (x, y) (List.mem_of_getElem? (i := i) ?_)
  rw [List.getElem?_zip_eq_some]
  exact ⟨hx, hy⟩
theorem xIt_ok : (xMt.zip xIt).all (fun q => xChkI q.1.2.2.1 q.2) = true :=
  xzip (xzip (xzip (xzip (xzip (xzip (xzip (xzip (xzip xIt_ok_0 xIt_ok_1 rfl) xIt_ok_2 rfl) xIt_ok_3 rfl) xIt_ok_4 rfl) xIt_ok_5 rfl) xIt_ok_6 rfl) xIt_ok_7 rfl) xIt_ok_8 rfl) xIt_ok_9 rfl
theorem xAt_ok : (xMt.zip xAt).all (fun q => decide ((parseMethodDescriptor q.1.2.1.desc).map (fun d => d.parameters.length) = some q.2)) = true :=
  xzip (xzip (xzip (xzip (xzip (xzip (xzip (xzip (xzip xAt_ok_0 xAt_ok_1 rfl) xAt_ok_2 rfl) xAt_ok_3 rfl) xAt_ok_4 rfl) xAt_ok_5 rfl) xAt_ok_6 rfl) xAt_ok_7 rfl) xAt_ok_8 rfl) xAt_ok_9 rfl
theorem xMt_len : xMt.length = 149 := by decide +kernel
theorem xIt_lenq : xIt.length = 149 := by decide +kernel
theorem xAt_lenq : xAt.length = 149 := by decide +kernel
theorem xM_at {u : Nat} (h : u < 149) : xMt[u]? = some (xM u) := by
  unfold xM
  rw [List.getD_eq_getElem?_getD, List.getElem?_eq_getElem (by rw [xMt_len]; exact h)]
  rfl
theorem xM_ok (u : Nat) : xPM (xM u) := by
  by_cases h : u < 149
  · exact xMt_ok _ (List.mem_of_getElem? (xM_at h))
  · unfold xM
    rw [List.getD_eq_getElem?_getD, List.getElem?_eq_none (by rw [xMt_len]; omega)]
    exact xm_0
theorem xlook {α : Type} {l : List (Nat × α)} {k : Nat} {v : α} (h : l.lookup k = some v) : (k, v) ∈ l := by
  induction l with
  | nil => cases h
  | cons x l ih =>
    rw [List.lookup_cons] at h
    split at h
    · rename_i hb
      cases h
      have : k = x.1 := by simpa using hb
      rw [this]
      exact List.mem_cons_self
    · exact List.mem_cons_of_mem _ (ih h)
theorem xIn_lt {u pc : Nat} {q : Instr × Nat} (h : xIn u pc = some q) : u < 149 := by
  by_cases hu : u < 149
  · exact hu
  · unfold xIn at h
    rw [List.getD_eq_getElem?_getD, List.getElem?_eq_none (by rw [xIt_lenq]; omega)] at h
    cases h
theorem xI_at {u : Nat} (h : u < 149) : xIt[u]? = some (xIt.getD u []) := by
  rw [List.getD_eq_getElem?_getD, List.getElem?_eq_getElem (by rw [xIt_lenq]; exact h)]
  rfl
theorem xIn_ok {u pc len : Nat} {i : Instr} (h : xIn u pc = some (i, len)) : decode (xM u).2.2.1 pc = .ok (i, len) ∧ xlenok i len = true := by
  have hu := xIn_lt h
  have h1 := xzip_at xIt_ok (xM_at hu) (xI_at hu)
  have h2 : (pc, i, len) ∈ xIt.getD u [] := xlook h
  have h3 := List.all_eq_true.mp (List.all_eq_true.mp xIt_len _ (List.mem_of_getElem? (xI_at hu))) _ h2
  have h1 : xChkI (xM u).2.2.1 (xIt.getD u []) = true := h1
  unfold xChkI at h1
  have h4 := List.all_eq_true.mp h1 _ h2
  simp only [decide_eq_true_eq] at h4
  exact ⟨h4, h3⟩
theorem xA_ok {u : Nat} (h : u < 149) : (parseMethodDescriptor (xM u).2.1.desc).map (fun d => d.parameters.length) = some (xA u) := by
  have h9 : xAt[u]? = some (xA u) := by
    unfold xA
    rw [List.getD_eq_getElem?_getD, List.getElem?_eq_getElem (by rw [xAt_lenq]; exact h)]
    rfl
  exact of_decide_eq_true (xzip_at xAt_ok (xM_at h) h9)
theorem xlook2 {α : Type} {l : List ((Nat × Nat) × α)} {k : Nat × Nat} {v : α} (h : l.lookup k = some v) : (k, v) ∈ l := by
  induction l with
  | nil => cases h
  | cons x l ih =>
    rw [List.lookup_cons] at h
    split at h
    · rename_i hb
      cases h
      have : k = x.1 := by simpa using hb
      rw [this]
      exact List.mem_cons_self
    · exact List.mem_cons_of_mem _ (ih h)
theorem xC_ok {o j : Nat} {q : Nat × Nat} (h : xC o j = some q) : xPC ((o, j), q) := xCt_ok _ (xlook2 h)
theorem xCt_lt : xCt.all (fun q => decide (q.2.2 < 149)) = true := by decide +kernel
theorem xC_lt {o j : Nat} {q : Nat × Nat} (h : xC o j = some q) : q.2 < 149 := of_decide_eq_true (List.all_eq_true.mp xCt_lt _ (xlook2 h))
end
section
/-! the abstract machine's methods are the machine's -/
theorem xst_next {α : Type} {o : Nat} {ini : Bool} {pc : Nat} {i : Instr} {lo : XL} {st : List Value} {σ : XS} {k : Nat → XL → List Value → XS → Option α} {r : α} (h : xst o ini pc i lo st σ k = some r) : ∃ pc' lo' st' σ1, k pc' lo' st' σ1 = some r ∧ σ.1 ≤ σ1.1 ∧ σ.2.1 ≤ σ1.2.1 := by
  cases i <;> dsimp only [xst] at h
  all_goals first
    | contradiction
    | skip
  all_goals repeat' split at h
  all_goals first
    | contradiction
    | exact ⟨_, _, _, _, h, Nat.le_refl _, Nat.le_refl _⟩
    | exact ⟨_, _, _, _, h, Nat.le_succ _, Nat.le_add_right _ _⟩
    | exact ⟨_, _, _, _, h, Nat.le_trans (Nat.le_succ _) (Nat.le_add_right _ _), Nat.le_trans (Nat.le_add_right _ _) (Nat.le_add_right _ _)⟩
    | (obtain ⟨-, h⟩ := xjmp_ok h
       first
         | exact ⟨_, _, _, _, h, Nat.le_refl _, Nat.le_refl _⟩
         | (split at h <;> exact ⟨_, _, _, _, h, Nat.le_refl _, Nat.le_refl _⟩))
theorem xinv_next {α : Type} {call : Nat → List Value → XS → XO} {o j vk : Nat} {st : List Value} {σ : XS} {k : List Value → XS → Option α} {r : α} (hc : ∀ u vs σ rv σ', call u vs σ = some (rv, σ') → σ.1 ≤ σ'.1 ∧ σ.2.1 ≤ σ'.2.1) (h : xinv call o j vk st σ k = some r) : ∃ st' σ1, k st' σ1 = some r ∧ σ.1 ≤ σ1.1 ∧ σ.2.1 ≤ σ1.2.1 := by
  unfold xinv at h
  repeat' split at h
  all_goals first
    | contradiction
    | exact ⟨_, _, h, Nat.le_refl _, Nat.le_refl _⟩
    | exact ⟨_, _, h, hc _ _ _ _ _ (by assumption)⟩
theorem xgo_mono {call : Nat → List Value → XS → XO} (hc : ∀ u vs σ rv σ', call u vs σ = some (rv, σ') → σ.1 ≤ σ'.1 ∧ σ.2.1 ≤ σ'.2.1) {u : Nat} {rv : Option Value} {σ' : XS} : ∀ (n pc : Nat) (lo : XL) (st : List Value) (σ : XS), xgo call u n pc lo st σ = some (rv, σ') → σ.1 ≤ σ'.1 ∧ σ.2.1 ≤ σ'.2.1 := by
  intro n
  induction n with
  | zero => intro pc lo st σ h; cases h
  | succ n ih =>
    intro pc lo st σ h
    unfold xgo at h
    split at h
    · cases h
    · split at h
      · repeat' split at h
        all_goals first
          | contradiction
          | (cases h; exact ⟨Nat.le_refl _, Nat.le_refl _⟩)
      · repeat' split at h
        all_goals first
          | contradiction
          | (cases h; exact ⟨Nat.le_refl _, Nat.le_refl _⟩)
      · repeat' split at h
        all_goals first
          | contradiction
          | (cases h; exact ⟨Nat.le_refl _, Nat.le_refl _⟩)
      · obtain ⟨st', σ1, h1, h2, h3⟩ := xinv_next hc h
        have := ih _ _ _ _ h1
        exact ⟨Nat.le_trans h2 this.1, Nat.le_trans h3 this.2⟩
      · obtain ⟨st', σ1, h1, h2, h3⟩ := xinv_next hc h
        have := ih _ _ _ _ h1
        exact ⟨Nat.le_trans h2 this.1, Nat.le_trans h3 this.2⟩
      · obtain ⟨st', σ1, h1, h2, h3⟩ := xinv_next hc h
        have := ih _ _ _ _ h1
        exact ⟨Nat.le_trans h2 this.1, Nat.le_trans h3 this.2⟩
      · obtain ⟨pc', lo', st', σ1, h1, h2, h3⟩ := xst_next h
        have := ih _ _ _ _ h1
        exact ⟨Nat.le_trans h2 this.1, Nat.le_trans h3 this.2⟩
theorem xcall_mono {N : Nat} : ∀ (d u : Nat) (vs : List Value) (σ : XS) (rv : Option Value) (σ' : XS), xcall N d u vs σ = some (rv, σ') → σ.1 ≤ σ'.1 ∧ σ.2.1 ≤ σ'.2.1 := by
  intro d
  induction d with
  | zero => intro u vs σ rv σ' h; cases h
  | succ d ih =>
    intro u vs σ rv σ' h
    unfold xcall at h
    split at h
    · exact xgo_mono ih _ _ _ _ _ h
    · cases h
abbrev XW : Type := (Nat → Nat) × (Nat → ClassId)
def xW (u : Nat) : List Cond := .code (xM u).2.1 (xM u).2.2.1 (xM u).2.2.2.1 (xM u).2.2.2.2 :: xT
def xAg (n : Nat) (ad : Nat → Nat) (ca : Nat → ClassId) (w : XW) : Prop := ∀ i, i < n → w.1 i = ad i ∧ w.2 i = ca i
def xB (D : va_G) (A : Nat → Prop) (w : XW) (σ : XS) (t : State) : Prop := va_P D vwCl (xws w.1 w.2 σ.2.2 σ.1) t.heap ∧ va_D A (xws w.1 w.2 σ.2.2 σ.1) ∧ xKn D w.2 σ t ∧ xclo σ.1 σ.2.2
def xPre (D : va_G) (ad : Nat → Nat) (ca : Nat → ClassId) (σ : XS) (sz : Nat) (vs : List Value) : Array Value → State → Prop := va_Pc (vs.map (xcv ad)) (fun U => U.heap.size = sz ∧ xB D (fun _ => True) (ad, ca) σ U ∧ (∀ w ∈ xNx, va_Nw w U) ∧ ∀ v ∈ vs, xok σ.1 v)
def xPost (D : va_G) (ad : Nat → Nat) (ca : Nat → ClassId) (n0 : Nat) (rv : Option Value) (σ' : XS) (A : Nat → Prop) : Array Value → State → Outcome → State → Prop := match rv with
  | none => va_Qv (fun w : XW => xAg n0 ad ca w) (fun w t => xB D A w σ' t) A
  | some (.int x) => va_Qi (fun (r : Int32) (w : XW) => r = x ∧ xAg n0 ad ca w) (fun w t => xB D A w σ' t) A
  | some (.ref a) => va_Qr (fun w : XW => xAg n0 ad ca w ∧ a < σ'.1) (fun w ra t => ra = w.1 a ∧ xB D A w σ' t) A
  | _ => fun _ _ _ _ => False
def xRoom (d : Nat) (σ σ' : XS) : Room := { frames := d, cells := σ'.1 - σ.1, slots := σ'.2.1 - σ.2.1, locals := d * 40 }
def xMet (l : Launch) (D : va_G) (d u : Nat) (vs : List Value) (σ : XS) (rv : Option Value) (σ' : XS) : Prop := ∀ (ad : Nat → Nat) (ca : Nat → ClassId) (sz : Nat), Met l (xM u).2.1 (xW u) (xRoom d σ σ') (xPre D ad ca σ sz vs) (xPost D ad ca σ.1 rv σ' (va_A (xws ad ca σ.2.2 σ.1) sz)) (σ'.1 - σ.1) (σ'.2.1 - σ.2.1) (va_A (xws ad ca σ.2.2 σ.1) sz)
theorem xKn_moved {D : va_G} {ca : Nat → ClassId} {σ : XS} {u U : State} (hvm : u.vm.Alike U.vm) (h : xKn D ca σ u) : xKn D ca σ U :=
  ⟨fun c q hq => u_Kn_moved hvm (h.1 c q hq), fun i hi t n b hf => ⟨arrOfT_moved hvm (h.2 i hi t n b hf).1, (h.2 i hi t n b hf).2.moved hvm⟩⟩
theorem xgoodT {ws : List Cond} (h : ∀ w ∈ ws, w ∈ xT) : GoodIn xT ws := fun w hw => ⟨h w hw, good_of_word (List.mem_filter.mp (h w hw)).2⟩
theorem xW_in (u : Nat) : ∀ w ∈ xW u, w ∈ xT := fun w hw => (List.mem_cons.mp hw).elim (fun e => e ▸ (xM_ok u).1) id
theorem xAO_moved {ty : FieldType} {s U : State} (hvm : s.vm.Alike U.vm) (h : va_Nw (.arrayOver (.array ty)) s) : va_Nw (.arrayOver (.array ty)) U := Jvm.Stand.arrayOver_alikeB hvm h
theorem xN_warm {s U : State} (hW : s.WarmedH U.vm) {w : Cond} (hn : w ∈ xNx) (h : va_Nw w s) : va_Nw w U := by
  rcases List.mem_append.mp hn with hn | hn
  · have hx := (List.mem_filter.mp hn).2
    cases w <;> first
      | exact va_Nw.warmF hW h
      | exact va_Nw.warmM hW h
      | exact absurd hx Bool.false_ne_true
  · rcases List.mem_cons.mp hn with rfl | hn
    · exact va_AO.moved hW.alike h
    · rcases List.mem_cons.mp hn with rfl | hn
      · exact va_AO.moved hW.alike h
      · rcases List.mem_cons.mp hn with rfl | hn
        · exact xAO_moved hW.alike h
        · cases hn
theorem xN_nest {w : Cond} (hn : w ∈ xN) : w.onTables = true := by
  have hx := (List.mem_filter.mp hn).2
  cases w <;> first
    | rfl
    | exact absurd hx Bool.false_ne_true
theorem xN_of {w : Cond} (hn : w ∈ xNx) {A : Array Value} {U : State} (h : w.before A U = true) : va_Nw w U := by
  rcases List.mem_append.mp hn with hn | hn
  · exact va_Nw.of (xN_nest hn) h
  · rcases List.mem_cons.mp hn with rfl | hn
    · exact h
    · rcases List.mem_cons.mp hn with rfl | hn
      · exact h
      · rcases List.mem_cons.mp hn with rfl | hn
        · exact h
        · cases hn
theorem xN_use {w : Cond} (hn : w ∈ xNx) {A : Array Value} {U : State} (h : va_Nw w U) : w.before A U = true := by
  rcases List.mem_append.mp hn with hn | hn
  · exact va_Nw.use (xN_nest hn) h
  · rcases List.mem_cons.mp hn with rfl | hn
    · exact h
    · rcases List.mem_cons.mp hn with rfl | hn
      · exact h
      · rcases List.mem_cons.mp hn with rfl | hn
        · exact h
        · cases hn
theorem xN_same {w : Cond} (hn : w ∈ xNx) {u U : State} (h : u.vm.Alike U.vm) (hv : u.vm = U.vm) (hz : va_Nw w u) : va_Nw w U := by
  rcases List.mem_append.mp hn with hn | hn
  · exact va_Nw.same (xN_nest hn) hv hz
  · rcases List.mem_cons.mp hn with rfl | hn
    · exact va_AO.moved h hz
    · rcases List.mem_cons.mp hn with rfl | hn
      · exact va_AO.moved h hz
      · rcases List.mem_cons.mp hn with rfl | hn
        · exact xAO_moved h hz
        · cases hn
theorem xPre_blind {D : va_G} {ad : Nat → Nat} {ca : Nat → ClassId} {σ : XS} {sz : Nat} {vs : List Value} : FrameBlind (xPre D ad ca σ sz vs) := by
  intro a U g mk q
  obtain ⟨q0, q1, ⟨b1, b2, b3, b4⟩, q3, q4⟩ := q
  exact ⟨q0, q1, ⟨b1, b2, xKn_moved (u := U) (U := U.calling g mk a) (Vm.Alike.refl U.vm) b3, b4⟩, fun w hw => xN_same hw (u := U) (U := U.calling g mk a) (Vm.Alike.refl U.vm) rfl (q3 w hw), q4⟩
end
section
/-! calls and returns -/
section XGO
variable {p : Program} {l : Launch} {e : Env} {R : Room} {s : State} {m : MethodId} {args : Array Value} {below : List Frame} {meth : Method} {c : Code} {Q : State → Prop} {D : va_G} {A : Nat → Prop} {u nL n0 s0 : Nat} {ad0 : Nat → Nat} {ca0 : Nat → ClassId} {H : Heap} {locs : List Loc} {ls : Array Slot} {ad : Nat → Nat} {ca : Nat → ClassId} {lo : XL} {st : List Value} {σ : XS}
theorem xPt.free (hpt : xPt D A s nL n0 s0 ad0 ca0 H locs ls ad ca lo st σ) (hA : ∀ q, s.heap.size ≤ q → A q) : ∀ q, va_A (xws ad ca σ.2.2 σ.1) H.size q → A q := by
  intro q h
  rcases h with ⟨k, e, h⟩ | h
  · exact hpt.1.2.1.2 k (q, e) h
  · exact hA q (Nat.le_trans hpt.1.2.2.1.1 h)
theorem xPt.after {w : XW} {σ1 : XS} {t : State} {H1 : Heap} {locs1 : List Loc} {st' : List Value} (hpt : xPt D A s nL n0 s0 ad0 ca0 H locs ls ad ca lo st σ) (hA : ∀ q, s.heap.size ≤ q → A q) (hag : xAg σ.1 ad ca w) (hB : xB D (va_A (xws ad ca σ.2.2 σ.1) H.size) w σ1 t) (ht : t.heap = H1) (hvm : s.vm.Alike t.vm) (hS : va_S A s.heap H1 locs1) (hm : σ.1 ≤ σ1.1 ∧ σ.2.1 ≤ σ1.2.1) (hst : ∀ v ∈ st', xok σ1.1 v) : xPt D A s nL n0 s0 ad0 ca0 H1 locs1 ls w.1 w.2 lo st' σ1 := by
  obtain ⟨b1, b2, b3, b4⟩ := hB
  rw [ht] at b1
  refine ⟨⟨b1, b2.weaken (fun k q _ h => hpt.free hA q.1 h), hS, xKn_moved hvm.symm b3, b4⟩, xloc_ext hpt.2.1 (fun i hi => (hag i hi).1) hm.1, hst, Nat.le_trans hpt.2.2.2.1 hm.1, Nat.le_trans hpt.2.2.2.2.1 hm.2, fun i hi => ?_⟩
  have hi' : i < σ.1 := Nat.lt_of_lt_of_le hi hpt.2.2.2.1
  rw [(hag i hi').1, (hag i hi').2]
  exact hpt.2.2.2.2.2 i hi
/-- the callee's start -/
theorem xPt.pre {vs : List Value} (hpt : xPt D A s nL n0 s0 ad0 ca0 H locs ls ad ca lo st σ) (htn : ∀ w ∈ xNx, w.before args s = true) (hvs : ∀ v ∈ vs, xok σ.1 v) {U : State} (hU : U.heap = H) (hW : s.WarmedH U.vm) : xPre D ad ca σ H.size vs (vs.map (xcv ad)).toArray U :=
  ⟨rfl, by rw [hU], ⟨by rw [hU]; exact hpt.1.1, hpt.1.2.1.weaken (fun _ _ _ _ => trivial), xKn_moved hW.alike hpt.1.2.2.2.1, hpt.1.2.2.2.2⟩, fun w hw => xN_warm hW hw (xN_of hw (htn w hw)), hvs⟩
/-- behind a call -/
theorem xback {pc : Nat} {st0 rest : List Value} {rv1 : Option Value} {σ1 : XS} {a : Array Value} (hpt : xPt D A s nL n0 s0 ad0 ca0 H locs ls ad ca lo st σ) (hA : ∀ q, s.heap.size ≤ q → A q) (hm : σ.1 ≤ σ1.1 ∧ σ.2.1 ≤ σ1.2.1) (hrest : ∀ v ∈ rest, xok σ.1 v)
    (hr : va_Run p l e R s m args below meth c H locs (σ.1 - n0) (σ.2.1 - s0) (σ1.1 - σ.1) (σ1.2.1 - σ.2.1) (F0 m pc ls st0) (rest.map (xcv ad)) (xPost D ad ca σ.1 rv1 σ1 (va_A (xws ad ca σ.2.2 σ.1) H.size) a) (va_A (xws ad ca σ.2.2 σ.1) H.size))
    (hk : ∀ H' locs' ad' ca', xPt D A s nL n0 s0 ad0 ca0 H' locs' ls ad' ca' lo (rv1.toList ++ rest) σ1 → W p l e R s m args below meth c H' locs' (σ1.1 - n0) (σ1.2.1 - s0) Q (F0 m (pc + 3) ls ((rv1.toList ++ rest).map (xcv ad')))) :
    W p l e R s m args below meth c H locs (σ.1 - n0) (σ.2.1 - s0) Q (F0 m pc ls st0) := by
  have hn := hpt.2.2.2.1
  have hs := hpt.2.2.2.2.1
  have e1 : σ.1 - n0 + (σ1.1 - σ.1) = σ1.1 - n0 := by omega
  have e2 : σ.2.1 - s0 + (σ1.2.1 - σ.2.1) = σ1.2.1 - s0 := by omega
  have hF := hpt.free hA
  have hr1 : ∀ v ∈ rest, xok σ1.1 v := fun v hv => xok_le (hrest v hv) hm.1
  match rv1, hr, hk with
  | none, hr, hk =>
    refine va_callv (a := a) hr hpt.1.2.2.1 (fun q _ h => hF q h) hF (fun w t H1 locs1 ht hvm hw hB hz1 hk1 hS => ?_)
    rw [e1, e2]
    have q9 := hk H1 locs1 w.1 w.2 (hpt.after hA hw hB ht hvm hS hm hr1)
    rw [show (Option.none.toList ++ rest : List Value) = rest from rfl, xmap_ext hrest (fun i hi => (hw i hi).1)] at q9
    exact q9
  | some (.int x), hr, hk =>
    refine va_calli (a := a) hr hpt.1.2.2.1 (fun q _ h => hF q h) hF (fun r w t H1 locs1 ht hvm hw hB hz1 hk1 hS => ?_)
    rw [e1, e2]
    obtain ⟨rfl, hw⟩ := hw
    have q9 := hk H1 locs1 w.1 w.2 (hpt.after hA hw hB ht hvm hS hm (fun v hv => (List.mem_cons.mp hv).elim (fun e => e ▸ trivial) (hr1 v)))
    rw [show ((some (Value.int r)).toList ++ rest : List Value) = .int r :: rest from rfl, List.map_cons, xmap_ext hrest (fun i hi => (hw i hi).1)] at q9
    exact q9
  | some (.ref b), hr, hk =>
    refine va_callr (a := a) hr hpt.1.2.2.1 (fun q _ h => hF q h) hF (fun w ra t H1 locs1 ht hvm hw hB hz1 hk1 hS => ?_)
    rw [e1, e2]
    obtain ⟨hw, hb⟩ := hw
    obtain ⟨rfl, hB⟩ := hB
    have q9 := hk H1 locs1 w.1 w.2 (hpt.after hA hw hB ht hvm hS hm (fun v hv => (List.mem_cons.mp hv).elim (fun e => e ▸ hb) (hr1 v)))
    rw [show ((some (Value.ref b)).toList ++ rest : List Value) = .ref b :: rest from rfl, List.map_cons, xmap_ext hrest (fun i hi => (hw i hi).1)] at q9
    exact q9
  | some (.long x), hr, hk =>
    intro T hT X
    obtain ⟨_, _, _, _, _, _, _, _, _, _, hq, _⟩ := hr T hT X
    exact hq.elim
  | some (.float x), hr, hk =>
    intro T hT X
    obtain ⟨_, _, _, _, _, _, _, _, _, _, hq, _⟩ := hr T hT X
    exact hq.elim
  | some (.double x), hr, hk =>
    intro T hT X
    obtain ⟨_, _, _, _, _, _, _, _, _, _, hq, _⟩ := hr T hT X
    exact hq.elim
  | some .null, hr, hk =>
    intro T hT X
    obtain ⟨_, _, _, _, _, _, _, _, _, _, hq, _⟩ := hr T hT X
    exact hq.elim
  | some (.retAddr x), hr, hk =>
    intro T hT X
    obtain ⟨_, _, _, _, _, _, _, _, _, _, hq, _⟩ := hr T hT X
    exact hq.elim
theorem xcat {ad : Nat → Nat} (r : List Value) : ((r.map (xcv ad)).map fun v => v.category) = r.map Value.category := by
  rw [List.map_map]
  exact List.map_congr_left fun v _ => xcv_cat v
theorem xinv_ok {N d : Nat} {pc j vk : Nat} {α : Type} {k : List Value → XS → Option α} {r : α} (hC : ∀ u' vs σ rv σ', xcall N d u' vs σ = some (rv, σ') → xMet l D d u' vs σ rv σ') (F : xFix p s m args meth c u) (hA : ∀ q, s.heap.size ≤ q → A q)
    (hd : decode (xM u).2.2.1 pc = .ok ((if vk = 0 then Instr.invokevirtual j else if vk = 1 then Instr.invokestatic j else Instr.invokespecial j), 3)) (h : xinv (xcall N d) (xM u).1 j vk st σ k = some r)
    (hpt : xPt D A s (xM u).2.2.2.1 n0 s0 ad0 ca0 H locs ls ad ca lo st σ)
    (hk : ∀ st' σ' H' locs' ad' ca', k st' σ' = some r → xPt D A s (xM u).2.2.2.1 n0 s0 ad0 ca0 H' locs' ls ad' ca' lo st' σ' → W p l e R s m args below meth c H' locs' (σ'.1 - n0) (σ'.2.1 - s0) Q (F0 m (pc + 3) ls (st'.map (xcv ad'))))
    (hm : ∀ st' σ', k st' σ' = some r → σ'.1 - n0 ≤ R.cells ∧ σ'.2.1 - s0 ≤ R.slots) (hRf : d + 1 ≤ R.frames) (hRl : (d + 1) * 40 ≤ R.locals) :
    W p l e R s m args below meth c H locs (σ.1 - n0) (σ.2.1 - s0) Q (F0 m pc ls (st.map (xcv ad))) := by
  obtain ⟨hx, hb, hml, hown, hts, htn, hini⟩ := F
  have hLL := hpt.2.1.1
  have hn0 := hpt.2.2.2.1
  have hs0 := hpt.2.2.2.2.1
  unfold xinv at h
  split at h
  · rename_i kd u' hCe
    have hPC := xC_ok hCe
    have hu' : u' < 149 := xC_lt hCe
    obtain ⟨m1, m2, m3, m4, m5, m6⟩ := xM_ok u'
    have hroom : (xRoom d σ σ).frames + 1 ≤ R.frames ∧ 8 + ((xM u').2.2.2.1 + 11) + (xRoom d σ σ).locals ≤ R.locals := by
      refine ⟨hRf, ?_⟩
      show 8 + ((xM u').2.2.2.1 + 11) + d * 40 ≤ R.locals
      omega
    split at h
    · rename_i hkd
      obtain ⟨hk0, hv⟩ := hkd
      subst hk0
      subst hv
      obtain ⟨c1, c2, c3⟩ := hPC
      split at h
      · rename_i b rest hdrop
        split at h
        · rename_i hbn
          obtain ⟨hcat, hbn⟩ := hbn
          split at h
          · rename_i c0 fs hf
            split at h
            · rename_i hc0
              split at h
              · rename_i rv1 σ1 hcall
                have hmm := xcall_mono _ _ _ _ _ _ hcall
                have hmk := hm _ _ h
                have hst : st = st.take (xA u') ++ .ref b :: rest := by rw [← hdrop, List.take_append_drop]
                have hlen : (st.take (xA u')).length = xA u' := by
                  rw [List.length_take]
                  have : (st.drop (xA u')).length ≠ 0 := by rw [hdrop]; simp
                  rw [List.length_drop] at this
                  omega
                have hvs : ∀ v ∈ (.ref b :: (st.take (xA u')).reverse : List Value), xok σ.1 v := fun v hv => by
                  refine hpt.2.2.1 v ?_
                  rw [hst]
                  rcases List.mem_cons.mp hv with e | hv
                  · rw [e]; exact List.mem_append_right _ List.mem_cons_self
                  · exact List.mem_append_left _ (List.mem_reverse.mp hv)
                have hrest : ∀ v ∈ rest, xok σ.1 v := fun v hv => hpt.2.2.1 v (by rw [hst]; exact List.mem_append_right _ (List.mem_cons_of_mem _ hv))
                have hw := xws_at (ad := ad) (ca := ca) (f := σ.2.2) hbn
                rw [hf] at hw
                obtain ⟨q9, hq9, -⟩ := hpt.1.1 b _ hw
                have hq9 : vwCl[c0]? = some q9 := hq9
                have hq : q9.1 = (xM u').2.1.cls := by
                  rw [← m2, ← hc0]
                  unfold xR
                  rw [List.getD_eq_getElem?_getD, hq9]
                  rfl
                have hrecv := va_recv hpt.K hpt.1.1 hq9 hw
                rw [hq] at hrecv
                refine xback (rv1 := rv1) (σ1 := σ1) (rest := rest) (a := (((.ref b :: (st.take (xA u')).reverse : List Value)).map (xcv ad)).toArray) hpt hA hmm hrest ?_ (fun H' locs' ad' ca' hp => hk _ _ _ _ _ _ h hp)
                refine va_runV (C := (xM u').2.1.cls) (As := ((st.take (xA u')).reverse).map (xcv ad)) ⟨hx, hb, hml, hown, hts⟩ (hC _ _ _ _ _ hcall ad ca H.size) (cwV (xA u') hts (xgoodT ?_) rfl rfl rfl ⟨rfl, m4.1, m4.2, xA_ok hu'⟩ hroom) ⟨xPre_blind, hrecv, fun U hU hW => hpt.pre htn hvs hU hW⟩ rfl (by rw [List.length_map, List.length_reverse]; exact hlen) hLL ?_ (lv_room (by rw [xcat]; exact hcat)) hd ?_
                · intro w hw
                  rcases List.mem_append.mp hw with hw | hw
                  · rcases List.mem_cons.mp hw with rfl | hw
                    · exact c1
                    · rcases List.mem_cons.mp hw with rfl | hw
                      · exact c2
                      · rcases List.mem_cons.mp hw with rfl | hw
                        · exact c3
                        · rcases List.mem_cons.mp hw with rfl | hw
                          · exact m6
                          · cases hw
                  · exact xW_in u' w hw
                · show st.map (xcv ad) = _
                  conv => lhs; rw [hst]
                  rw [List.map_append, ← List.map_reverse, List.reverse_reverse]
                  rfl
                · omega
              · cases h
            · cases h
          · cases h
        · cases h
      · cases h
    · split at h
      · rename_i hkd
        obtain ⟨hkk, hv⟩ := hkd
        subst hv
        split at h
        · rename_i hlc
          obtain ⟨hlen, hcat⟩ := hlc
          split at h
          · rename_i rv1 σ1 hcall
            have hmm := xcall_mono _ _ _ _ _ _ hcall
            have hmk := hm _ _ h
            have hvs : ∀ v ∈ ((st.take (xA u')).reverse : List Value), xok σ.1 v := fun v hv => hpt.2.2.1 v (List.mem_of_mem_take (List.mem_reverse.mp hv))
            have hrest : ∀ v ∈ st.drop (xA u'), xok σ.1 v := fun v hv => hpt.2.2.1 v (List.mem_of_mem_drop hv)
            have hstk : st.map (xcv ad) = (((st.take (xA u')).reverse).map (xcv ad)).reverse ++ (st.drop (xA u')).map (xcv ad) := by
              rw [← List.map_reverse, List.reverse_reverse, ← List.map_append, List.take_append_drop]
            have hcell : σ.1 - n0 + (σ1.1 - σ.1) ≤ R.cells ∧ σ.2.1 - s0 + (σ1.2.1 - σ.2.1) ≤ R.slots := by omega
            refine xback (rv1 := rv1) (σ1 := σ1) (rest := st.drop (xA u')) (a := (((st.take (xA u')).reverse).map (xcv ad)).toArray) hpt hA hmm hrest ?_ (fun H' locs' ad' ca' hp => hk _ _ _ _ _ _ h hp)
            rcases hkk with rfl | rfl
            · obtain ⟨c1, c2⟩ := hPC
              refine va_runS (As := ((st.take (xA u')).reverse).map (xcv ad)) ⟨hx, hb, hml, hown, hts⟩ (hC _ _ _ _ _ hcall ad ca H.size) (va_cwS (xA u') hts (xgoodT ?_) rfl rfl rfl ⟨m4.1, m4.2, xA_ok hu'⟩ hroom) ⟨xPre_blind, fun U hU hW => hpt.pre htn hvs hU hW⟩ rfl (by rw [List.length_map, List.length_reverse]; exact hlen) hLL hstk (lv_room (by rw [xcat]; exact hcat)) hd hcell
              intro w hw
              rcases List.mem_append.mp hw with hw | hw
              · rcases List.mem_cons.mp hw with rfl | hw
                · exact c1
                · rcases List.mem_cons.mp hw with rfl | hw
                  · exact c2
                  · rcases List.mem_cons.mp hw with rfl | hw
                    · exact m6
                    · cases hw
              · exact xW_in u' w hw
            · obtain ⟨c1, c2⟩ := hPC
              exact va_runSN (host := RX9) (As := ((st.take (xA u')).reverse).map (xcv ad)) ⟨hx, hb, hml, hown, hts⟩ (hC _ _ _ _ _ hcall ad ca H.size) ⟨va_cnB (xA u') hts (xgoodT (xW_in u')) rfl rfl rfl (xN_of (xNl c1) (htn _ (xNl c1))) (hts _ m6) ⟨m4.1, m4.2, xA_ok hu'⟩ hroom, hts _ c2, trivial⟩ ⟨xPre_blind, fun U hU hW => hpt.pre htn hvs hU hW⟩ rfl (by rw [List.length_map, List.length_reverse]; exact hlen) hLL hstk (lv_room (by rw [xcat]; exact hcat)) hd hcell
          · cases h
        · cases h
      · split at h
        · rename_i hkd
          obtain ⟨rfl, rfl⟩ := hkd
          obtain ⟨c1, c2, c3, c4⟩ := hPC
          split at h
          · rename_i y x r'
            split at h
            · rename_i hcat
              have hmk := hm _ _ h
              refine va_mmax hx hb (hml.trans hLL.symm) hown (hts _ c1) (hts _ c2) (hts _ c3) (hts _ c4) (by omega) ?_ (by omega) (by omega) hd (hk _ _ _ _ _ _ h (hpt.pop.pop.push trivial))
              have : ((r'.map (xcv ad)).map fun v => v.category).sum ≤ 8 := by rw [xcat]; exact hcat
              omega
            · cases h
          · cases h
        · split at h
          · rename_i hkd
            obtain ⟨rfl, rfl⟩ := hkd
            obtain ⟨c1, c2, c3, c4⟩ := hPC
            split at h
            · rename_i y x r'
              split at h
              · rename_i hcat
                have hmk := hm _ _ h
                refine va_mmin hx hb (hml.trans hLL.symm) hown (hts _ c1) (hts _ c2) (hts _ c3) (hts _ c4) (by omega) ?_ (by omega) (by omega) hd (hk _ _ _ _ _ _ h (hpt.pop.pop.push trivial))
                have : ((r'.map (xcv ad)).map fun v => v.category).sum ≤ 8 := by rw [xcat]; exact hcat
                omega
              · cases h
            · cases h
          · split at h
            · rename_i hkd
              obtain ⟨rfl, rfl⟩ := hkd
              obtain ⟨c1, c2, c3⟩ := hPC
              split at h
              · rename_i a r'
                split at h
                · rename_i hcat
                  have hcat' : ((r'.map (xcv ad)).map fun v => v.category).sum ≤ 8 := by rw [xcat]; exact hcat
                  refine W.objInit hx hb hown (hts _ c1) (hts _ c2) (hts _ c3) rfl (hLL.trans hml.symm) rfl hd (by omega) ?_ (hk _ _ _ _ _ _ h hpt.pop)
                  have hdd := hcat'
                  have h9 : 2 * (F0 m pc ls (List.map (xcv ad) (Value.ref a :: r'))).monitorRoom + ((r'.map (xcv ad)).map fun v => v.category).sum ≤ 8 := lv_room hcat'
                  omega
                · cases h
              · cases h
            · split at h
              · rename_i hkd
                obtain ⟨hkk, rfl, hini', hret⟩ := hkd
                have hname : (xM u').2.1.name = "<init>" := of_decide_eq_true hini'
                split at h
                · rename_i b rest hdrop
                  split at h
                  · rename_i hcat
                    split at h
                    · rename_i rv1 σ1 hcall
                      have hmm := xcall_mono _ _ _ _ _ _ hcall
                      have hmk := hm _ _ h
                      have hst : st = st.take (xA u') ++ .ref b :: rest := by rw [← hdrop, List.take_append_drop]
                      have hlen : (st.take (xA u')).length = xA u' := by
                        rw [List.length_take]
                        have : (st.drop (xA u')).length ≠ 0 := by rw [hdrop]; simp
                        rw [List.length_drop] at this
                        omega
                      have hvs : ∀ v ∈ (.ref b :: (st.take (xA u')).reverse : List Value), xok σ.1 v := fun v hv => by
                        refine hpt.2.2.1 v ?_
                        rw [hst]
                        rcases List.mem_cons.mp hv with e | hv
                        · rw [e]; exact List.mem_append_right _ List.mem_cons_self
                        · exact List.mem_append_left _ (List.mem_reverse.mp hv)
                      have hrest : ∀ v ∈ rest, xok σ.1 v := fun v hv => hpt.2.2.1 v (by rw [hst]; exact List.mem_append_right _ (List.mem_cons_of_mem _ hv))
                      have hstk : st.map (xcv ad) = (((st.take (xA u')).reverse).map (xcv ad)).reverse ++ .ref (ad b) :: rest.map (xcv ad) := by
                        conv => lhs; rw [hst]
                        rw [List.map_append, ← List.map_reverse, List.reverse_reverse]
                        rfl
                      have hcell : σ.1 - n0 + (σ1.1 - σ.1) ≤ R.cells ∧ σ.2.1 - s0 + (σ1.2.1 - σ.2.1) ≤ R.slots := by omega
                      refine xback (rv1 := rv1) (σ1 := σ1) (rest := rest) (a := (((.ref b :: (st.take (xA u')).reverse : List Value)).map (xcv ad)).toArray) hpt hA hmm hrest ?_ (fun H' locs' ad' ca' hp => hk _ _ _ _ _ _ h hp)
                      rcases hkk with rfl | rfl
                      · obtain ⟨c1, c2⟩ := hPC
                        exact va_runI (As := ((st.take (xA u')).reverse).map (xcv ad)) ⟨hx, hb, hml, hown, hts⟩ (hC _ _ _ _ _ hcall ad ca H.size) (cwI (xA u') hts (xgoodT (xW_in u')) (by unfold xW; rw [hret]) rfl rfl (hts _ m6) (hts _ c1) (hts _ c2) hname ⟨m4.1, m4.2, xA_ok hu'⟩ hroom) ⟨xPre_blind, fun U hU hW => hpt.pre htn hvs hU hW⟩ rfl (by rw [List.length_map, List.length_reverse]; exact hlen) hLL hstk (lv_room (by rw [xcat]; exact hcat)) hd hcell
                      · obtain ⟨c1, c2⟩ := hPC
                        exact va_runIN (host := RX9) (As := ((st.take (xA u')).reverse).map (xcv ad)) ⟨hx, hb, hml, hown, hts⟩ (hC _ _ _ _ _ hcall ad ca H.size) ⟨va_cnB (xA u') hts (xgoodT (xW_in u')) (by unfold xW; rw [hret]) rfl rfl (xN_of (xNl c1) (htn _ (xNl c1))) (hts _ m6) ⟨m4.1, m4.2, xA_ok hu'⟩ hroom, hname, hts _ c2⟩ ⟨xPre_blind, fun U hU hW => hpt.pre htn hvs hU hW⟩ rfl (by rw [List.length_map, List.length_reverse]; exact hlen) hLL hstk (lv_room (by rw [xcat]; exact hcat)) hd hcell
                    · cases h
                  · cases h
                · cases h
              · split at h
                · rename_i hkd
                  obtain ⟨rfl, rfl⟩ := hkd
                  obtain ⟨c1, c2, c3, c4⟩ := hPC
                  split at h
                  · rename_i n dp a1 sp a0 r'
                    split at h
                    · rename_i hcc
                      obtain ⟨hcat, ha0, ha1⟩ := hcc
                      split at h
                      · rename_i n0 g0 n1 g1 hf0 hf1
                        split at h
                        · cases h
                        · rename_i hcond
                          have hw0 := xws_at (ad := ad) (ca := ca) (f := σ.2.2) ha0
                          rw [hf0] at hw0
                          have hw1 := xws_at (ad := ad) (ca := ca) (f := σ.2.2) ha1
                          rw [hf1] at hw1
                          have hK2 : va_K D vwCl [(ca a0, .int), (ca a1, .int)] s := by
                            refine ⟨hpt.1.2.2.2.1.1, fun k q hq => ?_⟩
                            match k, hq with
                            | 0, hq => cases hq; exact hpt.1.2.2.2.1.2 a0 ha0 _ _ _ hf0
                            | 1, hq => cases hq; exact hpt.1.2.2.2.1.2 a1 ha1 _ _ _ hf1
                            | k + 2, hq => simp at hq
                          have hcat' : ((r'.map (xcv ad)).map fun v => v.category).sum ≤ 8 := by rw [xcat]; exact hcat
                          refine va_copyi (ty := .int) hx hb (hml.trans hLL.symm) hown (hts _ c1) (hts _ c2) (hts _ c3) (hts _ c4) hK2 hpt.1.1 hpt.1.2.1 hpt.1.2.2.1 a0 a1 0 1 hw0 hw1 rfl rfl rfl (fun q => hcond (Or.inr (Or.inr (Or.inl q)))) (fun q => hcond (Or.inr (Or.inl q))) (fun q => hcond (Or.inl q)) (Nat.not_lt.mp fun q => hcond (Or.inr (Or.inr (Or.inr (Or.inl q))))) (Nat.not_lt.mp fun q => hcond (Or.inr (Or.inr (Or.inr (Or.inr q))))) (fun _ _ => rfl) (by omega) ?_ hd (fun H1 locs1 q1 q2 q3 => ?_)
                          · have : nativeFrameWords "java/lang/System" "arraycopy" 5 = 7 := by decide
                            omega
                          · have q9 := hk _ _ H1 locs1 ad ca h
                            exact q9 (hpt.write (x := .inr (0, n1, .inl (va_cpy g0 g1 sp.toNatClampNeg dp.toNatClampNeg n.toNatClampNeg))) ha1 (fun w hw => hpt.2.2.1 w (by simp [hw])) q1 q2 q3 (fun t n' b q => by cases q; exact ⟨_, _, hf1⟩) (fun _ _ q => nomatch q) (fun t k g' q => by cases q))
                      · cases h
                    · cases h
                  · cases h
                · cases h
  · cases h
theorem xB_end (hpt : xPt D A s nL n0 s0 ad0 ca0 H locs ls ad ca lo st σ) {t : State} (ht : t.heap = H) (hW : s.WarmedH t.vm) : xB D A (ad, ca) σ t := ⟨by rw [ht]; exact hpt.1.1, hpt.1.2.1, xKn_moved hW.alike hpt.1.2.2.2.1, hpt.1.2.2.2.2⟩
theorem xgo_ok {N d : Nat} {rv : Option Value} {σ0 σf : XS} (hC : ∀ u' vs σ rv σ', xcall N d u' vs σ = some (rv, σ') → xMet l D d u' vs σ rv σ') (F : xFix p s m args meth c u) (hr : meth.sig.returnType = (xM u).2.2.2.2) (hlocks : meth.locks = false) (hA : ∀ q, s.heap.size ≤ q → A q) :
    ∀ (n pc : Nat) (lo : XL) (st : List Value) (σ : XS) (H : Heap) (locs : List Loc) (ls : Array Slot) (ad : Nat → Nat) (ca : Nat → ClassId), xgo (xcall N d) u n pc lo st σ = some (rv, σf) → xPt D A s (xM u).2.2.2.1 σ0.1 σ0.2.1 ad0 ca0 H locs ls ad ca lo st σ →
      W p l e (xRoom (d + 1) σ0 σf) s m args below meth c H locs (σ.1 - σ0.1) (σ.2.1 - σ0.2.1) (MQ below (xPost D ad0 ca0 σ0.1 rv σf A) args s (σf.1 - σ0.1) (σf.2.1 - σ0.2.1) A) (F0 m pc ls (st.map (xcv ad))) := by
  intro n
  induction n with
  | zero => intro pc lo st σ H locs ls ad ca h; cases h
  | succ n ih =>
    intro pc lo st σ H locs ls ad ca h hpt
    have F' := F
    obtain ⟨hx, hb, hml, hown, hts, htn, hini⟩ := F
    unfold xgo at h
    split at h
    · cases h
    · rename_i i len hi
      obtain ⟨hd, hl⟩ := xIn_ok hi
      have hcm : ∀ u vs σ rv σ', xcall N d u vs σ = some (rv, σ') → σ.1 ≤ σ'.1 ∧ σ.2.1 ≤ σ'.2.1 := fun u vs σ rv σ' h => xcall_mono d u vs σ rv σ' h
      split at h
      · cases of_decide_eq_true hl
        split at h
        · split at h
          · rename_i ty hty
            split at h
            · rename_i hf
              cases h
              exact W.zret hx hb (hr.trans hty) (xfit_ok ad hf).1 (fun t ht hW => ⟨⟨_, (ad, ca), rfl, ⟨rfl, hpt.2.2.2.2.2⟩, xB_end hpt ht hW⟩, hpt.1.2.2.1.F ht⟩) hpt.1.2.2.1.2.2 hd
            · cases h
          · cases h
        · cases h
      · cases of_decide_eq_true hl
        split at h
        · split at h
          · rename_i ty hty
            split at h
            · rename_i hf
              cases h
              refine W.aret hx hb (hr.trans hty) ?_ (Or.inr ⟨_, rfl⟩) (fun t ht hW => ⟨⟨(ad, ca), _, rfl, ⟨hpt.2.2.2.2.2, hpt.top⟩, rfl, xB_end hpt ht hW⟩, hpt.1.2.2.1.F ht⟩) hpt.1.2.2.1.2.2 hd
              cases ty with
              | object n => exact Or.inl ⟨n, rfl⟩
              | array t => exact Or.inr ⟨t, rfl⟩
              | _ => cases hf
            · cases h
          · cases h
        · cases h
      · cases of_decide_eq_true hl
        split at h
        · split at h
          · rename_i hty
            cases h
            exact W.vret hx hb (hr.trans hty) (fun t ht hW => ⟨⟨(ad, ca), rfl, hpt.2.2.2.2.2, xB_end hpt ht hW⟩, hpt.1.2.2.1.F ht⟩) hpt.1.2.2.1.2.2 hd
          · cases h
        · cases h
      · rename_i j
        cases of_decide_eq_true hl
        exact xinv_ok (vk := 0) hC F' hA hd h hpt (fun st' σ' H' locs' ad' ca' h' hp => ih _ _ _ _ _ _ _ _ _ h' hp) (fun st' σ' h' => ⟨Nat.sub_le_sub_right (xgo_mono hcm _ _ _ _ _ h').1 _, Nat.sub_le_sub_right (xgo_mono hcm _ _ _ _ _ h').2 _⟩) (Nat.le_refl _) (Nat.le_refl _)
      · rename_i j
        cases of_decide_eq_true hl
        exact xinv_ok (vk := 1) hC F' hA hd h hpt (fun st' σ' H' locs' ad' ca' h' hp => ih _ _ _ _ _ _ _ _ _ h' hp) (fun st' σ' h' => ⟨Nat.sub_le_sub_right (xgo_mono hcm _ _ _ _ _ h').1 _, Nat.sub_le_sub_right (xgo_mono hcm _ _ _ _ _ h').2 _⟩) (Nat.le_refl _) (Nat.le_refl _)
      · rename_i j
        cases of_decide_eq_true hl
        exact xinv_ok (vk := 2) hC F' hA hd h hpt (fun st' σ' H' locs' ad' ca' h' hp => ih _ _ _ _ _ _ _ _ _ h' hp) (fun st' σ' h' => ⟨Nat.sub_le_sub_right (xgo_mono hcm _ _ _ _ _ h').1 _, Nat.sub_le_sub_right (xgo_mono hcm _ _ _ _ _ h').2 _⟩) (Nat.le_refl _) (Nat.le_refl _)
      · exact xst_ok F' hA hd hl h hpt (fun pc' lo' st' σ' H' locs' ls' ad' ca' h' hp => ih _ _ _ _ _ _ _ _ _ h' hp) (fun pc' lo' st' σ' h' => by
          have := xgo_mono hcm _ _ _ _ _ h'
          exact ⟨Nat.sub_le_sub_right this.1 _, Nat.sub_le_sub_right this.2 _⟩)
end XGO
end
section
/-! SOUND: what the abstract machine answers, the machine answers -/
theorem xargs {vs : List Value} (h : ∀ v ∈ vs, v.category = 1) : ∀ (k i : Nat) (v : Value), vs[i]? = some v → (k + i, v) ∈ lv_args k vs := by
  induction vs with
  | nil => intro k i v hv; simp at hv
  | cons x vs ih =>
    intro k i v hv
    have hx := h x List.mem_cons_self
    unfold lv_args
    rw [if_neg (by omega)]
    cases i with
    | zero =>
      simp at hv
      subst hv
      exact List.mem_cons_self
    | succ i =>
      refine List.mem_cons_of_mem _ ?_
      have := ih (fun v hv => h v (List.mem_cons_of_mem _ hv)) (k + 1) i v (by simpa using hv)
      rw [show k + (i + 1) = k + 1 + i by omega]
      exact this
theorem xsl_len {vs : List Value} (h : ∀ v ∈ vs, v.category = 1) : (lg_sl vs).length = vs.length := by
  induction vs with
  | nil => rfl
  | cons x vs ih =>
    have hx := h x List.mem_cons_self
    have := ih (fun v hv => h v (List.mem_cons_of_mem _ hv))
    simp only [lg_sl, List.flatMap_cons] at this ⊢
    rw [if_neg (by omega), List.length_append, this]
    simp
    omega
set_option maxHeartbeats 1000000 in
theorem xcall_ok (l : Launch) (D : va_G) (N : Nat) : ∀ (d u : Nat) (vs : List Value) (σ : XS) (rv : Option Value) (σ' : XS), xcall N d u vs σ = some (rv, σ') → xMet l D d u vs σ rv σ' := by
  intro d
  induction d with
  | zero => intro u vs σ rv σ' h; cases h
  | succ d ih =>
    intro u vs σ rv σ' h
    unfold xcall at h
    split at h
    · rename_i hle
      intro ad ca sz
      obtain ⟨m1, m2, m3, m4, m5, m6⟩ := xM_ok u
      refine Met.ofW (cc := (xM u).2.2.1) (maxL := (xM u).2.2.2.1) (ret := (xM u).2.2.2.2) m3 rfl ?_
      intro p e s m args below meth c s₁ B hml hv
      obtain ⟨rfl, hsz, ⟨hP, hD0, hK, hcl⟩, hN, hok⟩ := hv
      subst hsz
      have hts0 := atoms_spec (ws := xW u) B.pre
      have hown : s.vm.findClass (xM u).2.1.cls = some m.cls := findClass_of_methodNamed B.named
      have F : xFix p s m (vs.map (xcv ad)).toArray meth c u := ⟨B.exec, B.bytes, hml, by rw [m2]; exact hown, fun w hw => hts0 w (List.mem_cons_of_mem _ hw), fun w hw => xN_use hw (hN w hw), fun hi => ((name_of_methodNamed B.named B.method).1).trans (of_decide_eq_true hi)⟩
      have hcat : ∀ v ∈ vs.map (xcv ad), v.category = 1 := fun v hv => by
        obtain ⟨w, hw, rfl⟩ := List.mem_map.mp hv
        rw [xcv_cat]
        exact xok_cat (hok w hw)
      have hl := lv_entry (vs.map (xcv ad)) (n := (xM u).2.2.2.1) (by rw [xsl_len hcat, List.length_map]; exact hle)
      rw [lg_entry_eq]
      generalize (lg_sl (vs.map (xcv ad)) ++ List.replicate ((xM u).2.2.2.1 - (lg_sl (vs.map (xcv ad))).length) Slot.unset).toArray = ls at hl ⊢
      have hpt : xPt D (va_A (xws ad ca σ.2.2 σ.1) s.heap.size) s (xM u).2.2.2.1 σ.1 σ.2.1 ad ca s.heap [] ls ad ca (vs.map some ++ List.replicate ((xM u).2.2.2.1 - vs.length) none) [] σ := by
        refine ⟨⟨hP, hD0.self, va_S.rf, hK, hcl⟩, ⟨hl.1, hl.2.1, by simp; omega, fun i v hi => ?_⟩, fun v hv => by simp at hv, Nat.le_refl _, Nat.le_refl _, fun i _ => ⟨rfl, rfl⟩⟩
        have hi' : vs[i]? = some v := by
          by_cases hlt : i < vs.length
          · rw [List.getElem?_append_left (by rw [List.length_map]; exact hlt), List.getElem?_map] at hi
            cases hv : vs[i]? with
            | none => rw [hv] at hi; cases hi
            | some w => rw [hv] at hi; cases hi; rfl
          · rw [List.getElem?_append_right (by rw [List.length_map]; omega)] at hi
            rw [List.getElem?_replicate] at hi
            split at hi
            · cases hi
            · cases hi
        refine ⟨?_, hok v (List.mem_of_getElem? hi')⟩
        have := xargs hcat 0 i (xcv ad v) (by rw [List.getElem?_map, hi']; rfl)
        rw [Nat.zero_add] at this
        exact hl.2.2 _ this
      have hW := xgo_ok (l := l) (e := e) (below := below) (D := D) (N := N) (σ0 := σ) ih F B.returns B.notSynchronized (fun q h => Or.inr h) N 0 _ [] σ s.heap [] ls ad ca h hpt
      rw [Nat.sub_self, Nat.sub_self] at hW
      exact hW
    · cases h
end
section
/-! ===== BEGIN exceptions that leave a method, and their catching by the caller (launches without stack traces) ===== -/
section VXA
/-! The laws vx_back, vx_callV, vx_callS, vx_callSW, vx_throw0, vx_throwS follow proofs of the library, with one case more: JvmDerived/Free/Laws.lean (Back.of_free), Shelf42/LK1.lean (callV, callS), Shelf/KitTraced.lean (throwNew0V, throwNewS). -/
/-- where a method has thrown q: the class by its name, the cell, what was written, the world -/
def vx_T (XC : String → State → State → Prop) (st : State) (q : Addr) (t : State) (mc ms : Nat) (free : Addr → Prop) : Prop :=
  ∃ (E : String) (ce : Cell) (L : List Loc), XC E st t ∧ t.heap[q]? = some ce ∧ ce.vm = .none ∧ st.vm.findClass E = some ce.cls ∧ st.WarmedH t.vm ∧ st.sameButNew ({ t with vm := st.vm } : State) L mc ms ∧ ∀ z ∈ L, free z.base
def vx_Q (Qc : Array Value → State → Outcome → State → Prop) (XC : String → State → State → Prop) (mc ms : Nat) (free : Addr → Prop) : Array Value → State → Outcome → State → Prop := fun a st o t =>
  (Qc a st o t ∧ ∃ L, FrameEnd st o t L mc ms ∧ ∀ q ∈ L, free q.base) ∨ ∃ q, o = .threw q ∧ vx_T XC st q t mc ms free
/-- a callee that returns or throws -/
def vx_Met (l : Launch) (y : MethodName) (ws : List Cond) (rm : Room) (Pc : Array Value → State → Prop) (Qc : Array Value → State → Outcome → State → Prop) (XC : String → State → State → Prop) (mc ms : Nat) (free : Addr → Prop) : Prop :=
  MetFree l y (headSpec ws rm) Pc (fun _ _ _ _ _ => True) (vx_Q Qc XC mc ms free)
def vx_Post (XC : String → State → State → Prop) (mc ms : Nat) (free : Addr → Prop) : Pt → Array Value → Addr → Pt → Prop := fun A a q B =>
  ∃ (g : JFrame) (mk : MethodId) (t : State) (L : List Loc) (E : String) (ce : Cell), B.U.heap = t.heap ∧ B.U.vm = t.vm ∧ XC E (A.U.calling g mk a) t ∧ t.heap[q]? = some ce ∧ ce.vm = .none ∧ A.U.vm.findClass E = some ce.cls ∧ B.locs = A.locs ++ L ∧ (∀ z ∈ L, free z.base) ∧ B.cells = A.cells + mc ∧ B.slots = A.slots + ms
def vx_Back (l : Launch) (R : Room) (p : Program) (e : Env) (below : List Frame) (s : State) (sargs : Array Value) (y : MethodName) (len W9 : Nat)
    (Pre : Pt → Array Value → Prop) (Post : Pt → Array Value → Option Value → Pt → Prop) (PostX : Pt → Array Value → Addr → Pt → Prop) : Prop :=
  ∀ (m : MethodId) (meth : Method) (c : Code) (A : Pt) (g : JFrame) (ig : Instr) (mk : MethodId) (a : Array Value),
    Stand p l e R s m sargs below meth c A.U A.locs A.cells A.slots → g.method = m → g.locals.size = c.maxLocals → decode c.code g.pc = .ok (ig, len) →
    2 * g.monitorRoom + (g.stack.map fun v => v.category).sum ≤ W9 → A.U.methodNamed? y = some mk → Pre A a →
    (∃ (v : Option Value) (B : Pt), Stand p l e R s m sargs below meth c B.U B.locs B.cells B.slots ∧ Post A a v B ∧
      Steps p.tables e below (doInvoke e (A.U.setTop g) [] mk a).1 (B.U.setTop { g with pc := g.pc + len, stack := v.toList ++ g.stack })) ∨
    (∃ (q : Addr) (B : Pt), Stand p l e R s m sargs below meth c B.U B.locs B.cells B.slots ∧ PostX A a q B ∧
      Steps p.tables e below (doInvoke e (A.U.setTop g) [] mk a).1 ((B.U.setTop g).pushFrame (.throwing q)))
section Payer
variable {l : Launch} {R : Room} {p : Program} {e : Env} {below : List Frame} {s : State} {sargs : Array Value} {y : MethodName} {len W9 : Nat}
theorem vx_back {ws : List Cond} {rm : Room} {Pc : Array Value → State → Prop} {Qc : Array Value → State → Outcome → State → Prop} {XC : String → State → State → Prop} {mc ms : Nat} {free : Addr → Prop} {bytes : ByteArray} {maxL : Nat} {ret : Option FieldType}
    (hM : vx_Met l y ws rm Pc Qc XC mc ms free) (hblind : FrameBlind Pc) (hrc : rm.cells = mc) (hrs : rm.slots = ms)
    (hframes : rm.frames + 1 ≤ R.frames) (hlocals : W9 + (maxL + 11) + rm.locals ≤ R.locals)
    (hws : ∀ w ∈ ws, ∀ a' U, s.WarmedH U.vm → w.before a' U = true) (hcode : Cond.code y bytes maxL ret ∈ ws) (hinit : ∀ a' U, s.WarmedH U.vm → (Cond.initialized y.cls).before a' U = true) :
    vx_Back l R p e below s sargs y len W9 (PreOf R mc ms Pc) (PostOf Qc mc ms free) (vx_Post XC mc ms free) := by
  intro m meth c A g ig mk a X hg hsize hdg hW hn hp
  have h1 : (headSpec ws rm).pre.before a A.U = true := atoms_intro fun w hw => hws w hw _ _ X.warmed
  have h2 : (Cond.code y bytes maxL ret).before a A.U = true := hws _ hcode _ _ X.warmed
  have h3 : (Cond.initialized y.cls).before a A.U = true := hinit _ _ X.warmed
  have h4 : A.cells + (headSpec ws rm).room.cells ≤ R.cells := by rw [show (headSpec ws rm).room.cells = mc from hrc]; exact hp.1
  have h5 : A.slots + (headSpec ws rm).room.slots ≤ R.slots := by rw [show (headSpec ws rm).room.slots = ms from hrs]; exact hp.2.1
  have hPc : Pc a (A.U.calling g mk a) := hblind _ _ _ _ hp.2.2
  obtain ⟨U, Ls, c0, s0⟩ := A
  dsimp only [Pt.U, Pt.locs, Pt.cells, Pt.slots] at h1 h2 h3 h4 h5 X hn hPc ⊢
  obtain ⟨methY, cY, hmY, hcY, -, hlY, -, -, -, -⟩ := Cond.code_spec hn h2
  obtain ⟨kY, hkY, -⟩ := className_of_methodNamed hn
  have hinitY : kY.init = .initialized := Cond.initialized_spec (findClass_of_methodNamed hn) hkY h3
  have h : At U g.method c below := by rw [hg]; exact X.here
  have hlocals9 : W9 + (maxL + 11) + (headSpec ws rm).room.locals ≤ R.locals := hlocals
  have happ : (headSpec ws rm).appliesLoose y e.platform (U.calling g mk a) = true :=
    Spec.appliesLoose_calling (g := g) h hdg hn hkY hinitY
      (X.room_calling (g := g) (R' := (headSpec ws rm).room) hsize hmY hcY hframes (by rw [hlY]; omega) h4 h5) h1
  obtain ⟨mid, hmid⟩ := h.above
  have hfr : (U.setTop g).frames = (.java g :: mid) ++ below := by rw [State.frames_setTop' g h.top, hmid]; rfl
  obtain ⟨o, s₂, hsteps, -, hend, hq⟩ := Steps.callFree hM p X.admits X.cas X.clock (acts := []) hfr happ hPc trivial
  have hq' : vx_Q Qc XC mc ms free a (U.calling g mk a) o s₂ := hq
  rw [State.frames_setTop' g h.top] at hend
  obtain ⟨g₀, hg0⟩ := Option.isSome_iff_exists.mp h.top
  obtain ⟨r, hr⟩ := State.topJava?_eq_some.mp hg0
  have hr' : (({ U with heap := s₂.heap, slotsUsed := s₂.slotsUsed } : State).setVm s₂.vm).frames = .java g₀ :: r := hr
  rcases hq' with ⟨hqc, L, hfe, hL⟩ | ⟨q, rfl, E, ce, L, hx, hce, hcv, hcl, hW₂, hsm, hL⟩
  · obtain ⟨⟨v, rfl⟩, hW₂, e2, q2, q3, q4, q5, q6⟩ := id hfe
    have e3 : s₂ = ({ (U.calling g mk a).setFrames s₂.frames with heap := s₂.heap, slotsUsed := s₂.slotsUsed } : State).setVm s₂.vm := by
      have : s₂ = ({ s₂ with vm := (U.calling g mk a).vm } : State).setVm s₂.vm := rfl
      rw [e2] at this
      exact this
    obtain ⟨c₂, i₂, len₂, hc₂, hd₂, hf₂⟩ := hend
    have hW' : U.WarmedH s₂.vm := hW₂
    have hcc : c₂ = c := by
      have h1 : s₂.code? g.method = U.code? g.method := by
        rw [State.code?_eq, State.code?_eq, hW'.alike.method?]
      exact Option.some.inj (hc₂.symm.trans (h1.trans h.code))
    subst hcc
    have hlen : len₂ = len := by rw [hdg] at hd₂; cases hd₂; rfl
    subst hlen
    have hs₂ : s₂ = (({ U with heap := s₂.heap, slotsUsed := s₂.slotsUsed } : State).setVm s₂.vm).setTop { g with pc := g.pc + len₂, stack := v.toList ++ g.stack } := by
      refine e3.trans ?_
      rw [hf₂, State.calling_eq h.top, State.setFrames_setFrames, State.setTop_of_frames _ hr', hr]
      rfl
    have hsame : U.sameButNew ({ U with heap := s₂.heap, slotsUsed := s₂.slotsUsed } : State) L mc ms := by
      refine ⟨?_, q2, q3, q4, q5, q6⟩
      obtain ⟨t, ht, -⟩ := State.frames_cons hr
      show ({ U with heap := s₂.heap, slotsUsed := s₂.slotsUsed } : State) = { U.setFrames U.frames with heap := s₂.heap, slotsUsed := s₂.slotsUsed }
      rw [State.setFrames_self ht]
    subst hg
    refine Or.inl ⟨v, ⟨(({ U with heap := s₂.heap, slotsUsed := s₂.slotsUsed } : State).setVm s₂.vm), Ls ++ L, c0 + mc, s0 + ms⟩,
      ⟨X.admits, X.cas, X.clock, X.frames, X.room, X.hears, X.method, X.code, (X.here.setHeapUsed s₂.heap s₂.slotsUsed).setVm hW'.alike, X.tail, State.WarmedH.trans X.warmed hW', X.limits, X.bytes, X.same.trans (hsame.setVm s.vm)⟩,
      ⟨g, mk, s₂, L, rfl, rfl, hqc, rfl, hL, rfl, rfl⟩, ?_⟩
    show Steps p.tables e below _ ((({ U with heap := s₂.heap, slotsUsed := s₂.slotsUsed } : State).setVm s₂.vm).setTop { g with pc := g.pc + len₂, stack := v.toList ++ g.stack })
    rw [← hs₂]
    exact hsteps
  · obtain ⟨e2, q2, q3, q4, q5, q6⟩ := id hsm
    have e3 : s₂ = ({ (U.calling g mk a).setFrames s₂.frames with heap := s₂.heap, slotsUsed := s₂.slotsUsed } : State).setVm s₂.vm := by
      have : s₂ = ({ s₂ with vm := (U.calling g mk a).vm } : State).setVm s₂.vm := rfl
      rw [e2] at this
      exact this
    have hf₂ : s₂.frames = .throwing q :: .java g :: U.frames.tail := hend
    have hW' : U.WarmedH s₂.vm := hW₂
    have hs₂ : s₂ = ((({ U with heap := s₂.heap, slotsUsed := s₂.slotsUsed } : State).setVm s₂.vm).setTop g).pushFrame (.throwing q) := by
      refine e3.trans ?_
      rw [hf₂, State.calling_eq h.top, State.setFrames_setFrames, State.pushFrame, State.frames_setTop _ hr', State.setTop_of_frames _ hr', State.setFrames_setFrames, hr]
      rfl
    have hsame : U.sameButNew ({ U with heap := s₂.heap, slotsUsed := s₂.slotsUsed } : State) L mc ms := by
      refine ⟨?_, q2, q3, q4, q5, q6⟩
      obtain ⟨t, ht, -⟩ := State.frames_cons hr
      show ({ U with heap := s₂.heap, slotsUsed := s₂.slotsUsed } : State) = { U.setFrames U.frames with heap := s₂.heap, slotsUsed := s₂.slotsUsed }
      rw [State.setFrames_self ht]
    subst hg
    refine Or.inr ⟨q, ⟨(({ U with heap := s₂.heap, slotsUsed := s₂.slotsUsed } : State).setVm s₂.vm), Ls ++ L, c0 + mc, s0 + ms⟩,
      ⟨X.admits, X.cas, X.clock, X.frames, X.room, X.hears, X.method, X.code, (X.here.setHeapUsed s₂.heap s₂.slotsUsed).setVm hW'.alike, X.tail, State.WarmedH.trans X.warmed hW', X.limits, X.bytes, X.same.trans (hsame.setVm s.vm)⟩,
      ⟨g, mk, s₂, L, E, ce, rfl, rfl, hx, hce, hcv, hcl, rfl, hL, rfl, rfl⟩, ?_⟩
    show Steps p.tables e below _ (((({ U with heap := s₂.heap, slotsUsed := s₂.slotsUsed } : State).setVm s₂.vm).setTop g).pushFrame (.throwing q))
    rw [← hs₂]
    exact hsteps
end Payer
section Calls
variable {p : Program} {l : Launch} {e : Env} {R : Room} {s : State} {m : MethodId} {args : Array Value} {below : List Frame} {meth : Method} {c : Code} {T : State} {locs : List Loc} {cells slots : Nat}
theorem vx_callV (X : Stand p l e R s m args below meth c T locs cells slots) (hexec : p.tables.exec = Jvm.exec) {own C : String} {index : Nat} {y : MethodName} {bytes : ByteArray} {maxL : Nat} {ret : Option FieldType}
    (hown : s.vm.findClass own = some m.cls) (hlink : (Cond.methodLink own index y).before args s = true) (hinst : (Cond.instanceMethod y).before args s = true) (hsel : (Cond.selects C y y).before args s = true)
    (hcode : (Cond.code y bytes maxL ret).before args s = true) (hy : y.cls ≠ "java/lang/invoke/MethodHandle" ∧ y.cls ≠ "java/lang/invoke/VarHandle")
    {W9 : Nat} {Pre : Pt → Array Value → Prop} {Post : Pt → Array Value → Option Value → Pt → Prop} {PostX : Pt → Array Value → Addr → Pt → Prop} (hK : vx_Back l R p e below s args y 3 W9 Pre Post PostX)
    {b : Addr} {cellB : Cell} (hcell : T.heap[b]? = some cellB) (hobj : cellB.vm.isStatics = false) (hcls : s.vm.findClass C = some cellB.cls)
    {g : JFrame} (hg : g.method = m) (hsize : g.locals.size = c.maxLocals) {argsL rest : List Value} (hlen : ∀ sig, parseMethodDescriptor y.desc = some sig → argsL.length = sig.parameters.length)
    (hstack : g.stack = argsL.reverse ++ .ref b :: rest) (hW : 2 * g.monitorRoom + (rest.map fun v => v.category).sum ≤ W9) (hdg : decode c.code g.pc = .ok (.invokevirtual index, 3))
    (hpre : ∀ vm₁, s.WarmedH vm₁ → Pre ⟨T.setVm vm₁, locs, cells, slots⟩ (Value.ref b :: argsL).toArray) :
    (∃ (v : Option Value) (vm₁ : Vm) (B : Pt), s.WarmedH vm₁ ∧ Stand p l e R s m args below meth c B.U B.locs B.cells B.slots ∧ Post ⟨T.setVm vm₁, locs, cells, slots⟩ (Value.ref b :: argsL).toArray v B ∧
      ∀ target, Steps p.tables e below (B.U.setTop { g with pc := g.pc + 3, stack := v.toList ++ rest }) target → Steps p.tables e below (T.setTop g) target) ∨
    (∃ (q : Addr) (vm₁ : Vm) (B : Pt), s.WarmedH vm₁ ∧ Stand p l e R s m args below meth c B.U B.locs B.cells B.slots ∧ PostX ⟨T.setVm vm₁, locs, cells, slots⟩ (Value.ref b :: argsL).toArray q B ∧
      Steps p.tables e below (T.setTop g) ((B.U.setTop { g with stack := rest }).pushFrame (.throwing q))) := by
  obtain ⟨mk, methM, hnamed, hmethM, hstM, habM⟩ := Cond.instanceMethod_spec hinst
  obtain ⟨methM', cM, hmethM', -, -, -, -, -, -, hsigM⟩ := Cond.code_spec hnamed hcode
  cases hmethM.symm.trans hmethM'
  obtain ⟨c2, r2, m2, q1, q2, q3, q4, kP, hkP, hkPi⟩ := Cond.selects_spec hsel
  cases hcls.symm.trans q1
  cases (State.methodFound?_of_named hnamed hy).symm.trans q2
  cases hnamed.symm.trans q3
  have hselP : selectMethod e.platform s.vm cellB.cls mk = .method mk := by rw [Launch.admits_selectMethod X.admits]; exact q4
  obtain ⟨vm₁, X₁, hstep₁⟩ := X.invokevirtual hexec hown hlink hnamed hmethM hstM hkP hkPi hy (a := b) (cell := cellB) hcell
    (fun z h => by rw [h] at hobj; cases hobj) hselP hmethM habM hkP hkPi (g := g) hg (argsL := argsL) (rest := rest) (hlen _ hsigM) hstack hdg
  rcases hK m meth c ⟨T.setVm vm₁, locs, cells, slots⟩ { g with stack := rest } (.invokevirtual index) mk (Value.ref b :: argsL).toArray X₁ hg hsize hdg hW (X₁.named hnamed) (hpre vm₁ X₁.warmed) with ⟨v, B, X', hpost, hsteps⟩ | ⟨q, B, X', hpost, hsteps⟩
  · exact Or.inl ⟨v, vm₁, B, X₁.warmed, X', hpost, fun target h => hstep₁ _ fun acts => by rw [doInvoke_state]; exact hsteps.trans h⟩
  · exact Or.inr ⟨q, vm₁, B, X₁.warmed, X', hpost, hstep₁ _ fun acts => by rw [doInvoke_state]; exact hsteps⟩
theorem vx_callS (X : Stand p l e R s m args below meth c T locs cells slots) (hexec : p.tables.exec = Jvm.exec) {own : String} {index : Nat} {y : MethodName} {bytes : ByteArray} {maxL : Nat} {ret : Option FieldType}
    (hown : s.vm.findClass own = some m.cls) (hlink : (Cond.methodLink own index y).before args s = true) (hstat : (Cond.static y).before args s = true) (hinit : (Cond.initialized y.cls).before args s = true)
    (hcode : (Cond.code y bytes maxL ret).before args s = true) (hy : y.cls ≠ "java/lang/invoke/MethodHandle" ∧ y.cls ≠ "java/lang/invoke/VarHandle")
    {W9 : Nat} {Pre : Pt → Array Value → Prop} {Post : Pt → Array Value → Option Value → Pt → Prop} {PostX : Pt → Array Value → Addr → Pt → Prop} (hK : vx_Back l R p e below s args y 3 W9 Pre Post PostX)
    {g : JFrame} (hg : g.method = m) (hsize : g.locals.size = c.maxLocals) {argsL rest : List Value} (hlen : ∀ sig, parseMethodDescriptor y.desc = some sig → argsL.length = sig.parameters.length)
    (hstack : g.stack = argsL.reverse ++ rest) (hW : 2 * g.monitorRoom + (rest.map fun v => v.category).sum ≤ W9) (hdg : decode c.code g.pc = .ok (.invokestatic index, 3))
    (hpre : ∀ vm₁, s.WarmedH vm₁ → Pre ⟨T.setVm vm₁, locs, cells, slots⟩ argsL.toArray) :
    (∃ (v : Option Value) (vm₁ : Vm) (B : Pt), s.WarmedH vm₁ ∧ Stand p l e R s m args below meth c B.U B.locs B.cells B.slots ∧ Post ⟨T.setVm vm₁, locs, cells, slots⟩ argsL.toArray v B ∧
      ∀ target, Steps p.tables e below (B.U.setTop { g with pc := g.pc + 3, stack := v.toList ++ rest }) target → Steps p.tables e below (T.setTop g) target) ∨
    (∃ (q : Addr) (vm₁ : Vm) (B : Pt), s.WarmedH vm₁ ∧ Stand p l e R s m args below meth c B.U B.locs B.cells B.slots ∧ PostX ⟨T.setVm vm₁, locs, cells, slots⟩ argsL.toArray q B ∧
      Steps p.tables e below (T.setTop g) ((B.U.setTop { g with stack := rest }).pushFrame (.throwing q))) := by
  obtain ⟨mk, hnamed⟩ := Cond.code_named hcode
  obtain ⟨methM, cM, hmethM, -, -, -, -, -, -, hsigM⟩ := Cond.code_spec hnamed hcode
  have hstatic : methM.isStatic = true := Cond.static_spec hnamed hmethM hstat
  obtain ⟨kP, hkP, -⟩ := className_of_methodNamed hnamed
  have hinitP : kP.init = .initialized := Cond.initialized_spec (findClass_of_methodNamed hnamed) hkP hinit
  obtain ⟨vm₁, X₁, hstep₁⟩ := X.invokestatic hexec hown hlink hnamed hmethM hstatic hkP hinitP hy (g := g) hg (argsL := argsL) (rest := rest) (hlen _ hsigM) hstack hdg
  rcases hK m meth c ⟨T.setVm vm₁, locs, cells, slots⟩ { g with stack := rest } (.invokestatic index) mk argsL.toArray X₁ hg hsize hdg hW (X₁.named hnamed) (hpre vm₁ X₁.warmed) with ⟨v, B, X', hpost, hsteps⟩ | ⟨q, B, X', hpost, hsteps⟩
  · exact Or.inl ⟨v, vm₁, B, X₁.warmed, X', hpost, fun target h => hstep₁ _ fun acts => by rw [doInvoke_state]; exact hsteps.trans h⟩
  · exact Or.inr ⟨q, vm₁, B, X₁.warmed, X', hpost, hstep₁ _ fun acts => by rw [doInvoke_state]; exact hsteps⟩
end Calls
theorem vx_cls {s : State} {T : State} {vm₁ : Vm} {E : String} {k : ClassId} (hW : s.WarmedH vm₁) (h : (T.setVm vm₁).vm.findClass E = some k) : s.vm.findClass E = some k := by
  have h1 : vm₁.findClass E = some k := h
  rw [hW.alike.findClass] at h1
  exact h1
/-- the method's frame g, with q thrown over it -/
def vx_W (p : Program) (l : Launch) (e : Env) (R : Room) (s : State) (m : MethodId) (args : Array Value) (below : List Frame) (meth : Method) (c : Code) (H : Heap) (locs : List Loc) (cells slots : Nat) (Q : State → Prop) (g : JFrame) (q : Addr) : Prop :=
  ∀ T : State, T.heap = H → Stand p l e R s m args below meth c T locs cells slots → ∃ t, Steps p.tables e below ((T.setTop g).pushFrame (.throwing q)) t ∧ Q t
def vx_Run (p : Program) (l : Launch) (e : Env) (R : Room) (s : State) (m : MethodId) (args : Array Value) (below : List Frame) (meth : Method) (c : Code) (H : Heap) (locs : List Loc) (cells slots mc ms : Nat) (g : JFrame) (rest : List Value) (Qa : State → Outcome → State → Prop) (XC : String → State → State → Prop) (free : Addr → Prop) : Prop :=
  ∀ T : State, T.heap = H → Stand p l e R s m args below meth c T locs cells slots →
    (∃ (v : Option Value) (st₀ t T' : State) (L : List Loc), st₀.heap = H ∧ Stand p l e R s m args below meth c T' (locs ++ L) (cells + mc) (slots + ms) ∧ (∀ q ∈ L, free q.base) ∧ T'.heap = t.heap ∧ T'.vm = t.vm ∧ Qa st₀ (.returned v) t ∧
      Goes p e below T g T' { g with pc := g.pc + 3, stack := v.toList ++ rest }) ∨
    (∃ (q : Addr) (st₀ t T' : State) (L : List Loc) (E : String) (ce : Cell), st₀.heap = H ∧ Stand p l e R s m args below meth c T' (locs ++ L) (cells + mc) (slots + ms) ∧ (∀ z ∈ L, free z.base) ∧ T'.heap = t.heap ∧ T'.vm = t.vm ∧ XC E st₀ t ∧ t.heap[q]? = some ce ∧ ce.vm = .none ∧ s.vm.findClass E = some ce.cls ∧
      Steps p.tables e below (T.setTop g) ((T'.setTop { g with stack := rest }).pushFrame (.throwing q)))
def vx_X {S : Type} (px : S → Prop) (B : String → S → State → Prop) (A : Nat → Prop) : String → State → State → Prop := fun E st t => ∃ u : S, px u ∧ B E u t ∧ va_F A st t
section Runs
variable {p : Program} {l : Launch} {e : Env} {R : Room} {s : State} {m : MethodId} {args : Array Value} {below : List Frame} {meth : Method} {c : Code} {H : Heap} {locs : List Loc} {cells slots : Nat}
variable {y : MethodName} {bytes cc : ByteArray} {maxL nL mc ms n index : Nat} {ret : Option FieldType} {ws : List Cond} {rm : Room} {Pc : Array Value → State → Prop} {Qc : Array Value → State → Outcome → State → Prop} {XC : String → State → State → Prop} {free : Addr → Prop} {Ts : List Cond} {own C : String} {b : Addr} {As rest : List Value} {g : JFrame}
theorem vx_callBack (cb : CallB R s args own index y bytes maxL ret ws rm mc ms n) (hM : vx_Met l y ws rm Pc Qc XC mc ms free) (hbl : FrameBlind Pc) : vx_Back l R p e below s args y 3 8 (PreOf R mc ms Pc) (PostOf Qc mc ms free) (vx_Post XC mc ms free) := by
  obtain ⟨hrc, hrs, hfr, hlo, hws, hcw, -, hini, -⟩ := cb
  exact vx_back (bytes := bytes) (maxL := maxL) (ret := ret) hM hbl hrc hrs hfr hlo hws hcw (fun a' U hW => word_at hW (Or.inl (by first | rfl | simp [Cond.onTables, Cond.keeps, Cond.steady])) hini)
theorem vx_runV (S : CallFix p m c cc nL s args Ts own) (hM : vx_Met l y ws rm Pc Qc XC mc ms free) (cw : CallW R s args own C index y bytes maxL ret ws rm mc ms n) (hp : PreV s H C b Pc As)
    (hg : g.method = m) (hn : As.length = n) (hsize : g.locals.size = nL) (hstack : g.stack = As.reverse ++ .ref b :: rest) (hW : 2 * g.monitorRoom + (rest.map fun v => v.category).sum ≤ 8) (hdg : decode cc g.pc = .ok (.invokevirtual index, 3)) (hf : cells + mc ≤ R.cells ∧ slots + ms ≤ R.slots) :
    vx_Run p l e R s m args below meth c H locs cells slots mc ms g rest (Qc (Value.ref b :: As).toArray) XC free := by
  have hK : vx_Back l R p e below s args y 3 8 (PreOf R mc ms Pc) (PostOf Qc mc ms free) (vx_Post XC mc ms free) := vx_callBack cw.1 hM hp.1
  obtain ⟨⟨-, -, -, -, -, -, hcode, -, hy, hlen, hl⟩, hin, hse⟩ := cw
  obtain ⟨hx, hb, hml, ho, -⟩ := S
  obtain ⟨-, ⟨cellB, hcB, hoB, hclB⟩, hPc⟩ := hp
  intro T hT X
  rcases vx_callV X hx (C := C) (bytes := bytes) (maxL := maxL) (ret := ret) ho hl hin hse hcode hy hK (by rw [hT]; exact hcB) hoB hclB hg (hsize.trans hml.symm) (argsL := As) (rest := rest) (fun sig h => hn.trans (hlen sig h)) hstack hW (by rw [hb]; exact hdg)
    (fun vm₁ hW₁ => ⟨hf.1, hf.2, hPc (T.setVm vm₁) hT hW₁⟩) with ⟨v, vm₁, ⟨U', l2, c2, s2⟩, hW₁, X', ⟨g', mk, t, L, e1, e2, hq, h1, hL, h2, h3⟩, st⟩ | ⟨q, vm₁, ⟨U', l2, c2, s2⟩, hW₁, X', ⟨g', mk, t, L, E, ce, e1, e2, hq, hce, hcv, hcl, h1, hL, h2, h3⟩, st⟩
  · dsimp only [Pt.U, Pt.locs, Pt.cells, Pt.slots] at X' e1 e2 h1 h2 h3 st
    subst h1; subst h2; subst h3
    exact Or.inl ⟨v, (T.setVm vm₁).calling g' mk (Value.ref b :: As).toArray, t, U', L, hT, X', hL, e1, e2, hq, st⟩
  · dsimp only [Pt.U, Pt.locs, Pt.cells, Pt.slots] at X' e1 e2 h1 h2 h3 st hcl
    subst h1; subst h2; subst h3
    exact Or.inr ⟨q, (T.setVm vm₁).calling g' mk (Value.ref b :: As).toArray, t, U', L, E, ce, hT, X', hL, e1, e2, hq, hce, hcv, vx_cls hW₁ hcl, st⟩
theorem vx_runS (S : CallFix p m c cc nL s args Ts own) (hM : vx_Met l y ws rm Pc Qc XC mc ms free) (cw : CallB R s args own index y bytes maxL ret ws rm mc ms n ∧ (Cond.static y).before args s = true) (hp : PreS s H Pc As)
    (hg : g.method = m) (hn : As.length = n) (hsize : g.locals.size = nL) (hstack : g.stack = As.reverse ++ rest) (hW : 2 * g.monitorRoom + (rest.map fun v => v.category).sum ≤ 8) (hdg : decode cc g.pc = .ok (.invokestatic index, 3)) (hf : cells + mc ≤ R.cells ∧ slots + ms ≤ R.slots) :
    vx_Run p l e R s m args below meth c H locs cells slots mc ms g rest (Qc As.toArray) XC free := by
  have hK : vx_Back l R p e below s args y 3 8 (PreOf R mc ms Pc) (PostOf Qc mc ms free) (vx_Post XC mc ms free) := vx_callBack cw.1 hM hp.1
  obtain ⟨⟨-, -, -, -, -, -, hcode, hini, hy, hlen, hl⟩, hstt⟩ := cw
  obtain ⟨hx, hb, hml, ho, -⟩ := S
  intro T hT X
  rcases vx_callS X hx (bytes := bytes) (maxL := maxL) (ret := ret) ho hl hstt hini hcode hy hK hg (hsize.trans hml.symm) (argsL := As) (rest := rest) (fun sig h => hn.trans (hlen sig h)) hstack hW (by rw [hb]; exact hdg)
    (fun vm₁ hW₁ => ⟨hf.1, hf.2, hp.2 (T.setVm vm₁) hT hW₁⟩) with ⟨v, vm₁, ⟨U', l2, c2, s2⟩, hW₁, X', ⟨g', mk, t, L, e1, e2, hq, h1, hL, h2, h3⟩, st⟩ | ⟨q, vm₁, ⟨U', l2, c2, s2⟩, hW₁, X', ⟨g', mk, t, L, E, ce, e1, e2, hq, hce, hcv, hcl, h1, hL, h2, h3⟩, st⟩
  · dsimp only [Pt.U, Pt.locs, Pt.cells, Pt.slots] at X' e1 e2 h1 h2 h3 st
    subst h1; subst h2; subst h3
    exact Or.inl ⟨v, (T.setVm vm₁).calling g' mk As.toArray, t, U', L, hT, X', hL, e1, e2, hq, st⟩
  · dsimp only [Pt.U, Pt.locs, Pt.cells, Pt.slots] at X' e1 e2 h1 h2 h3 st hcl
    subst h1; subst h2; subst h3
    exact Or.inr ⟨q, (T.setVm vm₁).calling g' mk As.toArray, t, U', L, E, ce, hT, X', hL, e1, e2, hq, hce, hcv, vx_cls hW₁ hcl, st⟩
end Runs
section Rows
variable {p : Program} {l : Launch} {e : Env} {R : Room} {s : State} {m : MethodId} {args : Array Value} {below : List Frame} {meth : Method} {c : Code} {H : Heap} {locs : List Loc} {cells slots : Nat} {Q : State → Prop}
variable {mc ms : Nat} {free : Addr → Prop} {A0 A1 : Nat → Prop} {H0 : Heap} {a : Array Value} {pc : Nat} {ls : Array Slot} {st0 rest : List Value}
theorem vx_keep {st₀ t T' : State} {L : List Loc} (h0 : st₀.heap = H) (e1 : T'.heap = t.heap) (hS : va_S A0 H0 H locs) (hA : ∀ q, q < H.size → A1 q → A0 q) (hf : ∀ q, free q → A0 q) (hL : ∀ q ∈ L, free q.base) (hF : va_F A1 st₀ t) :
    H.size ≤ T'.heap.size ∧ (∀ q : Nat, q < H.size → ¬ A1 q → T'.heap[q]? = H[q]?) ∧ va_S A0 H0 T'.heap (locs ++ L) := by
  obtain ⟨hz, hk⟩ := hF
  rw [h0] at hz hk
  exact ⟨by rw [e1]; exact hz, fun q h1 h2 => by rw [e1]; exact hk q h1 h2,
    ⟨Nat.le_trans hS.1 (by rw [e1]; exact hz), fun q h1 h2 => by rw [e1, hk q (Nat.lt_of_lt_of_le h1 hS.1) (fun z => h2 (hA q (Nat.lt_of_lt_of_le h1 hS.1) z))]; exact hS.2.1 q h1 h2, fun q hq => by
      rcases List.mem_append.mp hq with h | h
      · exact hS.2.2 q h
      · exact hf _ (hL q h)⟩⟩
theorem vx_calli {S SX : Type} {post : Int32 → S → Prop} {px : SX → Prop} {B : S → State → Prop} {BX : String → SX → State → Prop} {AX : Nat → Prop} (hr : vx_Run p l e R s m args below meth c H locs cells slots mc ms (F0 m pc ls st0) rest (va_Qi post B A1 a) (vx_X px BX AX) free) (hS : va_S A0 H0 H locs) (hA : ∀ q, q < H.size → A1 q → A0 q) (hf : ∀ q, free q → A0 q) (hAX : ∀ q, q < H.size → AX q → A0 q)
    (kx : ∀ (E : String) (ce : Cell) (q9 : Addr) (u : SX) (t : State) (H1 : Heap) (locs1 : List Loc), t.heap = H1 → s.vm.Alike t.vm → px u → BX E u t → H.size ≤ H1.size → (∀ q : Nat, q < H.size → ¬ AX q → H1[q]? = H[q]?) → va_S A0 H0 H1 locs1 → H1[q9]? = some ce → ce.vm = .none → s.vm.findClass E = some ce.cls → vx_W p l e R s m args below meth c H1 locs1 (cells + mc) (slots + ms) Q (F0 m pc ls rest) q9)
    (kk : ∀ (r : Int32) (u : S) (t : State) (H1 : Heap) (locs1 : List Loc), t.heap = H1 → s.vm.Alike t.vm → post r u → B u t → H.size ≤ H1.size → (∀ q : Nat, q < H.size → ¬ A1 q → H1[q]? = H[q]?) → va_S A0 H0 H1 locs1 → W p l e R s m args below meth c H1 locs1 (cells + mc) (slots + ms) Q (F0 m (pc + 3) ls (.int r :: rest))) : W p l e R s m args below meth c H locs cells slots Q (F0 m pc ls st0) := by
  intro T hT X
  rcases hr T hT X with ⟨v, st₀, t, T', L, h0, X', hL, e1, e2, ⟨⟨r, u, hv, hp, hb⟩, hF⟩, st⟩ | ⟨q, st₀, t, T', L, E, ce, h0, X', hL, e1, e2, ⟨u, hp, hb, hF⟩, hce, hcv, hcl, st⟩
  · cases hv
    obtain ⟨k1, k2, k3⟩ := vx_keep h0 e1 hS hA hf hL hF
    obtain ⟨t2, a1, b1⟩ := kk r u t T'.heap (locs ++ L) e1.symm (by rw [← e2]; exact X'.warmed.alike) hp hb k1 k2 k3 T' rfl X'
    exact ⟨t2, st t2 a1, b1⟩
  · obtain ⟨k1, k2, k3⟩ := vx_keep h0 e1 hS hAX hf hL hF
    obtain ⟨t2, a1, b1⟩ := kx E ce q u t T'.heap (locs ++ L) e1.symm (by rw [← e2]; exact X'.warmed.alike) hp hb k1 k2 k3 (by rw [e1]; exact hce) hcv hcl T' rfl X'
    exact ⟨t2, st.trans a1, b1⟩
theorem vx_calll {S SX : Type} {post : Int64 → S → Prop} {px : SX → Prop} {B : S → State → Prop} {BX : String → SX → State → Prop} {AX : Nat → Prop} (hr : vx_Run p l e R s m args below meth c H locs cells slots mc ms (F0 m pc ls st0) rest (va_Ql post B A1 a) (vx_X px BX AX) free) (hS : va_S A0 H0 H locs) (hA : ∀ q, q < H.size → A1 q → A0 q) (hf : ∀ q, free q → A0 q) (hAX : ∀ q, q < H.size → AX q → A0 q)
    (kx : ∀ (E : String) (ce : Cell) (q9 : Addr) (u : SX) (t : State) (H1 : Heap) (locs1 : List Loc), t.heap = H1 → s.vm.Alike t.vm → px u → BX E u t → H.size ≤ H1.size → (∀ q : Nat, q < H.size → ¬ AX q → H1[q]? = H[q]?) → va_S A0 H0 H1 locs1 → H1[q9]? = some ce → ce.vm = .none → s.vm.findClass E = some ce.cls → vx_W p l e R s m args below meth c H1 locs1 (cells + mc) (slots + ms) Q (F0 m pc ls rest) q9)
    (kk : ∀ (r : Int64) (u : S) (t : State) (H1 : Heap) (locs1 : List Loc), t.heap = H1 → s.vm.Alike t.vm → post r u → B u t → H.size ≤ H1.size → (∀ q : Nat, q < H.size → ¬ A1 q → H1[q]? = H[q]?) → va_S A0 H0 H1 locs1 → W p l e R s m args below meth c H1 locs1 (cells + mc) (slots + ms) Q (F0 m (pc + 3) ls (.long r :: rest))) : W p l e R s m args below meth c H locs cells slots Q (F0 m pc ls st0) := by
  intro T hT X
  rcases hr T hT X with ⟨v, st₀, t, T', L, h0, X', hL, e1, e2, ⟨⟨r, u, hv, hp, hb⟩, hF⟩, st⟩ | ⟨q, st₀, t, T', L, E, ce, h0, X', hL, e1, e2, ⟨u, hp, hb, hF⟩, hce, hcv, hcl, st⟩
  · cases hv
    obtain ⟨k1, k2, k3⟩ := vx_keep h0 e1 hS hA hf hL hF
    obtain ⟨t2, a1, b1⟩ := kk r u t T'.heap (locs ++ L) e1.symm (by rw [← e2]; exact X'.warmed.alike) hp hb k1 k2 k3 T' rfl X'
    exact ⟨t2, st t2 a1, b1⟩
  · obtain ⟨k1, k2, k3⟩ := vx_keep h0 e1 hS hAX hf hL hF
    obtain ⟨t2, a1, b1⟩ := kx E ce q u t T'.heap (locs ++ L) e1.symm (by rw [← e2]; exact X'.warmed.alike) hp hb k1 k2 k3 (by rw [e1]; exact hce) hcv hcl T' rfl X'
    exact ⟨t2, st.trans a1, b1⟩
theorem vx_callf {S SX : Type} {post : UInt32 → S → Prop} {px : SX → Prop} {B : S → State → Prop} {BX : String → SX → State → Prop} {AX : Nat → Prop} (hr : vx_Run p l e R s m args below meth c H locs cells slots mc ms (F0 m pc ls st0) rest (va_Qf post B A1 a) (vx_X px BX AX) free) (hS : va_S A0 H0 H locs) (hA : ∀ q, q < H.size → A1 q → A0 q) (hf : ∀ q, free q → A0 q) (hAX : ∀ q, q < H.size → AX q → A0 q)
    (kx : ∀ (E : String) (ce : Cell) (q9 : Addr) (u : SX) (t : State) (H1 : Heap) (locs1 : List Loc), t.heap = H1 → s.vm.Alike t.vm → px u → BX E u t → H.size ≤ H1.size → (∀ q : Nat, q < H.size → ¬ AX q → H1[q]? = H[q]?) → va_S A0 H0 H1 locs1 → H1[q9]? = some ce → ce.vm = .none → s.vm.findClass E = some ce.cls → vx_W p l e R s m args below meth c H1 locs1 (cells + mc) (slots + ms) Q (F0 m pc ls rest) q9)
    (kk : ∀ (r : UInt32) (u : S) (t : State) (H1 : Heap) (locs1 : List Loc), t.heap = H1 → s.vm.Alike t.vm → post r u → B u t → H.size ≤ H1.size → (∀ q : Nat, q < H.size → ¬ A1 q → H1[q]? = H[q]?) → va_S A0 H0 H1 locs1 → W p l e R s m args below meth c H1 locs1 (cells + mc) (slots + ms) Q (F0 m (pc + 3) ls (.float r :: rest))) : W p l e R s m args below meth c H locs cells slots Q (F0 m pc ls st0) := by
  intro T hT X
  rcases hr T hT X with ⟨v, st₀, t, T', L, h0, X', hL, e1, e2, ⟨⟨r, u, hv, hp, hb⟩, hF⟩, st⟩ | ⟨q, st₀, t, T', L, E, ce, h0, X', hL, e1, e2, ⟨u, hp, hb, hF⟩, hce, hcv, hcl, st⟩
  · cases hv
    obtain ⟨k1, k2, k3⟩ := vx_keep h0 e1 hS hA hf hL hF
    obtain ⟨t2, a1, b1⟩ := kk r u t T'.heap (locs ++ L) e1.symm (by rw [← e2]; exact X'.warmed.alike) hp hb k1 k2 k3 T' rfl X'
    exact ⟨t2, st t2 a1, b1⟩
  · obtain ⟨k1, k2, k3⟩ := vx_keep h0 e1 hS hAX hf hL hF
    obtain ⟨t2, a1, b1⟩ := kx E ce q u t T'.heap (locs ++ L) e1.symm (by rw [← e2]; exact X'.warmed.alike) hp hb k1 k2 k3 (by rw [e1]; exact hce) hcv hcl T' rfl X'
    exact ⟨t2, st.trans a1, b1⟩
theorem vx_calld {S SX : Type} {post : UInt64 → S → Prop} {px : SX → Prop} {B : S → State → Prop} {BX : String → SX → State → Prop} {AX : Nat → Prop} (hr : vx_Run p l e R s m args below meth c H locs cells slots mc ms (F0 m pc ls st0) rest (va_Qd post B A1 a) (vx_X px BX AX) free) (hS : va_S A0 H0 H locs) (hA : ∀ q, q < H.size → A1 q → A0 q) (hf : ∀ q, free q → A0 q) (hAX : ∀ q, q < H.size → AX q → A0 q)
    (kx : ∀ (E : String) (ce : Cell) (q9 : Addr) (u : SX) (t : State) (H1 : Heap) (locs1 : List Loc), t.heap = H1 → s.vm.Alike t.vm → px u → BX E u t → H.size ≤ H1.size → (∀ q : Nat, q < H.size → ¬ AX q → H1[q]? = H[q]?) → va_S A0 H0 H1 locs1 → H1[q9]? = some ce → ce.vm = .none → s.vm.findClass E = some ce.cls → vx_W p l e R s m args below meth c H1 locs1 (cells + mc) (slots + ms) Q (F0 m pc ls rest) q9)
    (kk : ∀ (r : UInt64) (u : S) (t : State) (H1 : Heap) (locs1 : List Loc), t.heap = H1 → s.vm.Alike t.vm → post r u → B u t → H.size ≤ H1.size → (∀ q : Nat, q < H.size → ¬ A1 q → H1[q]? = H[q]?) → va_S A0 H0 H1 locs1 → W p l e R s m args below meth c H1 locs1 (cells + mc) (slots + ms) Q (F0 m (pc + 3) ls (.double r :: rest))) : W p l e R s m args below meth c H locs cells slots Q (F0 m pc ls st0) := by
  intro T hT X
  rcases hr T hT X with ⟨v, st₀, t, T', L, h0, X', hL, e1, e2, ⟨⟨r, u, hv, hp, hb⟩, hF⟩, st⟩ | ⟨q, st₀, t, T', L, E, ce, h0, X', hL, e1, e2, ⟨u, hp, hb, hF⟩, hce, hcv, hcl, st⟩
  · cases hv
    obtain ⟨k1, k2, k3⟩ := vx_keep h0 e1 hS hA hf hL hF
    obtain ⟨t2, a1, b1⟩ := kk r u t T'.heap (locs ++ L) e1.symm (by rw [← e2]; exact X'.warmed.alike) hp hb k1 k2 k3 T' rfl X'
    exact ⟨t2, st t2 a1, b1⟩
  · obtain ⟨k1, k2, k3⟩ := vx_keep h0 e1 hS hAX hf hL hF
    obtain ⟨t2, a1, b1⟩ := kx E ce q u t T'.heap (locs ++ L) e1.symm (by rw [← e2]; exact X'.warmed.alike) hp hb k1 k2 k3 (by rw [e1]; exact hce) hcv hcl T' rfl X'
    exact ⟨t2, st.trans a1, b1⟩
theorem vx_callv {S SX : Type} {post : S → Prop} {px : SX → Prop} {B : S → State → Prop} {BX : String → SX → State → Prop} {AX : Nat → Prop} (hr : vx_Run p l e R s m args below meth c H locs cells slots mc ms (F0 m pc ls st0) rest (va_Qv post B A1 a) (vx_X px BX AX) free) (hS : va_S A0 H0 H locs) (hA : ∀ q, q < H.size → A1 q → A0 q) (hf : ∀ q, free q → A0 q) (hAX : ∀ q, q < H.size → AX q → A0 q)
    (kx : ∀ (E : String) (ce : Cell) (q9 : Addr) (u : SX) (t : State) (H1 : Heap) (locs1 : List Loc), t.heap = H1 → s.vm.Alike t.vm → px u → BX E u t → H.size ≤ H1.size → (∀ q : Nat, q < H.size → ¬ AX q → H1[q]? = H[q]?) → va_S A0 H0 H1 locs1 → H1[q9]? = some ce → ce.vm = .none → s.vm.findClass E = some ce.cls → vx_W p l e R s m args below meth c H1 locs1 (cells + mc) (slots + ms) Q (F0 m pc ls rest) q9)
    (kk : ∀ (u : S) (t : State) (H1 : Heap) (locs1 : List Loc), t.heap = H1 → s.vm.Alike t.vm → post u → B u t → H.size ≤ H1.size → (∀ q : Nat, q < H.size → ¬ A1 q → H1[q]? = H[q]?) → va_S A0 H0 H1 locs1 → W p l e R s m args below meth c H1 locs1 (cells + mc) (slots + ms) Q (F0 m (pc + 3) ls (rest))) : W p l e R s m args below meth c H locs cells slots Q (F0 m pc ls st0) := by
  intro T hT X
  rcases hr T hT X with ⟨v, st₀, t, T', L, h0, X', hL, e1, e2, ⟨⟨u, hv, hp, hb⟩, hF⟩, st⟩ | ⟨q, st₀, t, T', L, E, ce, h0, X', hL, e1, e2, ⟨u, hp, hb, hF⟩, hce, hcv, hcl, st⟩
  · cases hv
    obtain ⟨k1, k2, k3⟩ := vx_keep h0 e1 hS hA hf hL hF
    obtain ⟨t2, a1, b1⟩ := kk u t T'.heap (locs ++ L) e1.symm (by rw [← e2]; exact X'.warmed.alike) hp hb k1 k2 k3 T' rfl X'
    exact ⟨t2, st t2 a1, b1⟩
  · obtain ⟨k1, k2, k3⟩ := vx_keep h0 e1 hS hAX hf hL hF
    obtain ⟨t2, a1, b1⟩ := kx E ce q u t T'.heap (locs ++ L) e1.symm (by rw [← e2]; exact X'.warmed.alike) hp hb k1 k2 k3 (by rw [e1]; exact hce) hcv hcl T' rfl X'
    exact ⟨t2, st.trans a1, b1⟩
/-- caught by the row x of this method's table; the rows ahead don't take it -/
theorem vx_catch {own name : String} {E : String} {ce : Cell} {q : Addr} (hown : s.vm.findClass own = some m.cls) (pre : List ExceptionTableEntry) (x : ExceptionTableEntry) (suf : List ExceptionTableEntry) (hsplit : c.exceptionTable.toList = pre ++ x :: suf)
    (hpass : ∀ z ∈ pre, covers z pc = false ∨ (z.catchType ≠ 0 ∧ ∃ nm : String, (Cond.classLink own z.catchType nm).before args s = true ∧ va_Nc E nm s)) (hx : covers x pc = true) (h0 : x.catchType ≠ 0)
    (hlink : (Cond.classLink own x.catchType name).before args s = true) (hcast : (Cond.castable E name).before args s = true) (hcell : H[q]? = some ce) (hv : ce.vm = .none) (hcl : s.vm.findClass E = some ce.cls)
    (kk : W p l e R s m args below meth c H locs cells slots Q (F0 m x.handlerPc ls [.ref q])) : vx_W p l e R s m args below meth c H locs cells slots Q (F0 m pc ls rest) q := by
  intro T hT X
  have hpl : e.platform.magicAccessors = ({} : Platform).magicAccessors := by rw [X.admits.platform]
  obtain ⟨c3, c4, hc3, hc4, hasg⟩ := Cond.castable_spec hcast
  cases Option.some.inj (hc3.symm.trans hcl)
  obtain ⟨c5, hc5, hcl5⟩ := Cond.classLink_spec hown hlink e.platform hpl
  cases Option.some.inj (hc4.symm.trans hc5)
  obtain ⟨vm', X', st⟩ := X.thenCaughtThrough q (g := F0 m pc ls rest) rfl (Steps.refl _) (by rw [hT]; exact hcell) (by rw [hv]; rfl) (by obtain ⟨k9, h9, -⟩ := Vm.findClass_spec hcl; exact ⟨k9, h9⟩) pre x suf hsplit
    (fun z hz => by
      rcases hpass z hz with h | ⟨hz0, nm, hl1, hn1⟩
      · exact Or.inl h
      · obtain ⟨c6, hc6, hcl6⟩ := Cond.classLink_spec hown hl1 e.platform hpl
        obtain ⟨a8, b8, h1, h2, h3⟩ := hn1
        cases Option.some.inj (h1.symm.trans hcl)
        cases Option.some.inj (h2.symm.trans hc6)
        exact Or.inr ⟨hz0, _, hcl6, h3⟩) hx (Or.inr ⟨h0, c4, hcl5, hasg⟩)
  obtain ⟨t, a1, b1⟩ := kk (T.setVm vm') hT X'
  exact ⟨t, st.trans a1, b1⟩
end Rows
section Ends
variable {p : Program} {l : Launch} {e : Env} {R : Room} {s : State} {m : MethodId} {args : Array Value} {below : List Frame} {meth : Method} {c : Code} {H : Heap} {locs : List Loc} {cells slots : Nat} {Q : State → Prop}
variable {mc ms : Nat} {free : Addr → Prop} {A0 A1 : Nat → Prop} {H0 : Heap} {a : Array Value} {ls : Array Slot} {st0 rest : List Value}
variable {Qc : Array Value → State → Outcome → State → Prop} {XC : String → State → State → Prop}
/-- what a body that may throw owes at its end -/
def vx_MQ (below : List Frame) (Qc : Array Value → State → Outcome → State → Prop) (XC : String → State → State → Prop) (a : Array Value) (s : State) (mc ms : Nat) (free : Addr → Prop) : State → Prop := fun t =>
  ∃ o, t.status = .running ∧ Ended t below o ∧ vx_Q Qc XC mc ms free a s o t
theorem vx_ret {g : JFrame} {mc ms : Nat} (k : W p l e R s m args below meth c H locs cells slots (MQ below Qc args s mc ms free) g) : W p l e R s m args below meth c H locs cells slots (vx_MQ below Qc XC args s mc ms free) g := by
  intro T hT X
  obtain ⟨t, a1, o, b1, b2, b3, b4⟩ := k T hT X
  exact ⟨t, a1, o, b1, b2, Or.inl ⟨b3, b4⟩⟩
/-- not caught here: it goes on to the caller -/
theorem vx_widen {g : JFrame} {q : Addr} {k n : Nat} (h1 : cells ≤ k) (h2 : slots ≤ n) (kk : vx_W p l e R s m args below meth c H locs k n Q g q) : vx_W p l e R s m args below meth c H locs cells slots Q g q := fun T hT X => kk T hT (stand_widen X h1 h2)
theorem vx_out {pc : Nat} {E : String} {ce : Cell} {q : Addr} {mc ms : Nat} (hout : ∀ x ∈ c.exceptionTable.toList, covers x pc = false) (hlocks : meth.locks = false) (hcell : H[q]? = some ce) (hv : ce.vm = .none) (hcl : s.vm.findClass E = some ce.cls)
    (hx : ∀ t : State, t.heap = H → s.vm.Alike t.vm → XC E s t) (hf : ∀ z ∈ locs, free z.base) (hc : cells ≤ mc) (hs : slots ≤ ms) :
    vx_W p l e R s m args below meth c H locs cells slots (vx_MQ below Qc XC args s mc ms free) (F0 m pc ls rest) q := by
  intro T hT X
  obtain ⟨st1, hrun, hend, hW, hsm⟩ := X.leaveThrown q (g := F0 m pc ls rest) rfl rfl rfl hout hlocks
  have hcell9 : (T.setFrames (.throwing q :: below)).heap[q]? = some ce := by
    show T.heap[q]? = some ce
    rw [hT]; exact hcell
  exact ⟨_, st1, .threw q, hrun, hend, Or.inr ⟨q, rfl, E, ce, locs, hx _ hT hW.alike, hcell9, hv, hcl, hW, hsm.mono hc hs, hf⟩⟩
theorem vx_frame {U : State} {k n : Nat} (h : s.sameButNew ({ U with vm := s.vm } : State) locs k n) : s.heap.size ≤ U.heap.size ∧ ∀ q : Nat, q < s.heap.size → (∀ z ∈ locs, z.base ≠ q) → U.heap[q]? = s.heap[q]? := by
  obtain ⟨-, h2, -, -, -, h6⟩ := h
  refine ⟨h2, fun q hq hz => ?_⟩
  obtain ⟨c9, e1, e2, e3, e4⟩ := h6 q _ (Array.getElem?_eq_getElem hq)
  have hs : c9.slots = (s.heap[q]).slots := Array.ext_getElem? fun i => e4 i fun hm => hz _ hm rfl
  have h9 : c9 = s.heap[q] := by
    rw [hs] at e2
    exact e2
  have e5 : U.heap[q]? = some c9 := e1
  rw [e5, h9, Array.getElem?_eq_getElem hq]
/-- the words of a throw but the four that speak of the heap -/
def vx_no (w : Cond) : Bool := decide (w ≠ .isRef (.static Jvm.Bundle.tN "UNASSIGNED_STACK" Jvm.Bundle.steD)) && decide (w ≠ .isRef (.static Jvm.Bundle.tN "SUPPRESSED_SENTINEL" Jvm.Bundle.listD)) && decide (w ≠ .laysStatic Jvm.Bundle.tN "UNASSIGNED_STACK" Jvm.Bundle.steD) && decide (w ≠ .laysStatic Jvm.Bundle.tN "SUPPRESSED_SENTINEL" Jvm.Bundle.listD)
def vx_at0 (own : String) (ic : Nat) (X : String) (names : List String) : List Cond := (Jvm.Bundle.ownAtoms0 own ic X names).filter vx_no
def vx_atS (own : String) (ic : Nat) (X : String) (names : List String) : List Cond := (Jvm.Bundle.ownAtoms own ic X names).filter vx_no
/-- a word that the tables alone decide, or a good one -/
def vx_ot (w : Cond) : Bool := w.onTables || goodWord w
theorem vx_ot_at {args a' : Array Value} {s U : State} {w : Cond} (hW : s.WarmedH U.vm) (hvm : s.vm = U.vm) (hg : vx_ot w = true) (h : w.before args s = true) : w.before a' U = true := by
  simp only [vx_ot, Bool.or_eq_true] at hg
  rcases hg with hg | hg
  · exact va_tabs hg hvm h
  · exact word_at hW (good_of_word hg) h
/-- a list's words: the good ones out of the method's own list, the others by premises of their own -/
theorem vx_hat {args : Array Value} {s : State} {L B : List Cond} (h1 : ∀ w ∈ L.filter goodWord, w.before args s = true) (h2 : ∀ w ∈ L.filter (fun w => !goodWord w), w ∈ B) (h3 : ∀ w ∈ B, w.before args s = true) : ∀ w ∈ L, w.before args s = true := by
  intro w hw
  by_cases g : goodWord w = true
  · exact h1 w (List.mem_filter.mpr ⟨hw, g⟩)
  · refine h3 w (h2 w (List.mem_filter.mpr ⟨hw, ?_⟩))
    show (!goodWord w) = true
    cases hgw : goodWord w
    · rfl
    · exact absurd hgw g
theorem vx_c {args : Array Value} {s : State} {w : Cond} {B : List Cond} (h : w.before args s = true) (t : ∀ w ∈ B, w.before args s = true) : ∀ w' ∈ w :: B, w'.before args s = true := fun w' h' => (List.mem_cons.mp h').elim (fun e => by rw [e]; exact h) (t w')
theorem vx_n {args : Array Value} {s : State} : ∀ w ∈ ([] : List Cond), w.before args s = true := fun _ h => nomatch h
theorem vx_own {args : Array Value} {s : State} {L : List Cond} (h1 : ∀ w ∈ L.filter vx_no, w.before args s = true)
    (hU : (Cond.isRef (.static Jvm.Bundle.tN "UNASSIGNED_STACK" Jvm.Bundle.steD)).before args s = true) (hN : (Cond.isRef (.static Jvm.Bundle.tN "SUPPRESSED_SENTINEL" Jvm.Bundle.listD)).before args s = true)
    (lU : (Cond.laysStatic Jvm.Bundle.tN "UNASSIGNED_STACK" Jvm.Bundle.steD).before args s = true) (lN : (Cond.laysStatic Jvm.Bundle.tN "SUPPRESSED_SENTINEL" Jvm.Bundle.listD).before args s = true) : ∀ w ∈ L, w.before args s = true := by
  intro w hw
  by_cases e1 : w = .isRef (.static Jvm.Bundle.tN "UNASSIGNED_STACK" Jvm.Bundle.steD)
  · rw [e1]; exact hU
  · by_cases e2 : w = .isRef (.static Jvm.Bundle.tN "SUPPRESSED_SENTINEL" Jvm.Bundle.listD)
    · rw [e2]; exact hN
    · by_cases e3 : w = .laysStatic Jvm.Bundle.tN "UNASSIGNED_STACK" Jvm.Bundle.steD
      · rw [e3]; exact lU
      · by_cases e4 : w = .laysStatic Jvm.Bundle.tN "SUPPRESSED_SENTINEL" Jvm.Bundle.listD
        · rw [e4]; exact lN
        · exact h1 w (List.mem_filter.mpr ⟨hw, by unfold vx_no; rw [decide_eq_true e1, decide_eq_true e2, decide_eq_true e3, decide_eq_true e4]; rfl⟩)
/-- where a static field lies, its class's statics cell in H -/
def vx_L (C n d : String) (A : Nat → Prop) (U : State) (H : Heap) : Prop := ∃ (c : ClassId) (k : Class) (i : Nat) (f : Field) (a : Nat) (cell : Cell), U.vm.findClass C = some c ∧ U.fieldFound? C n d = some (c, k, i, f) ∧ f.isStatic = true ∧ k.statics = some a ∧ H[a]? = some cell ∧ cell.vm.isStatics = true ∧ cell.cls = c ∧ f.slot < cell.slots.size ∧ k.staticTypes[f.slot]? = some f.type ∧ ¬ A a
theorem vx_L.moved {C n d : String} {A : Nat → Prop} {u U : State} {H : Heap} (hvm : u.vm.Alike U.vm) (h : vx_L C n d A u H) : vx_L C n d A U H := by
  obtain ⟨c, k, i, f, a, cell, h1, h2, h3, h4, h5, h6, h7, h8, h9, h10⟩ := h
  obtain ⟨k', hi', he⟩ := State.fieldFound?_setVm hvm h2
  exact ⟨c, k', i, f, a, cell, by rw [hvm.findClass]; exact h1, hi', h3, by rw [he]; exact h4, h5, h6, h7, h8, by rw [he]; exact h9, h10⟩
theorem vx_L.kept {C n d : String} {A : Nat → Prop} {U : State} {H H1 : Heap} (h : vx_L C n d A U H) (hq : ∀ a : Nat, a < H.size → ¬ A a → H1[a]? = H[a]?) : vx_L C n d A U H1 := by
  obtain ⟨c, k, i, f, a, cell, h1, h2, h3, h4, h5, h6, h7, h8, h9, h10⟩ := h
  exact ⟨c, k, i, f, a, cell, h1, h2, h3, h4, by rw [hq a (Array.getElem?_eq_some_iff.mp h5).1 h10]; exact h5, h6, h7, h8, h9, h10⟩
theorem vx_L.narrow {C n d : String} {A B : Nat → Prop} {U : State} {H : Heap} (h : vx_L C n d A U H) (hAB : ∀ q, B q → A q) : vx_L C n d B U H := by
  obtain ⟨c, k, i, f, a, cell, h1, h2, h3, h4, h5, h6, h7, h8, h9, h10⟩ := h
  exact ⟨c, k, i, f, a, cell, h1, h2, h3, h4, h5, h6, h7, h8, h9, fun z => h10 (hAB _ z)⟩
theorem vx_L.word {C n d : String} {A : Nat → Prop} {s : State} {args : Array Value} (h : vx_L C n d A s s.heap) : (Cond.laysStatic C n d).before args s = true := by
  obtain ⟨c, k, i, f, a, cell, h1, h2, h3, h4, h5, h6, h7, h8, h9, -⟩ := h
  show (Cond.laysStatic C n d).holds args s none s [] = true
  exact Cond.laysStatic_of h1 h2 h3 h4 h5 h6 h7 h8 h9
/-- .. and what it holds: null or some reference -/
def vx_Zq (C n d : String) (A : Nat → Prop) (U : State) (H : Heap) : Prop := va_Zq C n d A U H ∧ vx_L C n d A U H
theorem vx_Zq.moved {C n d : String} {A : Nat → Prop} {u U : State} {H : Heap} (hvm : u.vm.Alike U.vm) (h : vx_Zq C n d A u H) : vx_Zq C n d A U H := ⟨va_Zq.moved hvm h.1, vx_L.moved hvm h.2⟩
theorem vx_Zq.kept {C n d : String} {A : Nat → Prop} {U : State} {H H1 : Heap} (h : vx_Zq C n d A U H) (hq : ∀ a : Nat, a < H.size → ¬ A a → H1[a]? = H[a]?) : vx_Zq C n d A U H1 := ⟨va_Zq.kept h.1 hq, vx_L.kept h.2 hq⟩
theorem vx_Zq.narrow {C n d : String} {A B : Nat → Prop} {U : State} {H : Heap} (h : vx_Zq C n d A U H) (hAB : ∀ q, B q → A q) : vx_Zq C n d B U H := ⟨va_Zq.narrow h.1 hAB, vx_L.narrow h.2 hAB⟩
theorem vx_Zqof {args : Array Value} {s : State} {C n d : String} {A : Nat → Prop} (hl : (Cond.laysStatic C n d).before args s = true) (hini : (Cond.initialized C).before args s = true) (h : (Cond.isRef (.static C n d)).before args s = true) (hA : ∀ a : Nat, a < s.heap.size → ¬ A a) : vx_Zq C n d A s s.heap := by
  refine ⟨va_Zqof hl hini h hA, ?_⟩
  obtain ⟨c, k, i, f, a, cell, h1, h2, h3, h4, h5, h6, h7, h8, h9⟩ := Cond.laysStatic_spec hl
  exact ⟨c, k, i, f, a, cell, h1, h2, h3, h4, h5, h6, h7, h8, h9, hA a (Array.getElem?_eq_some_iff.mp h5).1⟩
theorem vx_isRef {C n d : String} {v : Value} {A : Nat → Prop} {s : State} {args : Array Value} (h : va_Z C n d v A s s.heap) (hv : v.isRef = true) : (Cond.isRef (.static C n d)).before args s = true := by
  obtain ⟨cf, kf, fi, f, a, cell, h1, h2, h3, h4, h5, h6, h7, -⟩ := h
  have he : (Term.static C n d).eval args s none [] s = some v := by
    simp [Term.eval, State.fieldNamed?, h1, h2, h4, h5, h6, h7]
  simp only [Cond.before, Cond.holds, Cond.value, he]
  cases v <;> simp_all [Value.isRef]
theorem vx_isRefq {C n d : String} {A : Nat → Prop} {s : State} {args : Array Value} (h : va_Zq C n d A s s.heap) : (Cond.isRef (.static C n d)).before args s = true := by
  rcases h with h | ⟨t, h⟩
  · exact vx_isRef h rfl
  · exact vx_isRef h rfl
/-- the same frame, seen from here: as if the method were called anew in this heap -/
theorem vx_rebase {T : State} (X : Stand p l e R s m args below meth c T locs cells slots) {R' : Room} (hf : R'.frames ≤ R.frames) (hl : R'.locals ≤ R.locals) (hc : cells + R'.cells ≤ R.cells) (hs : slots + R'.slots ≤ R.slots) :
    Stand p l e R' ((T.setVm s.vm).setFrames (.invoking m args :: below)) m args below meth c T [] 0 0 := by
  have htop : (T.setVm s.vm).topJava?.isSome := X.here.top
  have hF : ((T.setVm s.vm).setFrames (.invoking m args :: below)).frames = .invoking m args :: below := State.frames_setFrames _ (State.cur_lt_of_top htop)
  obtain ⟨g₀, hg0⟩ := Option.isSome_iff_exists.mp htop
  obtain ⟨r, hr⟩ := State.topJava?_eq_some.mp hg0
  have hl9 : e.platform.stackLimits (T.setVm s.vm).me = e.platform.stackLimits s.me := X.limits
  have hb9 : (T.setVm s.vm).me.stackBytes = s.me.stackBytes := X.bytes
  refine ⟨X.admits, X.cas, X.clock, hF, ?_, X.hears, X.method, X.code, X.here, X.tail, X.warmed, ?_, ?_, ?_⟩
  · have h := X.room
    have hU : ((T.setVm s.vm).setFrames (.invoking m args :: below)).localsInUse = s.localsInUse := by
      rw [State.localsInUse_invoking hF (meth := meth) (c := c) X.method X.code, State.localsInUse_invoking X.frames X.method X.code]
    simp only [State.hasRoom, Bool.and_eq_true, decide_eq_true_eq] at h ⊢
    obtain ⟨⟨⟨⟨h1, h2, h3, h4, h5, h6⟩, h7⟩, h8⟩, h9⟩ := h
    rw [X.frames, List.length_cons] at h2 h3
    have q1 := X.heapSize
    have q2 := X.used
    simp only [hF, hU, List.length_cons, State.stackLimits_setFrames, State.stackBytes_setFrames, hl9, hb9]
    refine ⟨⟨⟨⟨by omega, by omega, by omega, by omega, by omega, h6⟩, ?_⟩, ?_⟩, X.book⟩
    · show T.heap.size + R'.cells ≤ e.platform.maxCells
      omega
    · show T.slotsUsed + R'.slots ≤ e.platform.maxSlots
      omega
  · rw [State.stackLimits_setFrames]; rfl
  · rw [State.stackBytes_setFrames]; rfl
  · refine ⟨?_, Nat.le_refl _, Nat.le_refl _, ?_, ?_, fun a c9 h9 => ⟨c9, h9, rfl, rfl, fun _ _ => rfl⟩⟩
    · obtain ⟨t, ht, -⟩ := State.frames_cons hr
      show T.setVm s.vm = { ((T.setVm s.vm).setFrames (.invoking m args :: below)).setFrames (T.setVm s.vm).frames with heap := T.heap, slotsUsed := T.slotsUsed }
      rw [State.setFrames_setFrames, State.setFrames_self ht]
      rfl
    · show T.slotsUsed = T.slotsUsed + ((T.heap.toList.drop T.heap.size).map (·.slots.size)).sum
      rw [List.drop_eq_nil_of_le (Nat.le_of_eq Array.length_toList)]
      rfl
    · show ((T.heap.toList.drop T.heap.size).map (·.slots.size)).sum ≤ 0
      rw [List.drop_eq_nil_of_le (Nat.le_of_eq Array.length_toList)]
      exact Nat.le_refl _
/-- 'throw new E()': new; dup; invokespecial; athrow -/
theorem vx_throw0 {cc : ByteArray} {pc : Nat} (hexec : p.tables.exec = Jvm.exec) (hb : c.code = cc) (hl : l.stackTraces = false) {own cls : String} {names : List String} {ik ic mc ms : Nat} {A : Nat → Prop}
    (hown : s.vm.findClass own = some m.cls) (hcls : Jvm.Bundle.fit cls = true) (hnames : ∀ n ∈ names, Jvm.Bundle.fit n = true)
    (hk : (Cond.classLink own ik cls).before args s = true) (hini : (Cond.initialized cls).before args s = true) (hat : ∀ w ∈ vx_at0 own ic cls names, w.before args s = true)
    (hgood : ∀ w ∈ Cond.classLink own ik cls :: Cond.initialized cls :: vx_at0 own ic cls names, vx_ot w = true)
    (hU : vx_Zq Jvm.Bundle.tN "UNASSIGNED_STACK" Jvm.Bundle.steD A s s.heap) (hN : vx_Zq Jvm.Bundle.tN "SUPPRESSED_SENTINEL" Jvm.Bundle.listD A s s.heap) (hS : va_S A s.heap H locs) (hsize : ls.size = c.maxLocals)
    (d0 : decode cc pc = .ok (.new ik, 3)) (d3 : decode cc (pc + 3) = .ok (.dup, 1)) (d4 : decode cc (pc + 4) = .ok (.invokespecial ic, 3)) (d7 : decode cc (pc + 7) = .ok (.athrow, 1))
    (hout : ∀ x ∈ c.exceptionTable.toList, covers x (pc + 7) = false)
    (hRframes : names.length + 3 < R.frames) (hRlocals : (rest.map fun v => v.category).sum + (13 * (names.length + 1) + 42) ≤ R.locals) (hRcells : cells + 1 ≤ R.cells) (hRslots : slots + 6 ≤ R.slots) (hlocks : meth.locks = false)
    (hx : ∀ t : State, s.vm.Alike t.vm → H.size ≤ t.heap.size → (∀ q : Nat, q < H.size → t.heap[q]? = H[q]?) → XC cls s t)
    (hf : ∀ z ∈ locs, free z.base) (hc : cells + 1 ≤ mc) (hs : slots + 6 ≤ ms) :
    W p l e R s m args below meth c H locs cells slots (vx_MQ below Qc XC args s mc ms free) (F0 m pc ls rest) := by
  intro T hT X
  have htr : e.platform.stackTraces = false := (show e.platform.stackTraces = l.stackTraces by rw [X.admits.platform]).trans hl
  have Y := vx_rebase X (R' := { frames := R.frames, locals := R.locals, cells := 1, slots := 6 }) (Nat.le_refl _) (Nat.le_refl _) hRcells hRslots
  obtain ⟨s', hA⟩ : ∃ z, z = (T.setVm s.vm).setFrames (.invoking m args :: below) := ⟨_, rfl⟩
  rw [← hA] at Y
  have hvm : s'.vm = s.vm := by rw [hA]; rfl
  have hhp : s'.heap = H := by rw [hA]; exact hT
  have hW0 : s.WarmedH s'.vm := by rw [hvm]; exact State.WarmedH.refl s
  have hat' : ∀ w ∈ vx_at0 own ic cls names, w.before args s' = true := fun w hw => vx_ot_at hW0 hvm.symm (hgood w (List.mem_cons_of_mem _ (List.mem_cons_of_mem _ hw))) (hat w hw)
  have hk' : (Cond.classLink own ik cls).before args s' = true := vx_ot_at hW0 hvm.symm (hgood _ List.mem_cons_self) hk
  have hini' : (Cond.initialized cls).before args s' = true := vx_ot_at hW0 hvm.symm (hgood _ (List.mem_cons_of_mem _ List.mem_cons_self)) hini
  have hU' : vx_Zq Jvm.Bundle.tN "UNASSIGNED_STACK" Jvm.Bundle.steD A s' s'.heap := by rw [hhp]; exact vx_Zq.moved hW0.alike (hU.kept hS.2.1)
  have hN' : vx_Zq Jvm.Bundle.tN "SUPPRESSED_SENTINEL" Jvm.Bundle.listD A s' s'.heap := by rw [hhp]; exact vx_Zq.moved hW0.alike (hN.kept hS.2.1)
  have h : ∀ w ∈ Jvm.Bundle.ownAtoms0 own ic cls names, w.before args s' = true := vx_own hat' (vx_isRefq hU'.1) (vx_isRefq hN'.1) hU'.2.word hN'.2.word
  have hown' : s'.vm.findClass own = some m.cls := by rw [hvm]; exact hown
  have hins : (Cond.instantiable cls 6).before args s' = true := h _ (by simp [Jvm.Bundle.ownAtoms0])
  obtain ⟨vm₁, cX, kX, hfX, hkX, -, -, X₁, st1⟩ := Y.newCold hexec (own := own) (C := cls) (index := ik) (n := 6) hown' hk' hins hini'
    (g := F0 m pc ls rest) rfl (by rw [hb]; exact d0) (Nat.le_refl _) (Nat.le_refl _)
  generalize hT1 : (T.setVm vm₁).pushCell { cls := cX, slots := kX.instanceTypes.map defaultValue, vm := .none } = T1 at X₁ st1
  have hcat : (Value.ref T.heap.size).category = 1 := rfl
  have hcellA : T1.heap[T.heap.size]? = some (freshCell cX kX) := by rw [← hT1]; exact State.heap_pushCell_size _ _
  have d3' : decode c.code (pc + 3) = .ok (.dup, 1) := by rw [hb]; exact d3
  obtain ⟨U, hsteps, hrun, hend, hW, hsame, ce, hce, hO⟩ := X₁.ctorThrow0 hexec htr (own := own) (cls := cls) (names := names) (ic := ic) hown' hcls hnames h (fun x hx => nomatch hx) hfX hkX hcellA (by rw [hhp, hT]; exact Nat.le_refl _)
    (g := { method := m, pc := pc + 4, locals := ls, stack := .ref T.heap.size :: .ref T.heap.size :: rest, locked := none }) rfl hsize rfl rfl (rest := rest) rfl
    (by rw [hb]; exact d4) (by rw [hb]; exact d7) hout hRframes (by simp only [List.map_cons, List.sum_cons, hcat]; omega) hlocks
  obtain ⟨f1, f2⟩ := vx_frame hsame
  rw [hhp] at f1 f2
  have hWs : s.WarmedH U.vm := State.WarmedH.trans hW0 hW
  have hcl : s.vm.findClass cls = some ce.cls := by
    have h9 := hO.cls
    rw [hvm] at h9
    exact h9
  have hall : s.sameButNew ({ U with vm := s.vm } : State) locs mc ms := by
    subst hA
    obtain ⟨e1, e2⟩ := hsame
    rw [State.setFrames_setFrames] at e1
    have h2 : (T.setVm s.vm).sameButNew ({ U with vm := s.vm } : State) [] (0 + 1) (0 + 6) := ⟨e1, e2⟩
    have h3 := X.same.trans h2
    rw [List.append_nil] at h3
    exact h3.mono hc hs
  refine ⟨U, ?_, .threw T.heap.size, hrun, hend, Or.inr ⟨T.heap.size, rfl, cls, ce, locs, hx U hWs.alike f1 (fun q hq => f2 q hq (fun z hz => nomatch hz)), hce, hO.vm, hcl, hWs, hall, hf⟩⟩
  refine st1 _ ?_
  show Steps p.tables e below (T1.setTop { method := m, pc := pc + 3, locals := ls, stack := .ref T.heap.size :: rest, locked := none }) _
  jvm_step X₁.here [X₁.here.top, hexec, d3', Value.category]
  exact hsteps
/-- 'throw new E("text")': new; dup; ldc; invokespecial; athrow -/
theorem vx_throwS {cc : ByteArray} {pc : Nat} (hexec : p.tables.exec = Jvm.exec) (hb : c.code = cc) (hl : l.stackTraces = false) {own cls text : String} {names : List String} {ik is ic mc ms sa : Nat} {A : Nat → Prop}
    (hown : s.vm.findClass own = some m.cls) (hcls : Jvm.Bundle.fit cls = true) (hnames : ∀ n ∈ names, Jvm.Bundle.fit n = true)
    (hk : (Cond.classLink own ik cls).before args s = true) (hini : (Cond.initialized cls).before args s = true) (hstr : vk_R own is text sa s) (hat : ∀ w ∈ vx_atS own ic cls names, w.before args s = true)
    (hgood : ∀ w ∈ Cond.classLink own ik cls :: Cond.initialized cls :: vx_atS own ic cls names, vx_ot w = true)
    (hU : vx_Zq Jvm.Bundle.tN "UNASSIGNED_STACK" Jvm.Bundle.steD A s s.heap) (hN : vx_Zq Jvm.Bundle.tN "SUPPRESSED_SENTINEL" Jvm.Bundle.listD A s s.heap) (hS : va_S A s.heap H locs) (hsize : ls.size = c.maxLocals)
    (d0 : decode cc pc = .ok (.new ik, 3)) (d3 : decode cc (pc + 3) = .ok (.dup, 1)) (d4 : decode cc (pc + 4) = .ok (.ldc is, 2)) (d6 : decode cc (pc + 6) = .ok (.invokespecial ic, 3)) (d9 : decode cc (pc + 9) = .ok (.athrow, 1))
    (hout : ∀ x ∈ c.exceptionTable.toList, covers x (pc + 9) = false)
    (hRframes : names.length + 3 < R.frames) (hRlocals : (rest.map fun v => v.category).sum + (13 * (names.length + 1) + 43) ≤ R.locals) (hRcells : cells + 1 ≤ R.cells) (hRslots : slots + 6 ≤ R.slots) (hlocks : meth.locks = false)
    (hx : ∀ t : State, s.vm.Alike t.vm → H.size ≤ t.heap.size → (∀ q : Nat, q < H.size → t.heap[q]? = H[q]?) → XC cls s t)
    (hf : ∀ z ∈ locs, free z.base) (hc : cells + 1 ≤ mc) (hs : slots + 6 ≤ ms) :
    W p l e R s m args below meth c H locs cells slots (vx_MQ below Qc XC args s mc ms free) (F0 m pc ls rest) := by
  intro T hT X
  have htr : e.platform.stackTraces = false := (show e.platform.stackTraces = l.stackTraces by rw [X.admits.platform]).trans hl
  have Y := vx_rebase X (R' := { frames := R.frames, locals := R.locals, cells := 1, slots := 6 }) (Nat.le_refl _) (Nat.le_refl _) hRcells hRslots
  obtain ⟨s', hA⟩ : ∃ z, z = (T.setVm s.vm).setFrames (.invoking m args :: below) := ⟨_, rfl⟩
  rw [← hA] at Y
  have hvm : s'.vm = s.vm := by rw [hA]; rfl
  have hhp : s'.heap = H := by rw [hA]; exact hT
  have hW0 : s.WarmedH s'.vm := by rw [hvm]; exact State.WarmedH.refl s
  have hat' : ∀ w ∈ vx_atS own ic cls names, w.before args s' = true := fun w hw => vx_ot_at hW0 hvm.symm (hgood w (List.mem_cons_of_mem _ (List.mem_cons_of_mem _ hw))) (hat w hw)
  have hk' : (Cond.classLink own ik cls).before args s' = true := vx_ot_at hW0 hvm.symm (hgood _ List.mem_cons_self) hk
  have hini' : (Cond.initialized cls).before args s' = true := vx_ot_at hW0 hvm.symm (hgood _ (List.mem_cons_of_mem _ List.mem_cons_self)) hini
  have hU' : vx_Zq Jvm.Bundle.tN "UNASSIGNED_STACK" Jvm.Bundle.steD A s' s'.heap := by rw [hhp]; exact vx_Zq.moved hW0.alike (hU.kept hS.2.1)
  have hN' : vx_Zq Jvm.Bundle.tN "SUPPRESSED_SENTINEL" Jvm.Bundle.listD A s' s'.heap := by rw [hhp]; exact vx_Zq.moved hW0.alike (hN.kept hS.2.1)
  have h : ∀ w ∈ Jvm.Bundle.ownAtoms own ic cls names, w.before args s' = true := vx_own hat' (vx_isRefq hU'.1) (vx_isRefq hN'.1) hU'.2.word hN'.2.word
  have hown' : s'.vm.findClass own = some m.cls := by rw [hvm]; exact hown
  have hins : (Cond.instantiable cls 6).before args s' = true := h _ (by simp [Jvm.Bundle.ownAtoms])
  obtain ⟨vm₁, cX, kX, hfX, hkX, -, -, X₁, st1⟩ := Y.newCold hexec (own := own) (C := cls) (index := ik) (n := 6) hown' hk' hins hini'
    (g := F0 m pc ls rest) rfl (by rw [hb]; exact d0) (Nat.le_refl _) (Nat.le_refl _)
  generalize hT1 : (T.setVm vm₁).pushCell { cls := cX, slots := kX.instanceTypes.map defaultValue, vm := .none } = T1 at X₁ st1
  have hcat : (Value.ref T.heap.size).category = 1 := rfl
  have hcellA : T1.heap[T.heap.size]? = some (freshCell cX kX) := by rw [← hT1]; exact State.heap_pushCell_size _ _
  have d3' : decode c.code (pc + 3) = .ok (.dup, 1) := by rw [hb]; exact d3
  have d4' : decode c.code (pc + 4) = .ok (.ldc is, 2) := by rw [hb]; exact d4
  have hstr' : vk_R own is text sa s' := vk_R.warm hW0 hstr
  obtain ⟨U, hsteps, hrun, hend, hW, hsame, ce, hce, hO⟩ := X₁.ctorThrowS hexec htr (own := own) (cls := cls) (names := names) (ic := ic) hown' hcls hnames h (fun x hx => nomatch hx) hfX hkX hcellA (by rw [hhp, hT]; exact Nat.le_refl _) (msg := .ref sa) rfl
    (g := { method := m, pc := pc + 6, locals := ls, stack := .ref sa :: .ref T.heap.size :: .ref T.heap.size :: rest, locked := none }) rfl hsize rfl rfl (rest := rest) rfl
    (by rw [hb]; exact d6) (by rw [hb]; exact d9) hout hRframes (by simp only [List.map_cons, List.sum_cons, hcat]; omega) hlocks
  obtain ⟨f1, f2⟩ := vx_frame hsame
  rw [hhp] at f1 f2
  have hWs : s.WarmedH U.vm := State.WarmedH.trans hW0 hW
  have hcl : s.vm.findClass cls = some ce.cls := by
    have h9 := hO.cls
    rw [hvm] at h9
    exact h9
  have hall : s.sameButNew ({ U with vm := s.vm } : State) locs mc ms := by
    subst hA
    obtain ⟨e1, e2⟩ := hsame
    rw [State.setFrames_setFrames] at e1
    have h2 : (T.setVm s.vm).sameButNew ({ U with vm := s.vm } : State) [] (0 + 1) (0 + 6) := ⟨e1, e2⟩
    have h3 := X.same.trans h2
    rw [List.append_nil] at h3
    exact h3.mono hc hs
  refine ⟨U, ?_, .threw T.heap.size, hrun, hend, Or.inr ⟨T.heap.size, rfl, cls, ce, locs, hx U hWs.alike f1 (fun q hq => f2 q hq (fun z hz => nomatch hz)), hce, hO.vm, hcl, hWs, hall, hf⟩⟩
  refine st1 _ ?_
  show Steps p.tables e below (T1.setTop { method := m, pc := pc + 3, locals := ls, stack := .ref T.heap.size :: rest, locked := none }) _
  jvm_step X₁.here [X₁.here.top, hexec, d3', Value.category]
  exact X₁.ldcString hexec (own := own) (text := text) (index := is) (a := sa) hown' hstr'.1 hstr'.2
    (g := { method := m, pc := pc + 4, locals := ls, stack := .ref T.heap.size :: .ref T.heap.size :: rest, locked := none }) rfl d4' _ hsteps
/-- 'throw new E("text")', the text by a wide index -/
theorem vx_throwSW {cc : ByteArray} {pc : Nat} (hexec : p.tables.exec = Jvm.exec) (hb : c.code = cc) (hl : l.stackTraces = false) {own cls text : String} {names : List String} {ik is ic mc ms sa : Nat} {A : Nat → Prop}
    (hown : s.vm.findClass own = some m.cls) (hcls : Jvm.Bundle.fit cls = true) (hnames : ∀ n ∈ names, Jvm.Bundle.fit n = true)
    (hk : (Cond.classLink own ik cls).before args s = true) (hini : (Cond.initialized cls).before args s = true) (hstr : vk_R own is text sa s) (hat : ∀ w ∈ vx_atS own ic cls names, w.before args s = true)
    (hgood : ∀ w ∈ Cond.classLink own ik cls :: Cond.initialized cls :: vx_atS own ic cls names, vx_ot w = true)
    (hU : vx_Zq Jvm.Bundle.tN "UNASSIGNED_STACK" Jvm.Bundle.steD A s s.heap) (hN : vx_Zq Jvm.Bundle.tN "SUPPRESSED_SENTINEL" Jvm.Bundle.listD A s s.heap) (hS : va_S A s.heap H locs) (hsize : ls.size = c.maxLocals)
    (d0 : decode cc pc = .ok (.new ik, 3)) (d3 : decode cc (pc + 3) = .ok (.dup, 1)) (d4 : decode cc (pc + 4) = .ok (.ldc_w is, 3)) (d7 : decode cc (pc + 7) = .ok (.invokespecial ic, 3)) (d10 : decode cc (pc + 10) = .ok (.athrow, 1))
    (hout : ∀ x ∈ c.exceptionTable.toList, covers x (pc + 10) = false)
    (hRframes : names.length + 3 < R.frames) (hRlocals : (rest.map fun v => v.category).sum + (13 * (names.length + 1) + 43) ≤ R.locals) (hRcells : cells + 1 ≤ R.cells) (hRslots : slots + 6 ≤ R.slots) (hlocks : meth.locks = false)
    (hx : ∀ t : State, s.vm.Alike t.vm → H.size ≤ t.heap.size → (∀ q : Nat, q < H.size → t.heap[q]? = H[q]?) → XC cls s t)
    (hf : ∀ z ∈ locs, free z.base) (hc : cells + 1 ≤ mc) (hs : slots + 6 ≤ ms) :
    W p l e R s m args below meth c H locs cells slots (vx_MQ below Qc XC args s mc ms free) (F0 m pc ls rest) := by
  intro T hT X
  have htr : e.platform.stackTraces = false := (show e.platform.stackTraces = l.stackTraces by rw [X.admits.platform]).trans hl
  have Y := vx_rebase X (R' := { frames := R.frames, locals := R.locals, cells := 1, slots := 6 }) (Nat.le_refl _) (Nat.le_refl _) hRcells hRslots
  obtain ⟨s', hA⟩ : ∃ z, z = (T.setVm s.vm).setFrames (.invoking m args :: below) := ⟨_, rfl⟩
  rw [← hA] at Y
  have hvm : s'.vm = s.vm := by rw [hA]; rfl
  have hhp : s'.heap = H := by rw [hA]; exact hT
  have hW0 : s.WarmedH s'.vm := by rw [hvm]; exact State.WarmedH.refl s
  have hat' : ∀ w ∈ vx_atS own ic cls names, w.before args s' = true := fun w hw => vx_ot_at hW0 hvm.symm (hgood w (List.mem_cons_of_mem _ (List.mem_cons_of_mem _ hw))) (hat w hw)
  have hk' : (Cond.classLink own ik cls).before args s' = true := vx_ot_at hW0 hvm.symm (hgood _ List.mem_cons_self) hk
  have hini' : (Cond.initialized cls).before args s' = true := vx_ot_at hW0 hvm.symm (hgood _ (List.mem_cons_of_mem _ List.mem_cons_self)) hini
  have hU' : vx_Zq Jvm.Bundle.tN "UNASSIGNED_STACK" Jvm.Bundle.steD A s' s'.heap := by rw [hhp]; exact vx_Zq.moved hW0.alike (hU.kept hS.2.1)
  have hN' : vx_Zq Jvm.Bundle.tN "SUPPRESSED_SENTINEL" Jvm.Bundle.listD A s' s'.heap := by rw [hhp]; exact vx_Zq.moved hW0.alike (hN.kept hS.2.1)
  have h : ∀ w ∈ Jvm.Bundle.ownAtoms own ic cls names, w.before args s' = true := vx_own hat' (vx_isRefq hU'.1) (vx_isRefq hN'.1) hU'.2.word hN'.2.word
  have hown' : s'.vm.findClass own = some m.cls := by rw [hvm]; exact hown
  have hins : (Cond.instantiable cls 6).before args s' = true := h _ (by simp [Jvm.Bundle.ownAtoms])
  obtain ⟨vm₁, cX, kX, hfX, hkX, -, -, X₁, st1⟩ := Y.newCold hexec (own := own) (C := cls) (index := ik) (n := 6) hown' hk' hins hini'
    (g := F0 m pc ls rest) rfl (by rw [hb]; exact d0) (Nat.le_refl _) (Nat.le_refl _)
  generalize hT1 : (T.setVm vm₁).pushCell { cls := cX, slots := kX.instanceTypes.map defaultValue, vm := .none } = T1 at X₁ st1
  have hcat : (Value.ref T.heap.size).category = 1 := rfl
  have hcellA : T1.heap[T.heap.size]? = some (freshCell cX kX) := by rw [← hT1]; exact State.heap_pushCell_size _ _
  have d3' : decode c.code (pc + 3) = .ok (.dup, 1) := by rw [hb]; exact d3
  have d4' : decode c.code (pc + 4) = .ok (.ldc_w is, 3) := by rw [hb]; exact d4
  have hstr' : vk_R own is text sa s' := vk_R.warm hW0 hstr
  obtain ⟨U, hsteps, hrun, hend, hW, hsame, ce, hce, hO⟩ := X₁.ctorThrowS hexec htr (own := own) (cls := cls) (names := names) (ic := ic) hown' hcls hnames h (fun x hx => nomatch hx) hfX hkX hcellA (by rw [hhp, hT]; exact Nat.le_refl _) (msg := .ref sa) rfl
    (g := { method := m, pc := pc + 7, locals := ls, stack := .ref sa :: .ref T.heap.size :: .ref T.heap.size :: rest, locked := none }) rfl hsize rfl rfl (rest := rest) rfl
    (by rw [hb]; exact d7) (by rw [hb]; exact d10) hout hRframes (by simp only [List.map_cons, List.sum_cons, hcat]; omega) hlocks
  obtain ⟨f1, f2⟩ := vx_frame hsame
  rw [hhp] at f1 f2
  have hWs : s.WarmedH U.vm := State.WarmedH.trans hW0 hW
  have hcl : s.vm.findClass cls = some ce.cls := by
    have h9 := hO.cls
    rw [hvm] at h9
    exact h9
  have hall : s.sameButNew ({ U with vm := s.vm } : State) locs mc ms := by
    subst hA
    obtain ⟨e1, e2⟩ := hsame
    rw [State.setFrames_setFrames] at e1
    have h2 : (T.setVm s.vm).sameButNew ({ U with vm := s.vm } : State) [] (0 + 1) (0 + 6) := ⟨e1, e2⟩
    have h3 := X.same.trans h2
    rw [List.append_nil] at h3
    exact h3.mono hc hs
  refine ⟨U, ?_, .threw T.heap.size, hrun, hend, Or.inr ⟨T.heap.size, rfl, cls, ce, locs, hx U hWs.alike f1 (fun q hq => f2 q hq (fun z hz => nomatch hz)), hce, hO.vm, hcl, hWs, hall, hf⟩⟩
  refine st1 _ ?_
  show Steps p.tables e below (T1.setTop { method := m, pc := pc + 3, locals := ls, stack := .ref T.heap.size :: rest, locked := none }) _
  jvm_step X₁.here [X₁.here.top, hexec, d3', Value.category]
  exact X₁.ldcStringW hexec (own := own) (text := text) (index := is) (a := sa) hown' hstr'.1 hstr'.2
    (g := { method := m, pc := pc + 4, locals := ls, stack := .ref T.heap.size :: .ref T.heap.size :: rest, locked := none }) rfl d4' _ hsteps
end Ends
section Bodies
variable {l : Launch}
theorem vx_ofW {y : MethodName} {ws ws' : List Cond} {rm : Room} {Pc : Array Value → State → Prop} {Qc : Array Value → State → Outcome → State → Prop} {XC : String → State → State → Prop} {mc ms : Nat} {free : Addr → Prop} {cc : ByteArray} {maxL : Nat} {ret : Option FieldType}
    (hy : plainName y.cls = true) (hw : ws = Cond.code y cc maxL ret :: ws')
    (body : ∀ p e s m args below meth c s₁, BodyLoose p l y (headSpec ws rm) cc maxL ret e s m args below meth c s₁ → c.maxLocals = maxL → (∀ x ∈ c.exceptionTable.toList, False) → Pc args s →
      W p l e (headSpec ws rm).room s m args below meth c s.heap [] 0 0 (vx_MQ below Qc XC args s mc ms free) (entryFrame m args maxL)) : vx_Met l y ws rm Pc Qc XC mc ms free := by
  refine MetFree.of_bodyS (code := cc) (maxLocals := maxL) (ret := ret) hy ?_ ?_
  · intro args s m h hn
    obtain ⟨meth, c, h1, h2, h3, h4, h5, h6, -, -⟩ := Cond.code_spec hn (atoms_spec (ws := ws) h _ (by rw [hw]; exact List.mem_cons_self))
    exact ⟨meth, c, h1, h2, h3, h4, h5, h6⟩
  · intro p e s m args below meth c s₁ B hml hP _
    have hh0 : s₁.heap = s.heap := by rw [B.state]; rfl
    have ht : ∀ x ∈ c.exceptionTable.toList, False := by
      obtain ⟨meth9, c9, h1, h2, -, -, -, -, h7, -⟩ := Cond.code_spec B.named (atoms_spec (ws := ws) B.pre _ (by rw [hw]; exact List.mem_cons_self))
      cases Option.some.inj (h1.symm.trans B.method)
      cases Option.some.inj (h2.symm.trans (Stand.of_body B).code)
      intro x hx
      rw [Array.isEmpty_iff.mp h7] at hx
      cases hx
    obtain ⟨t, a1, o, b1, b2, b3⟩ := body p e s m args below meth c s₁ B hml ht hP s₁ hh0 (Stand.of_body B)
    exact ⟨t, o, a1, b1, b2, b3⟩
/-- the table of a body with handlers -/
theorem vx_table {p : Program} {x y : MethodName} {S : Spec} {cc bytes : ByteArray} {maxL maxL' : Nat} {ret ret' : Option FieldType} {e : Env} {s s₁ : State} {m : MethodId} {args : Array Value} {below : List Frame} {meth : Method} {c : Code} {hh : List (Nat × Nat × Nat × Nat)}
    (B : BodyLoose p l y S cc maxL ret e s m args below meth c s₁) (h : (Cond.codeWith y bytes maxL' ret' hh).before args s = true) : c.exceptionTable.toList = tableOf hh := by
  obtain ⟨m9, meth9, c9, hn9, h1, h2, -, -, h6, -⟩ := Cond.codeWith_spec h
  cases Option.some.inj (hn9.symm.trans B.named)
  cases Option.some.inj (h1.symm.trans B.method)
  cases Option.some.inj (h2.symm.trans (Stand.of_body B).code)
  rw [← h6, table_eq]
end Bodies
end VXA
/-! ===== END ===== -/
/-! ===== BEGIN a static call of a method with an exception table ===== -/
section VXS
variable {p : Program} {l : Launch} {e : Env} {R : Room} {s : State} {m : MethodId} {args : Array Value} {below : List Frame} {meth : Method} {c : Code} {T : State} {H : Heap} {locs : List Loc} {cells slots : Nat}
abbrev vx_CSW (R : Room) (s : State) (args : Array Value) (own : String) (index : Nat) (y : MethodName) (bytes : ByteArray) (maxL : Nat) (ret : Option FieldType) (hh : List (Nat × Nat × Nat × Nat)) (ws : List Cond) (rm : Room) (mc ms n : Nat) : Prop :=
  (rm.cells = mc ∧ rm.slots = ms ∧ rm.frames + 1 ≤ R.frames ∧ 8 + (maxL + 11) + rm.locals ≤ R.locals ∧ (∀ w ∈ ws, ∀ (a' : Array Value) (U : State), s.WarmedH U.vm → w.before a' U = true) ∧ Cond.codeWith y bytes maxL ret hh ∈ ws) ∧
  (Cond.codeWith y bytes maxL ret hh).before args s = true ∧ (Cond.initialized y.cls).before args s = true ∧ (y.cls ≠ "java/lang/invoke/MethodHandle" ∧ y.cls ≠ "java/lang/invoke/VarHandle") ∧
  (∀ sig, parseMethodDescriptor y.desc = some sig → n = sig.parameters.length) ∧ (Cond.methodLink own index y).before args s = true ∧ (Cond.static y).before args s = true
theorem vx_cwSW {own : String} {index maxL mc ms : Nat} {y : MethodName} {bytes : ByteArray} {ret : Option FieldType} {hh : List (Nat × Nat × Nat × Nat)} {Ts ws ws' : List Cond} {rm : Room} (n : Nat) (ht : ∀ w ∈ Ts, w.before args s = true) (hT : GoodIn Ts (va_wsS own index y ws)) (hw : ws = Cond.codeWith y bytes maxL ret hh :: ws') (hrc : rm.cells = mc) (hrs : rm.slots = ms)
    (hd : y.cls ≠ "java/lang/invoke/MethodHandle" ∧ y.cls ≠ "java/lang/invoke/VarHandle" ∧ (parseMethodDescriptor y.desc).map (fun d => d.parameters.length) = some n) (hR : rm.frames + 1 ≤ R.frames ∧ 8 + (maxL + 11) + rm.locals ≤ R.locals) :
    vx_CSW R s args own index y bytes maxL ret hh ws rm mc ms n := by
  have ok : ∀ w ∈ va_wsS own index y ws, w.before args s = true := fun w h => ht w (hT w h).1
  have hG : GoodIn Ts ws := fun w h => hT w (by unfold va_wsS; exact List.mem_append_right _ h)
  have hc : Cond.codeWith y bytes maxL ret hh ∈ ws := by rw [hw]; exact List.mem_cons_self
  refine ⟨⟨hrc, hrs, hR.1, hR.2, pay_in ht hG, hc⟩, ht _ (hG _ hc).1, ok _ (by simp [va_wsS]), ⟨hd.1, hd.2.1⟩, fun sig h => ?_, ok _ (by simp [va_wsS]), ok _ (by simp [va_wsS])⟩
  have h2 := hd.2.2
  rw [h] at h2
  exact (Option.some.inj h2).symm
theorem vx_callSW (X : Stand p l e R s m args below meth c T locs cells slots) (hexec : p.tables.exec = Jvm.exec) {own : String} {index : Nat} {y : MethodName} {bytes : ByteArray} {maxL : Nat} {ret : Option FieldType} {hh : List (Nat × Nat × Nat × Nat)}
    (hown : s.vm.findClass own = some m.cls) (hlink : (Cond.methodLink own index y).before args s = true) (hstat : (Cond.static y).before args s = true) (hinit : (Cond.initialized y.cls).before args s = true)
    (hcode : (Cond.codeWith y bytes maxL ret hh).before args s = true) (hy : y.cls ≠ "java/lang/invoke/MethodHandle" ∧ y.cls ≠ "java/lang/invoke/VarHandle")
    {W9 : Nat} {Pre : Pt → Array Value → Prop} {Post : Pt → Array Value → Option Value → Pt → Prop} (hK : Back l R p e below s args y 3 W9 Pre Post)
    {g : JFrame} (hg : g.method = m) (hsize : g.locals.size = c.maxLocals) {argsL rest : List Value} (hlen : ∀ sig, parseMethodDescriptor y.desc = some sig → argsL.length = sig.parameters.length)
    (hstack : g.stack = argsL.reverse ++ rest) (hW : 2 * g.monitorRoom + (rest.map fun v => v.category).sum ≤ W9) (hdg : decode c.code g.pc = .ok (.invokestatic index, 3))
    (hpre : ∀ vm₁, s.WarmedH vm₁ → Pre ⟨T.setVm vm₁, locs, cells, slots⟩ argsL.toArray) :
    ∃ (v : Option Value) (vm₁ : Vm) (B : Pt), s.WarmedH vm₁ ∧ Stand p l e R s m args below meth c B.U B.locs B.cells B.slots ∧ Post ⟨T.setVm vm₁, locs, cells, slots⟩ argsL.toArray v B ∧
      ∀ target, Steps p.tables e below (B.U.setTop { g with pc := g.pc + 3, stack := v.toList ++ rest }) target → Steps p.tables e below (T.setTop g) target := by
  obtain ⟨mk, methM, cM, hnamed, hmethM, -, -, -, -, -, -, hsigM⟩ := Cond.codeWith_spec hcode
  have hstatic : methM.isStatic = true := Cond.static_spec hnamed hmethM hstat
  obtain ⟨kP, hkP, -⟩ := className_of_methodNamed hnamed
  have hinitP : kP.init = .initialized := Cond.initialized_spec (findClass_of_methodNamed hnamed) hkP hinit
  obtain ⟨vm₁, X₁, hstep₁⟩ := X.invokestatic hexec hown hlink hnamed hmethM hstatic hkP hinitP hy (g := g) hg (argsL := argsL) (rest := rest) (hlen _ hsigM) hstack hdg
  obtain ⟨v, B, X', hpost, hsteps⟩ := hK m meth c ⟨T.setVm vm₁, locs, cells, slots⟩ { g with stack := rest } (.invokestatic index) mk argsL.toArray X₁ hg hsize hdg hW (X₁.named hnamed) (hpre vm₁ X₁.warmed)
  exact ⟨v, vm₁, B, X₁.warmed, X', hpost, fun target h => hstep₁ _ fun acts => by rw [doInvoke_state]; exact hsteps.trans h⟩
theorem vx_runSW {y : MethodName} {bytes cc : ByteArray} {maxL nL mc ms n index : Nat} {ret : Option FieldType} {hh : List (Nat × Nat × Nat × Nat)} {ws : List Cond} {rm : Room} {Pc : Array Value → State → Prop} {Qc : Array Value → State → Outcome → State → Prop} {free : Addr → Prop} {Ts : List Cond} {own : String} {As rest : List Value} {g : JFrame}
    (S : CallFix p m c cc nL s args Ts own) (hM : Met l y ws rm Pc Qc mc ms free) (cw : vx_CSW R s args own index y bytes maxL ret hh ws rm mc ms n) (hp : PreS s H Pc As)
    (hg : g.method = m) (hn : As.length = n) (hsize : g.locals.size = nL) (hstack : g.stack = As.reverse ++ rest) (hW : 2 * g.monitorRoom + (rest.map fun v => v.category).sum ≤ 8) (hdg : decode cc g.pc = .ok (.invokestatic index, 3)) (hf : cells + mc ≤ R.cells ∧ slots + ms ≤ R.slots) :
    va_Run p l e R s m args below meth c H locs cells slots mc ms g rest (Qc As.toArray) (free) := by
  obtain ⟨⟨hrc, hrs, hfr, hlo, hws, hcw⟩, hcode, hini, hy, hlen, hl, hstt⟩ := cw
  have hK : Back l R p e below s args y 3 8 (PreOf R mc ms Pc) (PostOf Qc mc ms free) := va_backW (hh := hh) (bytes := bytes) (maxL := maxL) (ret := ret) hM hp.1 hrc hrs hfr hlo hws hcw (fun a' U hW => word_at hW (Or.inl (by first | rfl | simp [Cond.onTables, Cond.keeps, Cond.steady])) hini)
  obtain ⟨hx, hb, hml, ho, -⟩ := S
  intro T hT X
  obtain ⟨v, vm₁, ⟨U', l2, c2, s2⟩, hW₁, X', ⟨g', mk, t, L, e1, e2, hq, h1, hL, h2, h3⟩, st⟩ := vx_callSW X hx (hh := hh) (bytes := bytes) (maxL := maxL) (ret := ret) ho hl hstt hini hcode hy hK hg (hsize.trans hml.symm) (argsL := As) (rest := rest) (fun sig h => hn.trans (hlen sig h)) hstack hW (by rw [hb]; exact hdg)
    (fun vm₁ hW₁ => ⟨hf.1, hf.2, hp.2 (T.setVm vm₁) hT hW₁⟩)
  dsimp only [Pt.U, Pt.locs, Pt.cells, Pt.slots] at X' e1 e2 h1 h2 h3 st
  subst h1; subst h2; subst h3
  exact ⟨v, (T.setVm vm₁).calling g' mk As.toArray, t, U', L, hT, X', hL, e1, e2, hq, st⟩
/-- not caught here, past rows that name other classes: it goes on to the caller -/
theorem vx_outP {p : Program} {l : Launch} {e : Env} {R : Room} {s : State} {m : MethodId} {args : Array Value} {below : List Frame} {meth : Method} {c : Code} {H : Heap} {locs : List Loc} {cells slots : Nat} {free : Addr → Prop} {ls : Array Slot} {rest : List Value} {Qc : Array Value → State → Outcome → State → Prop} {XC : String → State → State → Prop}
    {pc : Nat} {own E : String} {ce : Cell} {q : Addr} {mc ms : Nat} (hown : s.vm.findClass own = some m.cls) (hlocks : meth.locks = false)
    (hpass : ∀ z ∈ c.exceptionTable.toList, covers z pc = false ∨ (z.catchType ≠ 0 ∧ ∃ nm : String, (Cond.classLink own z.catchType nm).before args s = true ∧ va_Nc E nm s)) (hcell : H[q]? = some ce) (hv : ce.vm = .none) (hcl : s.vm.findClass E = some ce.cls)
    (hx : ∀ t : State, t.heap = H → s.vm.Alike t.vm → XC E s t) (hf : ∀ z ∈ locs, free z.base) (hc : cells ≤ mc) (hs : slots ≤ ms) :
    vx_W p l e R s m args below meth c H locs cells slots (vx_MQ below Qc XC args s mc ms free) (F0 m pc ls rest) q := by
  intro T hT X
  have hpl : e.platform.magicAccessors = ({} : Platform).magicAccessors := by rw [X.admits.platform]
  obtain ⟨vm', hW', X', st⟩ := X.outThrough hlocks q (g := F0 m pc ls rest) rfl rfl rfl (cell := ce) (by rw [hT]; exact hcell) (by rw [hv]; rfl)
    (by obtain ⟨k9, h9, -⟩ := Vm.findClass_spec hcl; exact ⟨k9, h9⟩) (fun z hz => by
      rcases hpass z hz with h | ⟨hz0, nm, hl1, hn1⟩
      · exact Or.inl h
      · obtain ⟨c6, hc6, hcl6⟩ := Cond.classLink_spec hown hl1 e.platform hpl
        obtain ⟨a8, b8, h1, h2, h3⟩ := hn1
        cases Option.some.inj (h1.symm.trans hcl)
        cases Option.some.inj (h2.symm.trans hc6)
        exact Or.inr ⟨hz0, _, hcl6, h3⟩)
  obtain ⟨g₀, hfr⟩ := X'.frames_eq
  have hcell9 : ((T.setVm vm').setFrames (.throwing q :: below)).heap[q]? = some ce := by
    show T.heap[q]? = some ce
    rw [hT]; exact hcell
  have hend : Ended ((T.setVm vm').setFrames (.throwing q :: below)) below (.threw q) := State.frames_setFrames _ (State.cur_lt_of_frames hfr)
  refine ⟨(T.setVm vm').setFrames (.throwing q :: below), ?_, .threw q, X'.here.running, hend, Or.inr ⟨q, rfl, E, ce, locs, hx _ hT (X'.ends _).1.alike, hcell9, hv, hcl, (X'.ends _).1, (X'.ends _).2.mono hc hs, hf⟩⟩
  rw [X.pushThrowing_eq]
  exact st
/-- a thing of a world lies in the heap -/
theorem vx_lt {D : va_G} {cl : List vw_C} {ws : va_W} {H1 : Heap} (h : va_P D cl ws H1) {k : Nat} {q : Nat × va_E} (hk : ws[k]? = some q) : q.1 < H1.size := (h k q hk).lt
end VXS
/-! ===== END ===== -/
/-! ===== BEGIN methods with a table of their own: called by a name, returning or throwing ===== -/
section VXH
/-! vx_backW, vx_callVX, vx_callSX, vx_callVW, vx_runVW, vx_runVX, vx_runSX, vx_ofWH follow the same proofs as their sisters above (Free/Laws.lean, Shelf42/LK1.lean); vx_outP calls Shelf42/NT130.lean (outThrough). -/
section
variable {l : Launch} {R : Room} {p : Program} {e : Env} {below : List Frame} {s : State} {sargs : Array Value} {y : MethodName} {len W9 : Nat}
theorem vx_backW {ws : List Cond} {rm : Room} {Pc : Array Value → State → Prop} {Qc : Array Value → State → Outcome → State → Prop} {XC : String → State → State → Prop} {mc ms : Nat} {free : Addr → Prop} {bytes : ByteArray} {maxL : Nat} {ret : Option FieldType} {hh : List (Nat × Nat × Nat × Nat)}
    (hM : vx_Met l y ws rm Pc Qc XC mc ms free) (hblind : FrameBlind Pc) (hrc : rm.cells = mc) (hrs : rm.slots = ms)
    (hframes : rm.frames + 1 ≤ R.frames) (hlocals : W9 + (maxL + 11) + rm.locals ≤ R.locals)
    (hws : ∀ w ∈ ws, ∀ a' U, s.WarmedH U.vm → w.before a' U = true) (hcode : Cond.codeWith y bytes maxL ret hh ∈ ws) (hinit : ∀ a' U, s.WarmedH U.vm → (Cond.initialized y.cls).before a' U = true) :
    vx_Back l R p e below s sargs y len W9 (PreOf R mc ms Pc) (PostOf Qc mc ms free) (vx_Post XC mc ms free) := by
  intro m meth c A g ig mk a X hg hsize hdg hW hn hp
  have h1 : (headSpec ws rm).pre.before a A.U = true := atoms_intro fun w hw => hws w hw _ _ X.warmed
  have h2 : (Cond.codeWith y bytes maxL ret hh).before a A.U = true := hws _ hcode _ _ X.warmed
  have h3 : (Cond.initialized y.cls).before a A.U = true := hinit _ _ X.warmed
  have h4 : A.cells + (headSpec ws rm).room.cells ≤ R.cells := by rw [show (headSpec ws rm).room.cells = mc from hrc]; exact hp.1
  have h5 : A.slots + (headSpec ws rm).room.slots ≤ R.slots := by rw [show (headSpec ws rm).room.slots = ms from hrs]; exact hp.2.1
  have hPc : Pc a (A.U.calling g mk a) := hblind _ _ _ _ hp.2.2
  obtain ⟨U, Ls, c0, s0⟩ := A
  dsimp only [Pt.U, Pt.locs, Pt.cells, Pt.slots] at h1 h2 h3 h4 h5 X hn hPc ⊢
  obtain ⟨m9, methY, cY, hn9, hmY, hcY, -, hlY, -⟩ := Cond.codeWith_spec h2
  cases Option.some.inj (hn9.symm.trans hn)
  obtain ⟨kY, hkY, -⟩ := className_of_methodNamed hn
  have hinitY : kY.init = .initialized := Cond.initialized_spec (findClass_of_methodNamed hn) hkY h3
  have h : At U g.method c below := by rw [hg]; exact X.here
  have hlocals9 : W9 + (maxL + 11) + (headSpec ws rm).room.locals ≤ R.locals := hlocals
  have happ : (headSpec ws rm).appliesLoose y e.platform (U.calling g mk a) = true :=
    Spec.appliesLoose_calling (g := g) h hdg hn hkY hinitY
      (X.room_calling (g := g) (R' := (headSpec ws rm).room) hsize hmY hcY hframes (by rw [hlY]; omega) h4 h5) h1
  obtain ⟨mid, hmid⟩ := h.above
  have hfr : (U.setTop g).frames = (.java g :: mid) ++ below := by rw [State.frames_setTop' g h.top, hmid]; rfl
  obtain ⟨o, s₂, hsteps, -, hend, hq⟩ := Steps.callFree hM p X.admits X.cas X.clock (acts := []) hfr happ hPc trivial
  have hq' : vx_Q Qc XC mc ms free a (U.calling g mk a) o s₂ := hq
  rw [State.frames_setTop' g h.top] at hend
  obtain ⟨g₀, hg0⟩ := Option.isSome_iff_exists.mp h.top
  obtain ⟨r, hr⟩ := State.topJava?_eq_some.mp hg0
  have hr' : (({ U with heap := s₂.heap, slotsUsed := s₂.slotsUsed } : State).setVm s₂.vm).frames = .java g₀ :: r := hr
  rcases hq' with ⟨hqc, L, hfe, hL⟩ | ⟨q, rfl, E, ce, L, hx, hce, hcv, hcl, hW₂, hsm, hL⟩
  · obtain ⟨⟨v, rfl⟩, hW₂, e2, q2, q3, q4, q5, q6⟩ := id hfe
    have e3 : s₂ = ({ (U.calling g mk a).setFrames s₂.frames with heap := s₂.heap, slotsUsed := s₂.slotsUsed } : State).setVm s₂.vm := by
      have : s₂ = ({ s₂ with vm := (U.calling g mk a).vm } : State).setVm s₂.vm := rfl
      rw [e2] at this
      exact this
    obtain ⟨c₂, i₂, len₂, hc₂, hd₂, hf₂⟩ := hend
    have hW' : U.WarmedH s₂.vm := hW₂
    have hcc : c₂ = c := by
      have h1 : s₂.code? g.method = U.code? g.method := by
        rw [State.code?_eq, State.code?_eq, hW'.alike.method?]
      exact Option.some.inj (hc₂.symm.trans (h1.trans h.code))
    subst hcc
    have hlen : len₂ = len := by rw [hdg] at hd₂; cases hd₂; rfl
    subst hlen
    have hs₂ : s₂ = (({ U with heap := s₂.heap, slotsUsed := s₂.slotsUsed } : State).setVm s₂.vm).setTop { g with pc := g.pc + len₂, stack := v.toList ++ g.stack } := by
      refine e3.trans ?_
      rw [hf₂, State.calling_eq h.top, State.setFrames_setFrames, State.setTop_of_frames _ hr', hr]
      rfl
    have hsame : U.sameButNew ({ U with heap := s₂.heap, slotsUsed := s₂.slotsUsed } : State) L mc ms := by
      refine ⟨?_, q2, q3, q4, q5, q6⟩
      obtain ⟨t, ht, -⟩ := State.frames_cons hr
      show ({ U with heap := s₂.heap, slotsUsed := s₂.slotsUsed } : State) = { U.setFrames U.frames with heap := s₂.heap, slotsUsed := s₂.slotsUsed }
      rw [State.setFrames_self ht]
    subst hg
    refine Or.inl ⟨v, ⟨(({ U with heap := s₂.heap, slotsUsed := s₂.slotsUsed } : State).setVm s₂.vm), Ls ++ L, c0 + mc, s0 + ms⟩,
      ⟨X.admits, X.cas, X.clock, X.frames, X.room, X.hears, X.method, X.code, (X.here.setHeapUsed s₂.heap s₂.slotsUsed).setVm hW'.alike, X.tail, State.WarmedH.trans X.warmed hW', X.limits, X.bytes, X.same.trans (hsame.setVm s.vm)⟩,
      ⟨g, mk, s₂, L, rfl, rfl, hqc, rfl, hL, rfl, rfl⟩, ?_⟩
    show Steps p.tables e below _ ((({ U with heap := s₂.heap, slotsUsed := s₂.slotsUsed } : State).setVm s₂.vm).setTop { g with pc := g.pc + len₂, stack := v.toList ++ g.stack })
    rw [← hs₂]
    exact hsteps
  · obtain ⟨e2, q2, q3, q4, q5, q6⟩ := id hsm
    have e3 : s₂ = ({ (U.calling g mk a).setFrames s₂.frames with heap := s₂.heap, slotsUsed := s₂.slotsUsed } : State).setVm s₂.vm := by
      have : s₂ = ({ s₂ with vm := (U.calling g mk a).vm } : State).setVm s₂.vm := rfl
      rw [e2] at this
      exact this
    have hf₂ : s₂.frames = .throwing q :: .java g :: U.frames.tail := hend
    have hW' : U.WarmedH s₂.vm := hW₂
    have hs₂ : s₂ = ((({ U with heap := s₂.heap, slotsUsed := s₂.slotsUsed } : State).setVm s₂.vm).setTop g).pushFrame (.throwing q) := by
      refine e3.trans ?_
      rw [hf₂, State.calling_eq h.top, State.setFrames_setFrames, State.pushFrame, State.frames_setTop _ hr', State.setTop_of_frames _ hr', State.setFrames_setFrames, hr]
      rfl
    have hsame : U.sameButNew ({ U with heap := s₂.heap, slotsUsed := s₂.slotsUsed } : State) L mc ms := by
      refine ⟨?_, q2, q3, q4, q5, q6⟩
      obtain ⟨t, ht, -⟩ := State.frames_cons hr
      show ({ U with heap := s₂.heap, slotsUsed := s₂.slotsUsed } : State) = { U.setFrames U.frames with heap := s₂.heap, slotsUsed := s₂.slotsUsed }
      rw [State.setFrames_self ht]
    subst hg
    refine Or.inr ⟨q, ⟨(({ U with heap := s₂.heap, slotsUsed := s₂.slotsUsed } : State).setVm s₂.vm), Ls ++ L, c0 + mc, s0 + ms⟩,
      ⟨X.admits, X.cas, X.clock, X.frames, X.room, X.hears, X.method, X.code, (X.here.setHeapUsed s₂.heap s₂.slotsUsed).setVm hW'.alike, X.tail, State.WarmedH.trans X.warmed hW', X.limits, X.bytes, X.same.trans (hsame.setVm s.vm)⟩,
      ⟨g, mk, s₂, L, E, ce, rfl, rfl, hx, hce, hcv, hcl, rfl, hL, rfl, rfl⟩, ?_⟩
    show Steps p.tables e below _ (((({ U with heap := s₂.heap, slotsUsed := s₂.slotsUsed } : State).setVm s₂.vm).setTop g).pushFrame (.throwing q))
    rw [← hs₂]
    exact hsteps
end
variable {p : Program} {l : Launch} {e : Env} {R : Room} {s : State} {m : MethodId} {args : Array Value} {below : List Frame} {meth : Method} {c : Code} {T : State} {H : Heap} {locs : List Loc} {cells slots : Nat}
theorem vx_callVX (X : Stand p l e R s m args below meth c T locs cells slots) (hexec : p.tables.exec = Jvm.exec) {own C : String} {index : Nat} {y : MethodName} {bytes : ByteArray} {maxL : Nat} {ret : Option FieldType} {hh : List (Nat × Nat × Nat × Nat)}
    (hown : s.vm.findClass own = some m.cls) (hlink : (Cond.methodLink own index y).before args s = true) (hinst : (Cond.instanceMethod y).before args s = true) (hsel : (Cond.selects C y y).before args s = true)
    (hcode : (Cond.codeWith y bytes maxL ret hh).before args s = true) (hy : y.cls ≠ "java/lang/invoke/MethodHandle" ∧ y.cls ≠ "java/lang/invoke/VarHandle")
    {W9 : Nat} {Pre : Pt → Array Value → Prop} {Post : Pt → Array Value → Option Value → Pt → Prop} {PostX : Pt → Array Value → Addr → Pt → Prop} (hK : vx_Back l R p e below s args y 3 W9 Pre Post PostX)
    {b : Addr} {cellB : Cell} (hcell : T.heap[b]? = some cellB) (hobj : cellB.vm.isStatics = false) (hcls : s.vm.findClass C = some cellB.cls)
    {g : JFrame} (hg : g.method = m) (hsize : g.locals.size = c.maxLocals) {argsL rest : List Value} (hlen : ∀ sig, parseMethodDescriptor y.desc = some sig → argsL.length = sig.parameters.length)
    (hstack : g.stack = argsL.reverse ++ .ref b :: rest) (hW : 2 * g.monitorRoom + (rest.map fun v => v.category).sum ≤ W9) (hdg : decode c.code g.pc = .ok (.invokevirtual index, 3))
    (hpre : ∀ vm₁, s.WarmedH vm₁ → Pre ⟨T.setVm vm₁, locs, cells, slots⟩ (Value.ref b :: argsL).toArray) :
    (∃ (v : Option Value) (vm₁ : Vm) (B : Pt), s.WarmedH vm₁ ∧ Stand p l e R s m args below meth c B.U B.locs B.cells B.slots ∧ Post ⟨T.setVm vm₁, locs, cells, slots⟩ (Value.ref b :: argsL).toArray v B ∧
      ∀ target, Steps p.tables e below (B.U.setTop { g with pc := g.pc + 3, stack := v.toList ++ rest }) target → Steps p.tables e below (T.setTop g) target) ∨
    (∃ (q : Addr) (vm₁ : Vm) (B : Pt), s.WarmedH vm₁ ∧ Stand p l e R s m args below meth c B.U B.locs B.cells B.slots ∧ PostX ⟨T.setVm vm₁, locs, cells, slots⟩ (Value.ref b :: argsL).toArray q B ∧
      Steps p.tables e below (T.setTop g) ((B.U.setTop { g with stack := rest }).pushFrame (.throwing q))) := by
  obtain ⟨mk, methM, hnamed, hmethM, hstM, habM⟩ := Cond.instanceMethod_spec hinst
  obtain ⟨m8, methM', cM, hn8, hmethM', -, -, -, -, -, -, hsigM⟩ := Cond.codeWith_spec hcode
  cases Option.some.inj (hn8.symm.trans hnamed)
  cases hmethM.symm.trans hmethM'
  obtain ⟨c2, r2, m2, q1, q2, q3, q4, kP, hkP, hkPi⟩ := Cond.selects_spec hsel
  cases hcls.symm.trans q1
  cases (State.methodFound?_of_named hnamed hy).symm.trans q2
  cases hnamed.symm.trans q3
  have hselP : selectMethod e.platform s.vm cellB.cls mk = .method mk := by rw [Launch.admits_selectMethod X.admits]; exact q4
  obtain ⟨vm₁, X₁, hstep₁⟩ := X.invokevirtual hexec hown hlink hnamed hmethM hstM hkP hkPi hy (a := b) (cell := cellB) hcell
    (fun z h => by rw [h] at hobj; cases hobj) hselP hmethM habM hkP hkPi (g := g) hg (argsL := argsL) (rest := rest) (hlen _ hsigM) hstack hdg
  rcases hK m meth c ⟨T.setVm vm₁, locs, cells, slots⟩ { g with stack := rest } (.invokevirtual index) mk (Value.ref b :: argsL).toArray X₁ hg hsize hdg hW (X₁.named hnamed) (hpre vm₁ X₁.warmed) with ⟨v, B, X', hpost, hsteps⟩ | ⟨q, B, X', hpost, hsteps⟩
  · exact Or.inl ⟨v, vm₁, B, X₁.warmed, X', hpost, fun target h => hstep₁ _ fun acts => by rw [doInvoke_state]; exact hsteps.trans h⟩
  · exact Or.inr ⟨q, vm₁, B, X₁.warmed, X', hpost, hstep₁ _ fun acts => by rw [doInvoke_state]; exact hsteps⟩
theorem vx_callSX (X : Stand p l e R s m args below meth c T locs cells slots) (hexec : p.tables.exec = Jvm.exec) {own : String} {index : Nat} {y : MethodName} {bytes : ByteArray} {maxL : Nat} {ret : Option FieldType} {hh : List (Nat × Nat × Nat × Nat)}
    (hown : s.vm.findClass own = some m.cls) (hlink : (Cond.methodLink own index y).before args s = true) (hstat : (Cond.static y).before args s = true) (hinit : (Cond.initialized y.cls).before args s = true)
    (hcode : (Cond.codeWith y bytes maxL ret hh).before args s = true) (hy : y.cls ≠ "java/lang/invoke/MethodHandle" ∧ y.cls ≠ "java/lang/invoke/VarHandle")
    {W9 : Nat} {Pre : Pt → Array Value → Prop} {Post : Pt → Array Value → Option Value → Pt → Prop} {PostX : Pt → Array Value → Addr → Pt → Prop} (hK : vx_Back l R p e below s args y 3 W9 Pre Post PostX)
    {g : JFrame} (hg : g.method = m) (hsize : g.locals.size = c.maxLocals) {argsL rest : List Value} (hlen : ∀ sig, parseMethodDescriptor y.desc = some sig → argsL.length = sig.parameters.length)
    (hstack : g.stack = argsL.reverse ++ rest) (hW : 2 * g.monitorRoom + (rest.map fun v => v.category).sum ≤ W9) (hdg : decode c.code g.pc = .ok (.invokestatic index, 3))
    (hpre : ∀ vm₁, s.WarmedH vm₁ → Pre ⟨T.setVm vm₁, locs, cells, slots⟩ argsL.toArray) :
    (∃ (v : Option Value) (vm₁ : Vm) (B : Pt), s.WarmedH vm₁ ∧ Stand p l e R s m args below meth c B.U B.locs B.cells B.slots ∧ Post ⟨T.setVm vm₁, locs, cells, slots⟩ argsL.toArray v B ∧
      ∀ target, Steps p.tables e below (B.U.setTop { g with pc := g.pc + 3, stack := v.toList ++ rest }) target → Steps p.tables e below (T.setTop g) target) ∨
    (∃ (q : Addr) (vm₁ : Vm) (B : Pt), s.WarmedH vm₁ ∧ Stand p l e R s m args below meth c B.U B.locs B.cells B.slots ∧ PostX ⟨T.setVm vm₁, locs, cells, slots⟩ argsL.toArray q B ∧
      Steps p.tables e below (T.setTop g) ((B.U.setTop { g with stack := rest }).pushFrame (.throwing q))) := by
  obtain ⟨mk, methM, cM, hnamed, hmethM, -, -, -, -, -, -, hsigM⟩ := Cond.codeWith_spec hcode
  have hstatic : methM.isStatic = true := Cond.static_spec hnamed hmethM hstat
  obtain ⟨kP, hkP, -⟩ := className_of_methodNamed hnamed
  have hinitP : kP.init = .initialized := Cond.initialized_spec (findClass_of_methodNamed hnamed) hkP hinit
  obtain ⟨vm₁, X₁, hstep₁⟩ := X.invokestatic hexec hown hlink hnamed hmethM hstatic hkP hinitP hy (g := g) hg (argsL := argsL) (rest := rest) (hlen _ hsigM) hstack hdg
  rcases hK m meth c ⟨T.setVm vm₁, locs, cells, slots⟩ { g with stack := rest } (.invokestatic index) mk argsL.toArray X₁ hg hsize hdg hW (X₁.named hnamed) (hpre vm₁ X₁.warmed) with ⟨v, B, X', hpost, hsteps⟩ | ⟨q, B, X', hpost, hsteps⟩
  · exact Or.inl ⟨v, vm₁, B, X₁.warmed, X', hpost, fun target h => hstep₁ _ fun acts => by rw [doInvoke_state]; exact hsteps.trans h⟩
  · exact Or.inr ⟨q, vm₁, B, X₁.warmed, X', hpost, hstep₁ _ fun acts => by rw [doInvoke_state]; exact hsteps⟩
theorem vx_callVW (X : Stand p l e R s m args below meth c T locs cells slots) (hexec : p.tables.exec = Jvm.exec) {own C : String} {index : Nat} {y : MethodName} {bytes : ByteArray} {maxL : Nat} {ret : Option FieldType} {hh : List (Nat × Nat × Nat × Nat)}
    (hown : s.vm.findClass own = some m.cls) (hlink : (Cond.methodLink own index y).before args s = true) (hinst : (Cond.instanceMethod y).before args s = true) (hsel : (Cond.selects C y y).before args s = true)
    (hcode : (Cond.codeWith y bytes maxL ret hh).before args s = true) (hy : y.cls ≠ "java/lang/invoke/MethodHandle" ∧ y.cls ≠ "java/lang/invoke/VarHandle")
    {W9 : Nat} {Pre : Pt → Array Value → Prop} {Post : Pt → Array Value → Option Value → Pt → Prop} (hK : Back l R p e below s args y 3 W9 Pre Post)
    {b : Addr} {cellB : Cell} (hcell : T.heap[b]? = some cellB) (hobj : cellB.vm.isStatics = false) (hcls : s.vm.findClass C = some cellB.cls)
    {g : JFrame} (hg : g.method = m) (hsize : g.locals.size = c.maxLocals) {argsL rest : List Value} (hlen : ∀ sig, parseMethodDescriptor y.desc = some sig → argsL.length = sig.parameters.length)
    (hstack : g.stack = argsL.reverse ++ .ref b :: rest) (hW : 2 * g.monitorRoom + (rest.map fun v => v.category).sum ≤ W9) (hdg : decode c.code g.pc = .ok (.invokevirtual index, 3))
    (hpre : ∀ vm₁, s.WarmedH vm₁ → Pre ⟨T.setVm vm₁, locs, cells, slots⟩ (Value.ref b :: argsL).toArray) :
    ∃ (v : Option Value) (vm₁ : Vm) (B : Pt), s.WarmedH vm₁ ∧ Stand p l e R s m args below meth c B.U B.locs B.cells B.slots ∧ Post ⟨T.setVm vm₁, locs, cells, slots⟩ (Value.ref b :: argsL).toArray v B ∧
      ∀ target, Steps p.tables e below (B.U.setTop { g with pc := g.pc + 3, stack := v.toList ++ rest }) target → Steps p.tables e below (T.setTop g) target := by
  obtain ⟨mk, methM, hnamed, hmethM, hstM, habM⟩ := Cond.instanceMethod_spec hinst
  obtain ⟨m8, methM', cM, hn8, hmethM', -, -, -, -, -, -, hsigM⟩ := Cond.codeWith_spec hcode
  cases Option.some.inj (hn8.symm.trans hnamed)
  cases hmethM.symm.trans hmethM'
  obtain ⟨c2, r2, m2, q1, q2, q3, q4, kP, hkP, hkPi⟩ := Cond.selects_spec hsel
  cases hcls.symm.trans q1
  cases (State.methodFound?_of_named hnamed hy).symm.trans q2
  cases hnamed.symm.trans q3
  have hselP : selectMethod e.platform s.vm cellB.cls mk = .method mk := by rw [Launch.admits_selectMethod X.admits]; exact q4
  obtain ⟨vm₁, X₁, hstep₁⟩ := X.invokevirtual hexec hown hlink hnamed hmethM hstM hkP hkPi hy (a := b) (cell := cellB) hcell
    (fun z h => by rw [h] at hobj; cases hobj) hselP hmethM habM hkP hkPi (g := g) hg (argsL := argsL) (rest := rest) (hlen _ hsigM) hstack hdg
  obtain ⟨v, B, X', hpost, hsteps⟩ := hK m meth c ⟨T.setVm vm₁, locs, cells, slots⟩ { g with stack := rest } (.invokevirtual index) mk (Value.ref b :: argsL).toArray X₁ hg hsize hdg hW (X₁.named hnamed) (hpre vm₁ X₁.warmed)
  exact ⟨v, vm₁, B, X₁.warmed, X', hpost, fun target h => hstep₁ _ fun acts => by rw [doInvoke_state]; exact hsteps.trans h⟩
abbrev vx_CVW (R : Room) (s : State) (args : Array Value) (own C : String) (index : Nat) (y : MethodName) (bytes : ByteArray) (maxL : Nat) (ret : Option FieldType) (hh : List (Nat × Nat × Nat × Nat)) (ws : List Cond) (rm : Room) (mc ms n : Nat) : Prop :=
  (rm.cells = mc ∧ rm.slots = ms ∧ rm.frames + 1 ≤ R.frames ∧ 8 + (maxL + 11) + rm.locals ≤ R.locals ∧ (∀ w ∈ ws, ∀ (a' : Array Value) (U : State), s.WarmedH U.vm → w.before a' U = true) ∧ Cond.codeWith y bytes maxL ret hh ∈ ws) ∧
  (Cond.codeWith y bytes maxL ret hh).before args s = true ∧ (Cond.initialized y.cls).before args s = true ∧ (y.cls ≠ "java/lang/invoke/MethodHandle" ∧ y.cls ≠ "java/lang/invoke/VarHandle") ∧
  (∀ sig, parseMethodDescriptor y.desc = some sig → n = sig.parameters.length) ∧ (Cond.methodLink own index y).before args s = true ∧ (Cond.instanceMethod y).before args s = true ∧ (Cond.selects C y y).before args s = true
theorem vx_cwVW {own C : String} {index maxL mc ms : Nat} {y : MethodName} {bytes : ByteArray} {ret : Option FieldType} {hh : List (Nat × Nat × Nat × Nat)} {Ts ws ws' : List Cond} {rm : Room} (n : Nat) (ht : ∀ w ∈ Ts, w.before args s = true) (hT : GoodIn Ts (wsV own index C y ws)) (hw : ws = Cond.codeWith y bytes maxL ret hh :: ws') (hrc : rm.cells = mc) (hrs : rm.slots = ms)
    (hd : y.cls = C ∧ y.cls ≠ "java/lang/invoke/MethodHandle" ∧ y.cls ≠ "java/lang/invoke/VarHandle" ∧ (parseMethodDescriptor y.desc).map (fun d => d.parameters.length) = some n) (hR : rm.frames + 1 ≤ R.frames ∧ 8 + (maxL + 11) + rm.locals ≤ R.locals) :
    vx_CVW R s args own C index y bytes maxL ret hh ws rm mc ms n := by
  obtain ⟨hC, hd⟩ := hd
  subst hC
  have ok : ∀ w ∈ wsV own index y.cls y ws, w.before args s = true := fun w h => ht w (hT w h).1
  have hG : GoodIn Ts ws := fun w h => hT w (by unfold wsV; exact List.mem_append_right _ h)
  have hc : Cond.codeWith y bytes maxL ret hh ∈ ws := by rw [hw]; exact List.mem_cons_self
  refine ⟨⟨hrc, hrs, hR.1, hR.2, pay_in ht hG, hc⟩, ht _ (hG _ hc).1, ok _ (by simp [wsV]), ⟨hd.1, hd.2.1⟩, fun sig h => ?_, ok _ (by simp [wsV]), ok _ (by simp [wsV]), ok _ (by simp [wsV])⟩
  have h2 := hd.2.2
  rw [h] at h2
  exact (Option.some.inj h2).symm
theorem vx_runVW {y : MethodName} {bytes cc : ByteArray} {maxL nL mc ms n index : Nat} {ret : Option FieldType} {hh : List (Nat × Nat × Nat × Nat)} {ws : List Cond} {rm : Room} {Pc : Array Value → State → Prop} {Qc : Array Value → State → Outcome → State → Prop} {free : Addr → Prop} {Ts : List Cond} {own C : String} {b : Addr} {As rest : List Value} {g : JFrame}
    (S : CallFix p m c cc nL s args Ts own) (hM : Met l y ws rm Pc Qc mc ms free) (cw : vx_CVW R s args own C index y bytes maxL ret hh ws rm mc ms n) (hp : PreV s H C b Pc As)
    (hg : g.method = m) (hn : As.length = n) (hsize : g.locals.size = nL) (hstack : g.stack = As.reverse ++ .ref b :: rest) (hW : 2 * g.monitorRoom + (rest.map fun v => v.category).sum ≤ 8) (hdg : decode cc g.pc = .ok (.invokevirtual index, 3)) (hf : cells + mc ≤ R.cells ∧ slots + ms ≤ R.slots) :
    va_Run p l e R s m args below meth c H locs cells slots mc ms g rest (Qc (Value.ref b :: As).toArray) free := by
  obtain ⟨⟨hrc, hrs, hfr, hlo, hws, hcw⟩, hcode, hini, hy, hlen, hl, hin, hse⟩ := cw
  have hK : Back l R p e below s args y 3 8 (PreOf R mc ms Pc) (PostOf Qc mc ms free) := va_backW (hh := hh) (bytes := bytes) (maxL := maxL) (ret := ret) hM hp.1 hrc hrs hfr hlo hws hcw (fun a' U hW => word_at hW (Or.inl (by first | rfl | simp [Cond.onTables, Cond.keeps, Cond.steady])) hini)
  obtain ⟨hx, hb, hml, ho, -⟩ := S
  obtain ⟨-, ⟨cellB, hcB, hoB, hclB⟩, hPc⟩ := hp
  intro T hT X
  obtain ⟨v, vm₁, ⟨U', l2, c2, s2⟩, hW₁, X', ⟨g', mk, t, L, e1, e2, hq, h1, hL, h2, h3⟩, st⟩ := vx_callVW X hx (C := C) (hh := hh) (bytes := bytes) (maxL := maxL) (ret := ret) ho hl hin hse hcode hy hK (by rw [hT]; exact hcB) hoB hclB hg (hsize.trans hml.symm) (argsL := As) (rest := rest) (fun sig h => hn.trans (hlen sig h)) hstack hW (by rw [hb]; exact hdg)
    (fun vm₁ hW₁ => ⟨hf.1, hf.2, hPc (T.setVm vm₁) hT hW₁⟩)
  dsimp only [Pt.U, Pt.locs, Pt.cells, Pt.slots] at X' e1 e2 h1 h2 h3 st
  subst h1; subst h2; subst h3
  exact ⟨v, (T.setVm vm₁).calling g' mk (Value.ref b :: As).toArray, t, U', L, hT, X', hL, e1, e2, hq, st⟩
section
variable {y : MethodName} {bytes cc : ByteArray} {maxL nL mc ms n index : Nat} {ret : Option FieldType} {ws : List Cond} {rm : Room} {Pc : Array Value → State → Prop} {Qc : Array Value → State → Outcome → State → Prop} {XC : String → State → State → Prop} {free : Addr → Prop} {Ts : List Cond} {own C : String} {b : Addr} {As rest : List Value} {g : JFrame}
theorem vx_runVX {hh : List (Nat × Nat × Nat × Nat)} (S : CallFix p m c cc nL s args Ts own) (hM : vx_Met l y ws rm Pc Qc XC mc ms free) (cw : vx_CVW R s args own C index y bytes maxL ret hh ws rm mc ms n) (hp : PreV s H C b Pc As)
    (hg : g.method = m) (hn : As.length = n) (hsize : g.locals.size = nL) (hstack : g.stack = As.reverse ++ .ref b :: rest) (hW : 2 * g.monitorRoom + (rest.map fun v => v.category).sum ≤ 8) (hdg : decode cc g.pc = .ok (.invokevirtual index, 3)) (hf : cells + mc ≤ R.cells ∧ slots + ms ≤ R.slots) :
    vx_Run p l e R s m args below meth c H locs cells slots mc ms g rest (Qc (Value.ref b :: As).toArray) XC free := by
  obtain ⟨⟨hrc, hrs, hfr, hlo, hws, hcw⟩, hcode, hini, hy, hlen, hl, hin, hse⟩ := cw
  have hK : vx_Back l R p e below s args y 3 8 (PreOf R mc ms Pc) (PostOf Qc mc ms free) (vx_Post XC mc ms free) := vx_backW (hh := hh) (bytes := bytes) (maxL := maxL) (ret := ret) hM hp.1 hrc hrs hfr hlo hws hcw (fun a' U hW => word_at hW (Or.inl (by first | rfl | simp [Cond.onTables, Cond.keeps, Cond.steady])) hini)
  obtain ⟨hx, hb, hml, ho, -⟩ := S
  obtain ⟨-, ⟨cellB, hcB, hoB, hclB⟩, hPc⟩ := hp
  intro T hT X
  rcases vx_callVX X hx (C := C) (hh := hh) (bytes := bytes) (maxL := maxL) (ret := ret) ho hl hin hse hcode hy hK (by rw [hT]; exact hcB) hoB hclB hg (hsize.trans hml.symm) (argsL := As) (rest := rest) (fun sig h => hn.trans (hlen sig h)) hstack hW (by rw [hb]; exact hdg)
    (fun vm₁ hW₁ => ⟨hf.1, hf.2, hPc (T.setVm vm₁) hT hW₁⟩) with ⟨v, vm₁, ⟨U', l2, c2, s2⟩, hW₁, X', ⟨g', mk, t, L, e1, e2, hq, h1, hL, h2, h3⟩, st⟩ | ⟨q, vm₁, ⟨U', l2, c2, s2⟩, hW₁, X', ⟨g', mk, t, L, E, ce, e1, e2, hq, hce, hcv, hcl, h1, hL, h2, h3⟩, st⟩
  · dsimp only [Pt.U, Pt.locs, Pt.cells, Pt.slots] at X' e1 e2 h1 h2 h3 st
    subst h1; subst h2; subst h3
    exact Or.inl ⟨v, (T.setVm vm₁).calling g' mk (Value.ref b :: As).toArray, t, U', L, hT, X', hL, e1, e2, hq, st⟩
  · dsimp only [Pt.U, Pt.locs, Pt.cells, Pt.slots] at X' e1 e2 h1 h2 h3 st hcl
    subst h1; subst h2; subst h3
    exact Or.inr ⟨q, (T.setVm vm₁).calling g' mk (Value.ref b :: As).toArray, t, U', L, E, ce, hT, X', hL, e1, e2, hq, hce, hcv, vx_cls hW₁ hcl, st⟩
theorem vx_runSX {hh : List (Nat × Nat × Nat × Nat)} (S : CallFix p m c cc nL s args Ts own) (hM : vx_Met l y ws rm Pc Qc XC mc ms free) (cw : vx_CSW R s args own index y bytes maxL ret hh ws rm mc ms n) (hp : PreS s H Pc As)
    (hg : g.method = m) (hn : As.length = n) (hsize : g.locals.size = nL) (hstack : g.stack = As.reverse ++ rest) (hW : 2 * g.monitorRoom + (rest.map fun v => v.category).sum ≤ 8) (hdg : decode cc g.pc = .ok (.invokestatic index, 3)) (hf : cells + mc ≤ R.cells ∧ slots + ms ≤ R.slots) :
    vx_Run p l e R s m args below meth c H locs cells slots mc ms g rest (Qc As.toArray) XC free := by
  obtain ⟨⟨hrc, hrs, hfr, hlo, hws, hcw⟩, hcode, hini, hy, hlen, hl, hstt⟩ := cw
  have hK : vx_Back l R p e below s args y 3 8 (PreOf R mc ms Pc) (PostOf Qc mc ms free) (vx_Post XC mc ms free) := vx_backW (hh := hh) (bytes := bytes) (maxL := maxL) (ret := ret) hM hp.1 hrc hrs hfr hlo hws hcw (fun a' U hW => word_at hW (Or.inl (by first | rfl | simp [Cond.onTables, Cond.keeps, Cond.steady])) hini)
  obtain ⟨hx, hb, hml, ho, -⟩ := S
  intro T hT X
  rcases vx_callSX X hx (hh := hh) (bytes := bytes) (maxL := maxL) (ret := ret) ho hl hstt hini hcode hy hK hg (hsize.trans hml.symm) (argsL := As) (rest := rest) (fun sig h => hn.trans (hlen sig h)) hstack hW (by rw [hb]; exact hdg)
    (fun vm₁ hW₁ => ⟨hf.1, hf.2, hp.2 (T.setVm vm₁) hT hW₁⟩) with ⟨v, vm₁, ⟨U', l2, c2, s2⟩, hW₁, X', ⟨g', mk, t, L, e1, e2, hq, h1, hL, h2, h3⟩, st⟩ | ⟨q, vm₁, ⟨U', l2, c2, s2⟩, hW₁, X', ⟨g', mk, t, L, E, ce, e1, e2, hq, hce, hcv, hcl, h1, hL, h2, h3⟩, st⟩
  · dsimp only [Pt.U, Pt.locs, Pt.cells, Pt.slots] at X' e1 e2 h1 h2 h3 st
    subst h1; subst h2; subst h3
    exact Or.inl ⟨v, (T.setVm vm₁).calling g' mk As.toArray, t, U', L, hT, X', hL, e1, e2, hq, st⟩
  · dsimp only [Pt.U, Pt.locs, Pt.cells, Pt.slots] at X' e1 e2 h1 h2 h3 st hcl
    subst h1; subst h2; subst h3
    exact Or.inr ⟨q, (T.setVm vm₁).calling g' mk As.toArray, t, U', L, E, ce, hT, X', hL, e1, e2, hq, hce, hcv, vx_cls hW₁ hcl, st⟩
end
end VXH
theorem vx_ofWH {l : Launch} {y : MethodName} {ws ws' : List Cond} {rm : Room} {Pc : Array Value → State → Prop} {Qc : Array Value → State → Outcome → State → Prop} {XC : String → State → State → Prop} {mc ms : Nat} {free : Addr → Prop} {cc : ByteArray} {maxL : Nat} {ret : Option FieldType} {hh : List (Nat × Nat × Nat × Nat)}
    (hy : plainName y.cls = true) (hw : ws = Cond.codeWith y cc maxL ret hh :: ws')
    (body : ∀ p e s m args below meth c s₁, BodyLoose p l y (headSpec ws rm) cc maxL ret e s m args below meth c s₁ → c.maxLocals = maxL → Pc args s →
      W p l e (headSpec ws rm).room s m args below meth c s.heap [] 0 0 (vx_MQ below Qc XC args s mc ms free) (entryFrame m args maxL)) : vx_Met l y ws rm Pc Qc XC mc ms free := by
  refine MetFree.of_bodyS (code := cc) (maxLocals := maxL) (ret := ret) hy ?_ ?_
  · intro args s m h hn
    obtain ⟨m9, meth, c, hn9, h1, h2, h3, h4, -, h5, h6, -⟩ := Cond.codeWith_spec (atoms_spec (ws := ws) h _ (by rw [hw]; exact List.mem_cons_self))
    cases hn.symm.trans hn9
    exact ⟨meth, c, h1, h2, h3, h4, h5, h6⟩
  · intro p e s m args below meth c s₁ B hml hP _
    have hh0 : s₁.heap = s.heap := by rw [B.state]; rfl
    obtain ⟨t, a1, o, b1, b2, b3⟩ := body p e s m args below meth c s₁ B hml hP s₁ hh0 (Stand.of_body B)
    exact ⟨t, o, a1, b1, b2, b3⟩
/-! ===== END ===== -/
end
section
/-! throws -/
def xEn (e : Nat) : String := match e with
  | 0 => "java/lang/IllegalArgumentException"
  | 1 => "java/lang/IllegalStateException"
  | _ => "java/lang/IndexOutOfBoundsException"
def xSup : List String := ["java/lang/RuntimeException", "java/lang/Exception"]
/-- (method, pc) to (exception, its class's place, its text's, its constructor's) -/
def xTt : List ((Nat × Nat) × (Nat × Nat × Nat × Nat)) := [((76, 9), (0, 39, 41, 43)), ((76, 28), (0, 39, 46, 43)), ((76, 47), (0, 39, 48, 43)), ((76, 67), (1, 54, 56, 58)), ((83, 18), (0, 39, 46, 43)), ((83, 42), (0, 39, 136, 43)), ((83, 75), (0, 39, 138, 43)), ((86, 154), (0, 39, 165, 43)), ((88, 15), (0, 39, 170, 43)), ((90, 80), (0, 39, 189, 43)), ((92, 9), (2, 191, 193, 195)), ((93, 11), (2, 191, 199, 195)), ((94, 16), (2, 191, 203, 195)), ((95, 5), (0, 39, 205, 43)), ((96, 10), (0, 39, 207, 43)), ((97, 12), (1, 54, 209, 58))]
def xSt : List (Nat × String) := [(41, "no such client"), (46, "no such kind"), (48, "no such key"), (56, "no more requests"), (136, "no such request or number"), (138, "no such second number"), (165, "no such thing to tell of a server"), (170, "no such thing to tell of a message"), (189, "no such thing to tell of a request"), (193, "no such server"), (199, "no such request"), (203, "no such message"), (205, "both servers are the same"), (207, "no such view"), (209, "the server has not lied")]
def xDs (c : String) : Cond := .declares ⟨c, "<init>", "(Ljava/lang/String;)V"⟩
def xCs : List Cond := [.castable (xEn 0) (xEn 0), .castable (xEn 1) (xEn 1), .castable (xEn 2) (xEn 2), xDs "java/lang/RuntimeException", xDs "java/lang/Exception", xDs "java/lang/Throwable"]
theorem xCs_in : ∀ w ∈ xCs, w ∈ lw_tbl := List.forall_mem_cons.mpr ⟨xl2 (List.mem_of_getElem? (i := 19) rfl), List.forall_mem_cons.mpr ⟨xl2 (List.mem_of_getElem? (i := 93) rfl), List.forall_mem_cons.mpr ⟨xl2 (List.mem_of_getElem? (i := 130) rfl), List.forall_mem_cons.mpr ⟨xl2 (List.mem_of_getElem? (i := 21) rfl), List.forall_mem_cons.mpr ⟨xl2 (List.mem_of_getElem? (i := 23) rfl), List.forall_mem_cons.mpr ⟨xl2 (List.mem_of_getElem? (i := 25) rfl), fun _ h => nomatch h⟩⟩⟩⟩⟩⟩
theorem xSt_in : ∀ q ∈ xSt, Cond.stringRef RX9 q.1 q.2 ∈ lw_tbl := List.forall_mem_cons.mpr ⟨xl2 (List.mem_of_getElem? (i := 58) rfl), List.forall_mem_cons.mpr ⟨xl2 (List.mem_of_getElem? (i := 85) rfl), List.forall_mem_cons.mpr ⟨xl2 (List.mem_of_getElem? (i := 86) rfl), List.forall_mem_cons.mpr ⟨xl2 (List.mem_of_getElem? (i := 100) rfl), List.forall_mem_cons.mpr ⟨xl3 (List.mem_of_getElem? (i := 232) rfl), List.forall_mem_cons.mpr ⟨xl3 (List.mem_of_getElem? (i := 233) rfl), List.forall_mem_cons.mpr ⟨xl4 (List.mem_of_getElem? (i := 35) rfl), List.forall_mem_cons.mpr ⟨xl4 (List.mem_of_getElem? (i := 54) rfl), List.forall_mem_cons.mpr ⟨xl4 (List.mem_of_getElem? (i := 78) rfl), List.forall_mem_cons.mpr ⟨xl2 (List.mem_of_getElem? (i := 147) rfl), List.forall_mem_cons.mpr ⟨xl2 (List.mem_of_getElem? (i := 137) rfl), List.forall_mem_cons.mpr ⟨xl3 (List.mem_of_getElem? (i := 122) rfl), List.forall_mem_cons.mpr ⟨xl3 (List.mem_of_getElem? (i := 126) rfl), List.forall_mem_cons.mpr ⟨xl3 (List.mem_of_getElem? (i := 227) rfl), List.forall_mem_cons.mpr ⟨xl3 (List.mem_of_getElem? (i := 223) rfl), fun _ h => nomatch h⟩⟩⟩⟩⟩⟩⟩⟩⟩⟩⟩⟩⟩⟩⟩
theorem xth_0 : ∀ w ∈ (vx_atS RX9 43 (xEn 0) xSup).filter goodWord, w ∈ lw_tbl := by decide +kernel
theorem xto_0 : ∀ w ∈ vx_atS RX9 43 (xEn 0) xSup, vx_ot w = true := by decide +kernel
theorem xtb_0 : ∀ w ∈ (vx_atS RX9 43 (xEn 0) xSup).filter (fun w => !goodWord w), w ∈ xCs := by decide +kernel
theorem xth_1 : ∀ w ∈ (vx_atS RX9 58 (xEn 1) xSup).filter goodWord, w ∈ lw_tbl := by decide +kernel
theorem xto_1 : ∀ w ∈ vx_atS RX9 58 (xEn 1) xSup, vx_ot w = true := by decide +kernel
theorem xtb_1 : ∀ w ∈ (vx_atS RX9 58 (xEn 1) xSup).filter (fun w => !goodWord w), w ∈ xCs := by decide +kernel
theorem xth_2 : ∀ w ∈ (vx_atS RX9 195 (xEn 2) xSup).filter goodWord, w ∈ lw_tbl := by decide +kernel
theorem xto_2 : ∀ w ∈ vx_atS RX9 195 (xEn 2) xSup, vx_ot w = true := by decide +kernel
theorem xtb_2 : ∀ w ∈ (vx_atS RX9 195 (xEn 2) xSup).filter (fun w => !goodWord w), w ∈ xCs := by decide +kernel
def xPT (q : (Nat × Nat) × (Nat × Nat × Nat × Nat)) : Prop := (xM q.1.1).1 = 9 ∧ Cond.classLink RX9 q.2.2.1 (xEn q.2.1) ∈ xT ∧ Cond.initialized (xEn q.2.1) ∈ xT ∧ (∃ tx, (q.2.2.2.1, tx) ∈ xSt) ∧ ((∀ w ∈ (vx_atS RX9 q.2.2.2.2 (xEn q.2.1) xSup).filter goodWord, w ∈ lw_tbl) ∧ (∀ w ∈ vx_atS RX9 q.2.2.2.2 (xEn q.2.1) xSup, vx_ot w = true) ∧ ∀ w ∈ (vx_atS RX9 q.2.2.2.2 (xEn q.2.1) xSup).filter (fun w => !goodWord w), w ∈ xCs) ∧
  xIn q.1.1 q.1.2 = some (.new q.2.2.1, 3) ∧ xIn q.1.1 (q.1.2 + 3) = some (.dup, 1) ∧ xIn q.1.1 (q.1.2 + 4) = some (.ldc q.2.2.2.1, 2) ∧ xIn q.1.1 (q.1.2 + 6) = some (.invokespecial q.2.2.2.2, 3) ∧ xIn q.1.1 (q.1.2 + 9) = some (.athrow, 1) ∧ Jvm.Bundle.fit (xEn q.2.1) = true
theorem xt_0 : xPT ((76, 9), (0, 39, 41, 43)) := ⟨rfl, (xt2 17 rfl rfl), (xt1 15 rfl rfl), ⟨_, List.mem_of_getElem? (i := 0) rfl⟩, ⟨xth_0, xto_0, xtb_0⟩, rfl, rfl, rfl, rfl, rfl, by decide +kernel⟩
theorem xt_1 : xPT ((76, 28), (0, 39, 46, 43)) := ⟨rfl, (xt2 17 rfl rfl), (xt1 15 rfl rfl), ⟨_, List.mem_of_getElem? (i := 1) rfl⟩, ⟨xth_0, xto_0, xtb_0⟩, rfl, rfl, rfl, rfl, rfl, by decide +kernel⟩
theorem xt_2 : xPT ((76, 47), (0, 39, 48, 43)) := ⟨rfl, (xt2 17 rfl rfl), (xt1 15 rfl rfl), ⟨_, List.mem_of_getElem? (i := 2) rfl⟩, ⟨xth_0, xto_0, xtb_0⟩, rfl, rfl, rfl, rfl, rfl, by decide +kernel⟩
theorem xt_3 : xPT ((76, 67), (1, 54, 56, 58)) := ⟨rfl, (xt2 91 rfl rfl), (xt1 16 rfl rfl), ⟨_, List.mem_of_getElem? (i := 3) rfl⟩, ⟨xth_1, xto_1, xtb_1⟩, rfl, rfl, rfl, rfl, rfl, by decide +kernel⟩
theorem xt_4 : xPT ((83, 18), (0, 39, 46, 43)) := ⟨rfl, (xt2 17 rfl rfl), (xt1 15 rfl rfl), ⟨_, List.mem_of_getElem? (i := 1) rfl⟩, ⟨xth_0, xto_0, xtb_0⟩, rfl, rfl, rfl, rfl, rfl, by decide +kernel⟩
theorem xt_5 : xPT ((83, 42), (0, 39, 136, 43)) := ⟨rfl, (xt2 17 rfl rfl), (xt1 15 rfl rfl), ⟨_, List.mem_of_getElem? (i := 4) rfl⟩, ⟨xth_0, xto_0, xtb_0⟩, rfl, rfl, rfl, rfl, rfl, by decide +kernel⟩
theorem xt_6 : xPT ((83, 75), (0, 39, 138, 43)) := ⟨rfl, (xt2 17 rfl rfl), (xt1 15 rfl rfl), ⟨_, List.mem_of_getElem? (i := 5) rfl⟩, ⟨xth_0, xto_0, xtb_0⟩, rfl, rfl, rfl, rfl, rfl, by decide +kernel⟩
theorem xt_7 : xPT ((86, 154), (0, 39, 165, 43)) := ⟨rfl, (xt2 17 rfl rfl), (xt1 15 rfl rfl), ⟨_, List.mem_of_getElem? (i := 6) rfl⟩, ⟨xth_0, xto_0, xtb_0⟩, rfl, rfl, rfl, rfl, rfl, by decide +kernel⟩
theorem xt_8 : xPT ((88, 15), (0, 39, 170, 43)) := ⟨rfl, (xt2 17 rfl rfl), (xt1 15 rfl rfl), ⟨_, List.mem_of_getElem? (i := 7) rfl⟩, ⟨xth_0, xto_0, xtb_0⟩, rfl, rfl, rfl, rfl, rfl, by decide +kernel⟩
theorem xt_9 : xPT ((90, 80), (0, 39, 189, 43)) := ⟨rfl, (xt2 17 rfl rfl), (xt1 15 rfl rfl), ⟨_, List.mem_of_getElem? (i := 8) rfl⟩, ⟨xth_0, xto_0, xtb_0⟩, rfl, rfl, rfl, rfl, rfl, by decide +kernel⟩
theorem xt_10 : xPT ((92, 9), (2, 191, 193, 195)) := ⟨rfl, (xt2 128 rfl rfl), (xt1 17 rfl rfl), ⟨_, List.mem_of_getElem? (i := 9) rfl⟩, ⟨xth_2, xto_2, xtb_2⟩, rfl, rfl, rfl, rfl, rfl, by decide +kernel⟩
theorem xt_11 : xPT ((93, 11), (2, 191, 199, 195)) := ⟨rfl, (xt2 128 rfl rfl), (xt1 17 rfl rfl), ⟨_, List.mem_of_getElem? (i := 10) rfl⟩, ⟨xth_2, xto_2, xtb_2⟩, rfl, rfl, rfl, rfl, rfl, by decide +kernel⟩
theorem xt_12 : xPT ((94, 16), (2, 191, 203, 195)) := ⟨rfl, (xt2 128 rfl rfl), (xt1 17 rfl rfl), ⟨_, List.mem_of_getElem? (i := 11) rfl⟩, ⟨xth_2, xto_2, xtb_2⟩, rfl, rfl, rfl, rfl, rfl, by decide +kernel⟩
theorem xt_13 : xPT ((95, 5), (0, 39, 205, 43)) := ⟨rfl, (xt2 17 rfl rfl), (xt1 15 rfl rfl), ⟨_, List.mem_of_getElem? (i := 12) rfl⟩, ⟨xth_0, xto_0, xtb_0⟩, rfl, rfl, rfl, rfl, rfl, by decide +kernel⟩
theorem xt_14 : xPT ((96, 10), (0, 39, 207, 43)) := ⟨rfl, (xt2 17 rfl rfl), (xt1 15 rfl rfl), ⟨_, List.mem_of_getElem? (i := 13) rfl⟩, ⟨xth_0, xto_0, xtb_0⟩, rfl, rfl, rfl, rfl, rfl, by decide +kernel⟩
theorem xt_15 : xPT ((97, 12), (1, 54, 209, 58)) := ⟨rfl, (xt2 91 rfl rfl), (xt1 16 rfl rfl), ⟨_, List.mem_of_getElem? (i := 14) rfl⟩, ⟨xth_1, xto_1, xtb_1⟩, rfl, rfl, rfl, rfl, rfl, by decide +kernel⟩
set_option maxRecDepth 100000 in
theorem xTt_ok : ∀ q ∈ xTt, xPT q := List.forall_mem_cons.mpr ⟨xt_0, List.forall_mem_cons.mpr ⟨xt_1, List.forall_mem_cons.mpr ⟨xt_2, List.forall_mem_cons.mpr ⟨xt_3, List.forall_mem_cons.mpr ⟨xt_4, List.forall_mem_cons.mpr ⟨xt_5, List.forall_mem_cons.mpr ⟨xt_6, List.forall_mem_cons.mpr ⟨xt_7, List.forall_mem_cons.mpr ⟨xt_8, List.forall_mem_cons.mpr ⟨xt_9, List.forall_mem_cons.mpr ⟨xt_10, List.forall_mem_cons.mpr ⟨xt_11, List.forall_mem_cons.mpr ⟨xt_12, List.forall_mem_cons.mpr ⟨xt_13, List.forall_mem_cons.mpr ⟨xt_14, List.forall_mem_cons.mpr ⟨xt_15, fun _ h => nomatch h⟩⟩⟩⟩⟩⟩⟩⟩⟩⟩⟩⟩⟩⟩⟩⟩
end
section
/-! the abstract machine's throws are the machine's -/
def xinvT (callX : Nat → List Value → XS → Option (Nat × XS)) (o j vk : Nat) (st : List Value) (σ : XS) : Option (Nat × XS) := match xC o j with
  | some (kd, u') =>
    if kd = 0 ∧ vk = 0 then (match st.drop (xA u') with
      | .ref b :: rest => if (rest.map Value.category).sum ≤ 8 ∧ b < σ.1 then (match σ.2.2 b with
        | .inl (c, _) => if c = (xM u').1 then callX u' (.ref b :: (st.take (xA u')).reverse) σ else none
        | _ => none) else none
      | _ => none)
    else if kd = 1 ∧ vk = 1 then (if (st.take (xA u')).length = xA u' ∧ ((st.drop (xA u')).map Value.category).sum ≤ 8 then callX u' (st.take (xA u')).reverse σ else none)
    else none
  | none => none
def xgoX (call : Nat → List Value → XS → XO) (callX : Nat → List Value → XS → Option (Nat × XS)) (u : Nat) : Nat → Nat → XL → List Value → XS → Option (Nat × XS)
  | 0, _, _, _, _ => none
  | n + 1, pc, lo, st, σ => match xTt.lookup (u, pc) with
    | some (E, _) => if (st.map Value.category).sum ≤ 8 then some (E, σ) else none
    | none => match xIn u pc with
      | none => none
      | some (i, _) => match i with
        | .invokevirtual j => (match xinvT callX (xM u).1 j 0 st σ with
          | some r => some r
          | none => xinv call (xM u).1 j 0 st σ (fun st' σ' => xgoX call callX u n (pc + 3) lo st' σ'))
        | .invokestatic j => (match xinvT callX (xM u).1 j 1 st σ with
          | some r => some r
          | none => xinv call (xM u).1 j 1 st σ (fun st' σ' => xgoX call callX u n (pc + 3) lo st' σ'))
        | i => xst (xM u).1 (xini u) pc i lo st σ (fun pc' lo' st' σ' => xgoX call callX u n pc' lo' st' σ')
def xcallX (N : Nat) : Nat → Nat → List Value → XS → Option (Nat × XS)
  | 0, _, _, _ => none
  | d + 1, u, vs, σ => if vs.length ≤ (xM u).2.2.2.1 then xgoX (xcall N d) (xcallX N d) u N 0 (vs.map some ++ List.replicate ((xM u).2.2.2.1 - vs.length) none) [] σ else none
theorem xinvT_next {callX : Nat → List Value → XS → Option (Nat × XS)} {o j vk : Nat} {st : List Value} {σ : XS} {r : Nat × XS} (hc : ∀ u vs σ E σ', callX u vs σ = some (E, σ') → σ.1 ≤ σ'.1 ∧ σ.2.1 ≤ σ'.2.1) (h : xinvT callX o j vk st σ = some r) : σ.1 ≤ r.2.1 ∧ σ.2.1 ≤ r.2.2.1 := by
  unfold xinvT at h
  repeat' split at h
  all_goals first
    | contradiction
    | exact hc _ _ _ r.1 r.2 h
theorem xgoX_mono {call : Nat → List Value → XS → XO} {callX : Nat → List Value → XS → Option (Nat × XS)} (hc : ∀ u vs σ rv σ', call u vs σ = some (rv, σ') → σ.1 ≤ σ'.1 ∧ σ.2.1 ≤ σ'.2.1) (hx : ∀ u vs σ E σ', callX u vs σ = some (E, σ') → σ.1 ≤ σ'.1 ∧ σ.2.1 ≤ σ'.2.1) {u E : Nat} {σ' : XS} : ∀ (n pc : Nat) (lo : XL) (st : List Value) (σ : XS), xgoX call callX u n pc lo st σ = some (E, σ') → σ.1 ≤ σ'.1 ∧ σ.2.1 ≤ σ'.2.1 := by
  intro n
  induction n with
  | zero => intro pc lo st σ h; cases h
  | succ n ih =>
    intro pc lo st σ h
    unfold xgoX at h
    split at h
    · split at h
      · cases h; exact ⟨Nat.le_refl _, Nat.le_refl _⟩
      · cases h
    · split at h
      · cases h
      · split at h
        · split at h
          · cases h
            exact xinvT_next hx (by assumption)
          · obtain ⟨st', σ1, h1, h2, h3⟩ := xinv_next hc h
            have := ih _ _ _ _ h1
            exact ⟨Nat.le_trans h2 this.1, Nat.le_trans h3 this.2⟩
        · split at h
          · cases h
            exact xinvT_next hx (by assumption)
          · obtain ⟨st', σ1, h1, h2, h3⟩ := xinv_next hc h
            have := ih _ _ _ _ h1
            exact ⟨Nat.le_trans h2 this.1, Nat.le_trans h3 this.2⟩
        · obtain ⟨pc', lo', st', σ1, h1, h2, h3⟩ := xst_next h
          have := ih _ _ _ _ h1
          exact ⟨Nat.le_trans h2 this.1, Nat.le_trans h3 this.2⟩
theorem xcallX_mono {N : Nat} : ∀ (d u : Nat) (vs : List Value) (σ : XS) (E : Nat) (σ' : XS), xcallX N d u vs σ = some (E, σ') → σ.1 ≤ σ'.1 ∧ σ.2.1 ≤ σ'.2.1 := by
  intro d
  induction d with
  | zero => intro u vs σ rv σ' h; cases h
  | succ d ih =>
    intro u vs σ rv σ' h
    unfold xcallX at h
    split at h
    · exact xgoX_mono (fun u vs σ rv σ' h => xcall_mono d u vs σ rv σ' h) ih _ _ _ _ _ h
    · cases h
/-- what a throw needs of the start -/
def xZ (A : Nat → Prop) (U : State) : Prop := (∀ w ∈ xCs, va_Nw w U) ∧ (∀ q ∈ xSt, ∃ sa, vk_R RX9 q.1 q.2 sa U) ∧ vx_Zq Jvm.Bundle.tN "UNASSIGNED_STACK" Jvm.Bundle.steD A U U.heap ∧ vx_Zq Jvm.Bundle.tN "SUPPRESSED_SENTINEL" Jvm.Bundle.listD A U U.heap
def xPreX (D : va_G) (ad : Nat → Nat) (ca : Nat → ClassId) (σ : XS) (sz : Nat) (vs : List Value) : Array Value → State → Prop := va_Pc (vs.map (xcv ad)) (fun U => U.heap.size = sz ∧ xB D (fun _ => True) (ad, ca) σ U ∧ (∀ w ∈ xNx, va_Nw w U) ∧ (∀ v ∈ vs, xok σ.1 v) ∧ xZ (va_A (xws ad ca σ.2.2 σ.1) sz) U)
def xXC (D : va_G) (ad : Nat → Nat) (ca : Nat → ClassId) (n0 E : Nat) (σ' : XS) (A : Nat → Prop) : String → State → State → Prop := vx_X (fun w : XW => xAg n0 ad ca w) (fun E' w t => E' = xEn E ∧ xB D A w σ' t) A
def xRoomX (d : Nat) (σ σ' : XS) : Room := { frames := d + 6, cells := σ'.1 - σ.1 + 1, slots := σ'.2.1 - σ.2.1 + 6, locals := d * 40 + 100 }
def xMetX (l : Launch) (D : va_G) (d u : Nat) (vs : List Value) (σ : XS) (E : Nat) (σ' : XS) : Prop := ∀ (ad : Nat → Nat) (ca : Nat → ClassId) (sz : Nat), vx_Met l (xM u).2.1 (xW u) (xRoomX d σ σ') (xPreX D ad ca σ sz vs) (fun _ _ _ _ => False) (xXC D ad ca σ.1 E σ' (va_A (xws ad ca σ.2.2 σ.1) sz)) (σ'.1 - σ.1 + 1) (σ'.2.1 - σ.2.1 + 6) (va_A (xws ad ca σ.2.2 σ.1) sz)
theorem xCs_warm {s U : State} (hW : s.WarmedH U.vm) {w : Cond} (hn : w ∈ xCs) (h : va_Nw w s) : va_Nw w U := by
  have hd : ∀ x : MethodName, va_Nw (.declares x) s → va_Nw (.declares x) U := fun x hz => va_tabs rfl (rfl : (s.setVm U.vm).vm = U.vm) (by rw [Cond.declares_setVm hW.alike]; exact hz)
  rcases List.mem_cons.mp hn with rfl | hn
  · exact va_Nw.warmC hW h
  rcases List.mem_cons.mp hn with rfl | hn
  · exact va_Nw.warmC hW h
  rcases List.mem_cons.mp hn with rfl | hn
  · exact va_Nw.warmC hW h
  rcases List.mem_cons.mp hn with rfl | hn
  · exact hd _ h
  rcases List.mem_cons.mp hn with rfl | hn
  · exact hd _ h
  rcases List.mem_cons.mp hn with rfl | hn
  · exact hd _ h
  · cases hn
theorem xCs_tab {w : Cond} (hn : w ∈ xCs) : w.onTables = true := by
  rcases List.mem_cons.mp hn with rfl | hn
  · rfl
  rcases List.mem_cons.mp hn with rfl | hn
  · rfl
  rcases List.mem_cons.mp hn with rfl | hn
  · rfl
  rcases List.mem_cons.mp hn with rfl | hn
  · rfl
  rcases List.mem_cons.mp hn with rfl | hn
  · rfl
  rcases List.mem_cons.mp hn with rfl | hn
  · rfl
  · cases hn
theorem xPreX_blind {D : va_G} {ad : Nat → Nat} {ca : Nat → ClassId} {σ : XS} {sz : Nat} {vs : List Value} : FrameBlind (xPreX D ad ca σ sz vs) := by
  intro a U g mk q
  obtain ⟨q0, q1, ⟨b1, b2, b3, b4⟩, q3, q4, ⟨z1, z2, z3, z4⟩⟩ := q
  exact ⟨q0, q1, ⟨b1, b2, xKn_moved (u := U) (U := U.calling g mk a) (Vm.Alike.refl U.vm) b3, b4⟩, fun w hw => xN_same hw (u := U) (U := U.calling g mk a) (Vm.Alike.refl U.vm) rfl (q3 w hw), q4, fun w hw => va_Nw.same (u := U) (U := U.calling g mk a) (xCs_tab hw) rfl (z1 w hw), fun q hq => (z2 q hq).imp fun sa h => vk_R.same (u := U) (U := U.calling g mk a) rfl h, vx_Zq.moved (u := U) (U := U.calling g mk a) (Vm.Alike.refl U.vm) z3, vx_Zq.moved (u := U) (U := U.calling g mk a) (Vm.Alike.refl U.vm) z4⟩
section XTH
variable {p : Program} {l : Launch} {e : Env} {R : Room} {s : State} {m : MethodId} {args : Array Value} {below : List Frame} {meth : Method} {c : Code} {Q : State → Prop} {D : va_G} {A : Nat → Prop} {u nL n0 s0 : Nat} {ad0 : Nat → Nat} {ca0 : Nat → ClassId} {H : Heap} {locs : List Loc} {ls : Array Slot} {ad : Nat → Nat} {ca : Nat → ClassId} {lo : XL} {st : List Value} {σ : XS}
theorem xPt.preX {vs : List Value} (hpt : xPt D A s nL n0 s0 ad0 ca0 H locs ls ad ca lo st σ) (hA : ∀ q, s.heap.size ≤ q → A q) (htn : ∀ w ∈ xNx, w.before args s = true) (hvs : ∀ v ∈ vs, xok σ.1 v) (hz : xZ A s) {U : State} (hU : U.heap = H) (hW : s.WarmedH U.vm) : xPreX D ad ca σ H.size vs (vs.map (xcv ad)).toArray U := by
  obtain ⟨p0, p1, p2, p3, p4⟩ := hpt.pre htn hvs hU hW
  obtain ⟨z1, z2, z3, z4⟩ := hz
  have hF := hpt.free hA
  refine ⟨p0, p1, p2, p3, p4, fun w hw => xCs_warm hW hw (z1 w hw), fun q hq => (z2 q hq).imp fun sa h => vk_R.warm hW h, ?_, ?_⟩
  · rw [hU]; exact (((z3.kept hpt.1.2.2.1.2.1).moved hW.alike).narrow hF)
  · rw [hU]; exact (((z4.kept hpt.1.2.2.1.2.1).moved hW.alike).narrow hF)
theorem xthrow {pc E : Nat} {t9 : Nat × Nat × Nat} {ad0 : Nat → Nat} {mc ms : Nat} (hl : l.stackTraces = false) (F : xFix p s m args meth c u) (hlocks : meth.locks = false) (hout : ∀ x ∈ c.exceptionTable.toList, False) (hA : ∀ q, s.heap.size ≤ q → A q) (hz : xZ A s) (hT : xTt.lookup (u, pc) = some (E, t9)) (hcat : (st.map Value.category).sum ≤ 8)
    (hpt : xPt D A s (xM u).2.2.2.1 n0 s0 ad0 ca0 H locs ls ad ca lo st σ) (hRf : 6 ≤ R.frames) (hRl : 100 ≤ R.locals) (hRc : σ.1 - n0 + 1 ≤ R.cells) (hRs : σ.2.1 - s0 + 6 ≤ R.slots) (hc : σ.1 - n0 + 1 ≤ mc) (hs : σ.2.1 - s0 + 6 ≤ ms) :
    W p l e R s m args below meth c H locs (σ.1 - n0) (σ.2.1 - s0) (vx_MQ below (fun _ _ _ _ => False) (xXC D ad0 ca0 n0 E σ A) args s mc ms A) (F0 m pc ls (st.map (xcv ad))) := by
  obtain ⟨hx, hb, hml, hown, hts, htn, hini⟩ := F
  obtain ⟨ik, is, ic⟩ := t9
  have hPT := xTt_ok _ (xlook2 hT)
  obtain ⟨t1, t2, t3, ⟨tx, t4⟩, ⟨t5, t6, t7⟩, d0, d3, d4, d6, d9, t8⟩ := hPT
  obtain ⟨z1, z2, z3, z4⟩ := hz
  obtain ⟨sa, hsa⟩ := z2 _ t4
  have t1 : (xM u).1 = 9 := t1
  have hown' : s.vm.findClass RX9 = some m.cls := by
    rw [t1] at hown
    exact hown
  have hat : ∀ w ∈ vx_atS RX9 ic (xEn E) xSup, w.before args s = true := vx_hat (fun w hw => hts w (xtm (t5 w hw) (List.mem_filter.mp hw).2)) t7 (fun w hw => va_Nw.use (xCs_tab hw) (z1 w hw))
  have hgd : ∀ w ∈ Cond.classLink RX9 ik (xEn E) :: Cond.initialized (xEn E) :: vx_atS RX9 ic (xEn E) xSup, vx_ot w = true := fun w hw => by
    rcases List.mem_cons.mp hw with rfl | hw
    · rfl
    · rcases List.mem_cons.mp hw with rfl | hw
      · rfl
      · exact t6 w hw
  have hcat' : ((st.map (xcv ad)).map fun v => v.category).sum ≤ 8 := by rw [xcat]; exact hcat
  refine vx_throwS (names := xSup) hx hb hl hown' t8 (by decide +kernel) (hts _ t2) (hts _ t3) hsa hat hgd z3 z4 hpt.1.2.2.1 (hpt.2.1.1.trans hml.symm) (xIn_ok d0).1 (xIn_ok d3).1 (xIn_ok d4).1 (xIn_ok d6).1 (xIn_ok d9).1 (fun x hx => (hout x hx).elim) (by show 2 + 3 < R.frames; omega) (by show _ + (13 * (2 + 1) + 43) ≤ R.locals; omega) hRc hRs hlocks ?_ hpt.1.2.2.1.2.2 hc hs
  intro t hal hsz hkeep
  refine ⟨(ad, ca), hpt.2.2.2.2.2, ⟨rfl, hpt.1.1.kept (fun k x hx => hkeep x.1 ((hpt.1.1 k x hx).lt)), hpt.1.2.1, xKn_moved hal hpt.1.2.2.2.1, hpt.1.2.2.2.2⟩, Nat.le_trans hpt.1.2.2.1.1 hsz, fun q hq hA' => ?_⟩
  rw [hkeep q (Nat.lt_of_lt_of_le hq hpt.1.2.2.1.1)]
  exact hpt.1.2.2.1.2.1 q hq hA'
end XTH
end
section
/-! calls that throw -/
section XTI
variable {p : Program} {l : Launch} {e : Env} {R : Room} {s : State} {m : MethodId} {args : Array Value} {below : List Frame} {meth : Method} {c : Code} {Q : State → Prop} {D : va_G} {A : Nat → Prop} {u nL n0 s0 : Nat} {ad0 : Nat → Nat} {ca0 : Nat → ClassId} {H : Heap} {locs : List Loc} {ls : Array Slot} {ad : Nat → Nat} {ca : Nat → ClassId} {lo : XL} {st : List Value} {σ : XS}
theorem xbackX {pc E mc ms : Nat} {st0 rest : List Value} {σ1 : XS} (hpt : xPt D A s nL n0 s0 ad0 ca0 H locs ls ad ca lo st σ) (hA : ∀ q, s.heap.size ≤ q → A q) (hm : σ.1 ≤ σ1.1 ∧ σ.2.1 ≤ σ1.2.1) (hlocks : meth.locks = false) (hout : ∀ x ∈ c.exceptionTable.toList, False)
    (hr : vx_Run p l e R s m args below meth c H locs (σ.1 - n0) (σ.2.1 - s0) (σ1.1 - σ.1 + 1) (σ1.2.1 - σ.2.1 + 6) (F0 m pc ls st0) rest (fun _ _ _ => False) (xXC D ad ca σ.1 E σ1 (va_A (xws ad ca σ.2.2 σ.1) H.size)) (va_A (xws ad ca σ.2.2 σ.1) H.size))
    (hc : σ1.1 - n0 + 1 ≤ mc) (hs : σ1.2.1 - s0 + 6 ≤ ms) :
    W p l e R s m args below meth c H locs (σ.1 - n0) (σ.2.1 - s0) (vx_MQ below (fun _ _ _ _ => False) (xXC D ad0 ca0 n0 E σ1 A) args s mc ms A) (F0 m pc ls st0) := by
  have hn0 := hpt.2.2.2.1
  have hs0 := hpt.2.2.2.2.1
  have hF := hpt.free hA
  intro T hT X
  rcases hr T hT X with ⟨v, st₀, t, T', L, h1, h2, h3, h4, h5, h6, h7⟩ | ⟨q, st₀, t, T', L, E', ce, h1, hX', hL, hTh, hTv, hxc, hce, hcv, hcl, hst⟩
  · exact h6.elim
  · obtain ⟨w, hag, ⟨rfl, ⟨b1, b2, b3, b4⟩⟩, hFr⟩ := hxc
    have hal : s.vm.Alike t.vm := by rw [← hTv]; exact hX'.warmed.alike
    have hsz : s.heap.size ≤ T'.heap.size := by
      rw [hTh]
      exact Nat.le_trans hpt.1.2.2.1.1 (by rw [← h1]; exact hFr.1)
    have hkeep : ∀ q : Nat, q < s.heap.size → ¬ A q → T'.heap[q]? = s.heap[q]? := fun q hq hnA => by
      rw [hTh, hFr.2 q (by rw [h1]; exact Nat.lt_of_lt_of_le hq hpt.1.2.2.1.1) (fun q1 => hnA (hF q q1)), h1]
      exact hpt.1.2.2.1.2.1 q hq hnA
    have hW := vx_out (p := p) (l := l) (e := e) (R := R) (s := s) (m := m) (args := args) (below := below) (meth := meth) (c := c) (H := T'.heap) (locs := locs ++ L) (cells := σ.1 - n0 + (σ1.1 - σ.1 + 1)) (slots := σ.2.1 - s0 + (σ1.2.1 - σ.2.1 + 6)) (free := A) (ls := ls) (rest := rest) (Qc := fun _ _ _ _ => False) (XC := xXC D ad0 ca0 n0 E σ1 A) (pc := pc) (E := xEn E) (ce := ce) (q := q) (mc := mc) (ms := ms) (fun x hx => (hout x hx).elim) hlocks (by rw [hTh]; exact hce) hcv hcl
      (fun t' ht' hal' => ⟨w, fun i hi => by
          have hi' : i < σ.1 := Nat.lt_of_lt_of_le hi hn0
          rw [(hag i hi').1, (hag i hi').2]
          exact hpt.2.2.2.2.2 i hi, ⟨rfl, by rw [ht', hTh]; exact b1, b2.weaken (fun k q _ h => hF q.1 h), xKn_moved (hal.symm.trans hal') b3, b4⟩, by rw [ht']; exact hsz, fun q hq hnA => by rw [ht']; exact hkeep q hq hnA⟩)
      (fun z hz => (List.mem_append.mp hz).elim (hpt.1.2.2.1.2.2 z) (fun h => hF _ (hL z h))) (by omega) (by omega)
    obtain ⟨t2, hs2, hq2⟩ := hW T' rfl hX'
    exact ⟨t2, hst.trans hs2, hq2⟩
theorem xinvT_ok {N d pc j vk mc ms : Nat} {r : Nat × XS} (hC : ∀ u' vs σ E σ', xcallX N d u' vs σ = some (E, σ') → xMetX l D d u' vs σ E σ') (F : xFix p s m args meth c u) (hlocks : meth.locks = false) (hout : ∀ x ∈ c.exceptionTable.toList, False) (hA : ∀ q, s.heap.size ≤ q → A q) (hz : xZ A s)
    (hd : decode (xM u).2.2.1 pc = .ok ((if vk = 0 then Instr.invokevirtual j else if vk = 1 then Instr.invokestatic j else Instr.invokespecial j), 3)) (h : xinvT (xcallX N d) (xM u).1 j vk st σ = some r)
    (hpt : xPt D A s (xM u).2.2.2.1 n0 s0 ad0 ca0 H locs ls ad ca lo st σ) (hRf : d + 7 ≤ R.frames) (hRl : (d + 1) * 40 + 100 ≤ R.locals) (hRc : r.2.1 - n0 + 1 ≤ R.cells) (hRs : r.2.2.1 - s0 + 6 ≤ R.slots) (hc : r.2.1 - n0 + 1 ≤ mc) (hs : r.2.2.1 - s0 + 6 ≤ ms) :
    W p l e R s m args below meth c H locs (σ.1 - n0) (σ.2.1 - s0) (vx_MQ below (fun _ _ _ _ => False) (xXC D ad0 ca0 n0 r.1 r.2 A) args s mc ms A) (F0 m pc ls (st.map (xcv ad))) := by
  obtain ⟨hx, hb, hml, hown, hts, htn, hini⟩ := F
  have hLL := hpt.2.1.1
  have hn0 := hpt.2.2.2.1
  have hs0 := hpt.2.2.2.2.1
  unfold xinvT at h
  split at h
  · rename_i kd u' hCe
    have hPC := xC_ok hCe
    have hu' : u' < 149 := xC_lt hCe
    obtain ⟨m1, m2, m3, m4, m5, m6⟩ := xM_ok u'
    have hroom : (xRoomX d σ σ).frames + 1 ≤ R.frames ∧ 8 + ((xM u').2.2.2.1 + 11) + (xRoomX d σ σ).locals ≤ R.locals := by
      refine ⟨hRf, ?_⟩
      show 8 + ((xM u').2.2.2.1 + 11) + (d * 40 + 100) ≤ R.locals
      omega
    split at h
    · rename_i hkd
      obtain ⟨hk0, hv⟩ := hkd
      subst hk0
      subst hv
      obtain ⟨c1, c2, c3⟩ := hPC
      split at h
      · rename_i b rest hdrop
        split at h
        · rename_i hbn
          obtain ⟨hcat, hbn⟩ := hbn
          split at h
          · rename_i c0 fs hf
            split at h
            · rename_i hc0
              have hcall : xcallX N d u' (.ref b :: (st.take (xA u')).reverse) σ = some (r.1, r.2) := h
              have hmm := xcallX_mono _ _ _ _ _ _ hcall
              have hst : st = st.take (xA u') ++ .ref b :: rest := by rw [← hdrop, List.take_append_drop]
              have hlen : (st.take (xA u')).length = xA u' := by
                rw [List.length_take]
                have : (st.drop (xA u')).length ≠ 0 := by rw [hdrop]; simp
                rw [List.length_drop] at this
                omega
              have hvs : ∀ v ∈ (.ref b :: (st.take (xA u')).reverse : List Value), xok σ.1 v := fun v hv => by
                refine hpt.2.2.1 v ?_
                rw [hst]
                rcases List.mem_cons.mp hv with e | hv
                · rw [e]; exact List.mem_append_right _ List.mem_cons_self
                · exact List.mem_append_left _ (List.mem_reverse.mp hv)
              have hw := xws_at (ad := ad) (ca := ca) (f := σ.2.2) hbn
              rw [hf] at hw
              obtain ⟨q9, hq9, -⟩ := hpt.1.1 b _ hw
              have hq9 : vwCl[c0]? = some q9 := hq9
              have hq : q9.1 = (xM u').2.1.cls := by
                rw [← m2, ← hc0]
                unfold xR
                rw [List.getD_eq_getElem?_getD, hq9]
                rfl
              have hrecv := va_recv hpt.K hpt.1.1 hq9 hw
              rw [hq] at hrecv
              refine xbackX (E := r.1) (σ1 := r.2) (rest := rest.map (xcv ad)) hpt hA hmm hlocks hout ?_ hc hs
              refine vx_runV (C := (xM u').2.1.cls) (As := ((st.take (xA u')).reverse).map (xcv ad)) ⟨hx, hb, hml, hown, hts⟩ (hC _ _ _ _ _ hcall ad ca H.size) (cwV (xA u') hts (xgoodT ?_) rfl rfl rfl ⟨rfl, m4.1, m4.2, xA_ok hu'⟩ hroom) ⟨xPreX_blind, hrecv, fun U hU hW => hpt.preX hA htn hvs hz hU hW⟩ rfl (by rw [List.length_map, List.length_reverse]; exact hlen) hLL ?_ (lv_room (by rw [xcat]; exact hcat)) hd ?_
              · intro w hw
                rcases List.mem_append.mp hw with hw | hw
                · rcases List.mem_cons.mp hw with rfl | hw
                  · exact c1
                  · rcases List.mem_cons.mp hw with rfl | hw
                    · exact c2
                    · rcases List.mem_cons.mp hw with rfl | hw
                      · exact c3
                      · rcases List.mem_cons.mp hw with rfl | hw
                        · exact m6
                        · cases hw
                · exact xW_in u' w hw
              · show st.map (xcv ad) = _
                conv => lhs; rw [hst]
                rw [List.map_append, ← List.map_reverse, List.reverse_reverse]
                rfl
              · omega
            · cases h
          · cases h
        · cases h
      · cases h
    · split at h
      · rename_i hkd
        obtain ⟨rfl, rfl⟩ := hkd
        split at h
        · rename_i hlc
          obtain ⟨hlen, hcat⟩ := hlc
          have hcall : xcallX N d u' (st.take (xA u')).reverse σ = some (r.1, r.2) := h
          have hmm := xcallX_mono _ _ _ _ _ _ hcall
          have hvs : ∀ v ∈ ((st.take (xA u')).reverse : List Value), xok σ.1 v := fun v hv => hpt.2.2.1 v (List.mem_of_mem_take (List.mem_reverse.mp hv))
          have hstk : st.map (xcv ad) = (((st.take (xA u')).reverse).map (xcv ad)).reverse ++ (st.drop (xA u')).map (xcv ad) := by
            rw [← List.map_reverse, List.reverse_reverse, ← List.map_append, List.take_append_drop]
          refine xbackX (E := r.1) (σ1 := r.2) (rest := (st.drop (xA u')).map (xcv ad)) hpt hA hmm hlocks hout ?_ hc hs
          obtain ⟨c1, c2⟩ := hPC
          refine vx_runS (As := ((st.take (xA u')).reverse).map (xcv ad)) ⟨hx, hb, hml, hown, hts⟩ (hC _ _ _ _ _ hcall ad ca H.size) (va_cwS (xA u') hts (xgoodT ?_) rfl rfl rfl ⟨m4.1, m4.2, xA_ok hu'⟩ hroom) ⟨xPreX_blind, fun U hU hW => hpt.preX hA htn hvs hz hU hW⟩ rfl (by rw [List.length_map, List.length_reverse]; exact hlen) hLL hstk (lv_room (by rw [xcat]; exact hcat)) hd ?_
          · intro w hw
            rcases List.mem_append.mp hw with hw | hw
            · rcases List.mem_cons.mp hw with rfl | hw
              · exact c1
              · rcases List.mem_cons.mp hw with rfl | hw
                · exact c2
                · rcases List.mem_cons.mp hw with rfl | hw
                  · exact m6
                  · cases hw
            · exact xW_in u' w hw
          · omega
        · cases h
      · cases h
  · cases h
theorem xgoX_ok {N d E : Nat} {σ0 σf : XS} (hl : l.stackTraces = false) (hC : ∀ u' vs σ E σ', xcallX N d u' vs σ = some (E, σ') → xMetX l D d u' vs σ E σ') (F : xFix p s m args meth c u) (hlocks : meth.locks = false) (hout : ∀ x ∈ c.exceptionTable.toList, False) (hA : ∀ q, s.heap.size ≤ q → A q) (hz : xZ A s) :
    ∀ (n pc : Nat) (lo : XL) (st : List Value) (σ : XS) (H : Heap) (locs : List Loc) (ls : Array Slot) (ad : Nat → Nat) (ca : Nat → ClassId), xgoX (xcall N d) (xcallX N d) u n pc lo st σ = some (E, σf) → xPt D A s (xM u).2.2.2.1 σ0.1 σ0.2.1 ad0 ca0 H locs ls ad ca lo st σ →
      W p l e (xRoomX (d + 1) σ0 σf) s m args below meth c H locs (σ.1 - σ0.1) (σ.2.1 - σ0.2.1) (vx_MQ below (fun _ _ _ _ => False) (xXC D ad0 ca0 σ0.1 E σf A) args s (σf.1 - σ0.1 + 1) (σf.2.1 - σ0.2.1 + 6) A) (F0 m pc ls (st.map (xcv ad))) := by
  intro n
  have hcm : ∀ u vs σ rv σ', xcall N d u vs σ = some (rv, σ') → σ.1 ≤ σ'.1 ∧ σ.2.1 ≤ σ'.2.1 := fun u vs σ rv σ' h => xcall_mono d u vs σ rv σ' h
  have hcx : ∀ u vs σ rv σ', xcallX N d u vs σ = some (rv, σ') → σ.1 ≤ σ'.1 ∧ σ.2.1 ≤ σ'.2.1 := fun u vs σ rv σ' h => xcallX_mono d u vs σ rv σ' h
  have hR1 : d + 1 ≤ (xRoomX (d + 1) σ0 σf).frames := by show d + 1 ≤ d + 1 + 6; omega
  have hR2 : (d + 1) * 40 ≤ (xRoomX (d + 1) σ0 σf).locals := by show (d + 1) * 40 ≤ (d + 1) * 40 + 100; omega
  induction n with
  | zero => intro pc lo st σ H locs ls ad ca h; cases h
  | succ n ih =>
    intro pc lo st σ H locs ls ad ca h hpt
    have hb : ∀ σ' : XS, σ'.1 ≤ σf.1 ∧ σ'.2.1 ≤ σf.2.1 → σ'.1 - σ0.1 ≤ (xRoomX (d + 1) σ0 σf).cells ∧ σ'.2.1 - σ0.2.1 ≤ (xRoomX (d + 1) σ0 σf).slots := fun σ' hh => by
      show σ'.1 - σ0.1 ≤ σf.1 - σ0.1 + 1 ∧ σ'.2.1 - σ0.2.1 ≤ σf.2.1 - σ0.2.1 + 6
      omega
    unfold xgoX at h
    split at h
    · rename_i E' t9 hT
      split at h
      · rename_i hcat
        cases h
        exact xthrow hl F hlocks hout hA hz hT hcat hpt (by show 6 ≤ d + 1 + 6; omega) (by show 100 ≤ (d + 1) * 40 + 100; omega) (Nat.le_refl _) (Nat.le_refl _) (Nat.le_refl _) (Nat.le_refl _)
      · cases h
    · split at h
      · cases h
      · rename_i i len hi
        obtain ⟨hd, hll⟩ := xIn_ok hi
        split at h
        · rename_i j
          cases of_decide_eq_true hll
          split at h
          · rename_i r hr
            cases h
            exact xinvT_ok (vk := 0) hC F hlocks hout hA hz hd hr hpt (by show d + 7 ≤ d + 1 + 6; omega) (by show (d + 1) * 40 + 100 ≤ (d + 1) * 40 + 100; omega) (Nat.le_refl _) (Nat.le_refl _) (Nat.le_refl _) (Nat.le_refl _)
          · exact xinv_ok (vk := 0) (xcall_ok l D N d) F hA hd h hpt (fun st' σ' H' locs' ad' ca' h' hp => ih _ _ _ _ _ _ _ _ _ h' hp) (fun st' σ' h' => hb _ (xgoX_mono hcm hcx _ _ _ _ _ h')) hR1 hR2
        · rename_i j
          cases of_decide_eq_true hll
          split at h
          · rename_i r hr
            cases h
            exact xinvT_ok (vk := 1) hC F hlocks hout hA hz hd hr hpt (by show d + 7 ≤ d + 1 + 6; omega) (by show (d + 1) * 40 + 100 ≤ (d + 1) * 40 + 100; omega) (Nat.le_refl _) (Nat.le_refl _) (Nat.le_refl _) (Nat.le_refl _)
          · exact xinv_ok (vk := 1) (xcall_ok l D N d) F hA hd h hpt (fun st' σ' H' locs' ad' ca' h' hp => ih _ _ _ _ _ _ _ _ _ h' hp) (fun st' σ' h' => hb _ (xgoX_mono hcm hcx _ _ _ _ _ h')) hR1 hR2
        · exact xst_ok F hA hd hll h hpt (fun pc' lo' st' σ' H' locs' ls' ad' ca' h' hp => ih _ _ _ _ _ _ _ _ _ h' hp) (fun pc' lo' st' σ' h' => hb _ (xgoX_mono hcm hcx _ _ _ _ _ h'))
end XTI
set_option maxHeartbeats 1000000 in
theorem xcallX_ok (l : Launch) (hls : l.stackTraces = false) (D : va_G) (N : Nat) : ∀ (d u : Nat) (vs : List Value) (σ : XS) (E : Nat) (σ' : XS), xcallX N d u vs σ = some (E, σ') → xMetX l D d u vs σ E σ' := by
  intro d
  induction d with
  | zero => intro u vs σ rv σ' h; cases h
  | succ d ih =>
    intro u vs σ rv σ' h
    unfold xcallX at h
    split at h
    · rename_i hle
      intro ad ca sz
      obtain ⟨m1, m2, m3, m4, m5, m6⟩ := xM_ok u
      refine vx_ofW (cc := (xM u).2.2.1) (maxL := (xM u).2.2.2.1) (ret := (xM u).2.2.2.2) m3 rfl ?_
      intro p e s m args below meth c s₁ B hml hout hv
      obtain ⟨rfl, hsz, ⟨hP, hD0, hK, hcl⟩, hN, hok, hz⟩ := hv
      subst hsz
      have hts0 := atoms_spec (ws := xW u) B.pre
      have hown : s.vm.findClass (xM u).2.1.cls = some m.cls := findClass_of_methodNamed B.named
      have F : xFix p s m (vs.map (xcv ad)).toArray meth c u := ⟨B.exec, B.bytes, hml, by rw [m2]; exact hown, fun w hw => hts0 w (List.mem_cons_of_mem _ hw), fun w hw => xN_use hw (hN w hw), fun hi => ((name_of_methodNamed B.named B.method).1).trans (of_decide_eq_true hi)⟩
      have hcat : ∀ v ∈ vs.map (xcv ad), v.category = 1 := fun v hv => by
        obtain ⟨w, hw, rfl⟩ := List.mem_map.mp hv
        rw [xcv_cat]
        exact xok_cat (hok w hw)
      have hl := lv_entry (vs.map (xcv ad)) (n := (xM u).2.2.2.1) (by rw [xsl_len hcat, List.length_map]; exact hle)
      rw [lg_entry_eq]
      generalize (lg_sl (vs.map (xcv ad)) ++ List.replicate ((xM u).2.2.2.1 - (lg_sl (vs.map (xcv ad))).length) Slot.unset).toArray = ls at hl ⊢
      have hpt : xPt D (va_A (xws ad ca σ.2.2 σ.1) s.heap.size) s (xM u).2.2.2.1 σ.1 σ.2.1 ad ca s.heap [] ls ad ca (vs.map some ++ List.replicate ((xM u).2.2.2.1 - vs.length) none) [] σ := by
        refine ⟨⟨hP, hD0.self, va_S.rf, hK, hcl⟩, ⟨hl.1, hl.2.1, by simp; omega, fun i v hi => ?_⟩, fun v hv => by simp at hv, Nat.le_refl _, Nat.le_refl _, fun i _ => ⟨rfl, rfl⟩⟩
        have hi' : vs[i]? = some v := by
          by_cases hlt : i < vs.length
          · rw [List.getElem?_append_left (by rw [List.length_map]; exact hlt), List.getElem?_map] at hi
            cases hv : vs[i]? with
            | none => rw [hv] at hi; cases hi
            | some w => rw [hv] at hi; cases hi; rfl
          · rw [List.getElem?_append_right (by rw [List.length_map]; omega)] at hi
            rw [List.getElem?_replicate] at hi
            split at hi
            · cases hi
            · cases hi
        refine ⟨?_, hok v (List.mem_of_getElem? hi')⟩
        have := xargs hcat 0 i (xcv ad v) (by rw [List.getElem?_map, hi']; rfl)
        rw [Nat.zero_add] at this
        exact hl.2.2 _ this
      have hW := xgoX_ok (l := l) (e := e) (below := below) (D := D) (N := N) (σ0 := σ) hls ih F B.notSynchronized hout (fun q h => Or.inr h) hz N 0 _ [] σ s.heap [] ls ad ca h hpt
      rw [Nat.sub_self, Nat.sub_self] at hW
      exact hW
    · cases h
end
section
/-! the law's own world: the abstract machine's cells, and its array of one long -/
def lwO (cL : ClassId) (v : Nat → Int64) : va_E := .inl (cL, 1, .inr (.inl v))
def lwW (w : XW) (σ : XS) (qo : Nat) (cL : ClassId) (v : Nat → Int64) : va_W := xws w.1 w.2 σ.2.2 σ.1 ++ [(qo, lwO cL v)]
def lwPt (D : va_G) (A : Nat → Prop) (s : State) (H : Heap) (locs : List Loc) (w : XW) (σ : XS) (qo : Nat) (cL : ClassId) (v : Nat → Int64) : Prop :=
  va_P D vwCl (lwW w σ qo cL v) H ∧ va_D A (lwW w σ qo cL v) ∧ va_S A s.heap H locs ∧ xKn D w.2 σ s ∧ (ArrOfT s cL .long ∧ va_RA s cL .long) ∧ xclo σ.1 σ.2.2
theorem xws_len {ad : Nat → Nat} {ca : Nat → ClassId} {f : Nat → XE} {n : Nat} : (xws ad ca f n).length = n := by simp [xws]
section LWK
variable {p : Program} {l : Launch} {e : Env} {R : Room} {s : State} {m : MethodId} {args : Array Value} {below : List Frame} {meth : Method} {c : Code} {Q : State → Prop} {D : va_G} {A : Nat → Prop} {H : Heap} {locs : List Loc} {ls : Array Slot} {w : XW} {σ : XS} {qo : Nat} {cL : ClassId} {v : Nat → Int64} {cells slots : Nat}
theorem lwPt.pre (h : lwPt D A s H locs w σ qo cL v) : va_P D vwCl (xws w.1 w.2 σ.2.2 σ.1) H ∧ va_D A (xws w.1 w.2 σ.2.2 σ.1) := by
  refine ⟨fun k q hk => h.1 k q ?_, ⟨fun i j x y hi hj e => h.2.1.1 i j x y ?_ ?_ e, fun k q hk => h.2.1.2 k q ?_⟩⟩
  all_goals (unfold lwW; rw [List.getElem?_append_left (List.getElem?_eq_some_iff.mp (by assumption)).1]; assumption)
theorem lwPt.out (h : lwPt D A s H locs w σ qo cL v) : (lwW w σ qo cL v)[σ.1]? = some (qo, lwO cL v) := by
  unfold lwW
  rw [List.getElem?_append_right (by rw [xws_len]; exact Nat.le_refl _), xws_len, Nat.sub_self]
  rfl
theorem lwPt.free (h : lwPt D A s H locs w σ qo cL v) (hA : ∀ q, s.heap.size ≤ q → A q) : ∀ q, va_A (xws w.1 w.2 σ.2.2 σ.1) H.size q → A q := by
  intro q hq
  rcases hq with ⟨k, e, hk⟩ | hq
  · exact h.pre.2.2 k (q, e) hk
  · exact hA q (Nat.le_trans h.2.2.1.1 hq)
theorem lwPt.notin (h : lwPt D A s H locs w σ qo cL v) : qo < H.size ∧ ¬ va_A (xws w.1 w.2 σ.2.2 σ.1) H.size qo := by
  have hlt : qo < H.size := (h.1 _ _ h.out).lt
  refine ⟨hlt, fun hq => ?_⟩
  rcases hq with ⟨k, e, hk⟩ | hq
  · have hkl : k < σ.1 := by
      have := (List.getElem?_eq_some_iff.mp hk).1
      rw [xws_len] at this
      exact this
    have := h.2.1.1 k σ.1 (qo, e) (qo, lwO cL v) (by unfold lwW; rw [List.getElem?_append_left (by rw [xws_len]; exact hkl)]; exact hk) h.out rfl
    omega
  · omega
/-- behind a call over the abstract machine's cells -/
theorem lwPt.after {w1 : XW} {σ1 : XS} {t : State} {H1 : Heap} {locs1 : List Loc} (h : lwPt D A s H locs w σ qo cL v) (hA : ∀ q, s.heap.size ≤ q → A q) (hB : xB D (va_A (xws w.1 w.2 σ.2.2 σ.1) H.size) w1 σ1 t) (ht : t.heap = H1) (hvm : s.vm.Alike t.vm) (hk : ∀ q : Nat, q < H.size → ¬ va_A (xws w.1 w.2 σ.2.2 σ.1) H.size q → H1[q]? = H[q]?) (hS : va_S A s.heap H1 locs1) : lwPt D A s H1 locs1 w1 σ1 qo cL v := by
  obtain ⟨b1, b2, b3, b4⟩ := hB
  rw [ht] at b1
  obtain ⟨n1, n2⟩ := h.notin
  have ho := h.1 _ _ h.out
  refine ⟨b1.app (fun k q hq => ?_), (b2.weaken (fun k q _ hq => h.free hA q.1 hq)).app ⟨fun i j x y hi hj _ => ?_, fun k q hq => ?_⟩ (fun i j x y hi hj e => ?_), hS, xKn_moved hvm.symm b3, h.2.2.2.2.1, b4⟩
  · have h0 : k < 1 := (List.getElem?_eq_some_iff.mp hq).1
    rw [show k = 0 by omega] at hq
    cases hq
    exact ho.kept (hk qo n1 n2)
  · have hi0 : i < 1 := (List.getElem?_eq_some_iff.mp hi).1
    have hj0 : j < 1 := (List.getElem?_eq_some_iff.mp hj).1
    omega
  · have h0 : k < 1 := (List.getElem?_eq_some_iff.mp hq).1
    rw [show k = 0 by omega] at hq
    cases hq
    exact h.2.1.2 _ _ h.out
  · have hj0 : j < 1 := (List.getElem?_eq_some_iff.mp hj).1
    rw [show j = 0 by omega] at hj
    cases hj
    have := b2.2 i x hi
    rw [e] at this
    exact n2 this
theorem lwPt.callee {vs : List Value} (h : lwPt D A s H locs w σ qo cL v) (htn : ∀ w ∈ xNx, w.before args s = true) (hvs : ∀ v ∈ vs, xok σ.1 v) {U : State} (hU : U.heap = H) (hW : s.WarmedH U.vm) : xPre D w.1 w.2 σ H.size vs (vs.map (xcv w.1)).toArray U :=
  ⟨rfl, by rw [hU], ⟨by rw [hU]; exact h.pre.1, h.pre.2.weaken (fun _ _ _ _ => trivial), xKn_moved hW.alike h.2.2.2.1, h.2.2.2.2.2⟩, fun w hw => xN_warm hW hw (xN_of hw (htn w hw)), hvs⟩
theorem lwPt.calleeX {vs : List Value} (h : lwPt D A s H locs w σ qo cL v) (hA : ∀ q, s.heap.size ≤ q → A q) (htn : ∀ w ∈ xNx, w.before args s = true) (hz : xZ A s) (hvs : ∀ v ∈ vs, xok σ.1 v) {U : State} (hU : U.heap = H) (hW : s.WarmedH U.vm) : xPreX D w.1 w.2 σ H.size vs (vs.map (xcv w.1)).toArray U := by
  obtain ⟨p0, p1, p2, p3, p4⟩ := h.callee htn hvs hU hW
  obtain ⟨z1, z2, z3, z4⟩ := hz
  have hF := h.free hA
  refine ⟨p0, p1, p2, p3, p4, fun w hw => xCs_warm hW hw (z1 w hw), fun q hq => (z2 q hq).imp fun sa h => vk_R.warm hW h, ?_, ?_⟩
  · rw [hU]; exact (((z3.kept h.2.2.1.2.1).moved hW.alike).narrow hF)
  · rw [hU]; exact (((z4.kept h.2.2.1.2.1).moved hW.alike).narrow hF)
theorem lwK (h : lwPt D A s H locs w σ qo cL v) : va_K D vwCl [] s := ⟨h.2.2.2.1.1, fun k q hq => by simp at hq⟩
theorem lwPt.recv {b ci : Nat} {fs : List Value} {nm : String} (h : lwPt D A s H locs w σ qo cL v) (hb : b < σ.1) (hf : σ.2.2 b = .inl (ci, fs)) (hn : xR ci = nm) : ∃ cell : Cell, H[w.1 b]? = some cell ∧ cell.vm.isStatics = false ∧ s.vm.findClass nm = some cell.cls := by
  have hw := xws_at (ad := w.1) (ca := w.2) (f := σ.2.2) hb
  rw [hf] at hw
  obtain ⟨q9, hq9, -⟩ := h.pre.1 b _ hw
  have hq9 : vwCl[ci]? = some q9 := hq9
  have hq : q9.1 = nm := by
    rw [← hn]
    unfold xR
    rw [List.getD_eq_getElem?_getD, hq9]
    rfl
  have hrecv := va_recv (lwK h) h.pre.1 hq9 hw
  rw [hq] at hrecv
  exact hrecv
/-- a call of a method of the abstract machine that returns -/
theorem lw_callN {N d u ci b pc j nL : Nat} {own : String} {cc : ByteArray} {is rest : List Value} {fs : List Value} {rv : Option Value} {σ1 : XS} (hcall : xcall N d u (.ref b :: is) σ = some (rv, σ1)) (hx : p.tables.exec = Jvm.exec) (hb : c.code = cc) (hml : c.maxLocals = nL) (hown : s.vm.findClass own = some m.cls) (hts : ∀ w ∈ xT, w.before args s = true) (htn : ∀ w ∈ xNx, w.before args s = true)
    (hA : ∀ q, s.heap.size ≤ q → A q) (hpt : lwPt D A s H locs w σ qo cL v) (hbn : b < σ.1) (hf : σ.2.2 b = .inl (ci, fs)) (hci : (xM u).1 = ci) (hu : u < 149) (his : ∀ v ∈ is, xok σ.1 v) (hlen : is.length = xA u)
    (c1 : Cond.methodLink own j (xM u).2.1 ∈ xT) (c2 : Cond.instanceMethod (xM u).2.1 ∈ xT) (c3 : Cond.selects (xM u).2.1.cls (xM u).2.1 (xM u).2.1 ∈ xT) (hsize : ls.size = nL) (hcat : (rest.map fun v => v.category).sum ≤ 8) (hd : decode cc pc = .ok (.invokevirtual j, 3))
    (hRf : d + 1 ≤ R.frames) (hRl : (d + 1) * 40 ≤ R.locals) (hRc : cells + (σ1.1 - σ.1) ≤ R.cells) (hRs : slots + (σ1.2.1 - σ.2.1) ≤ R.slots)
    (hk : ∀ (H' : Heap) (locs' : List Loc) (w' : XW), xAg σ.1 w.1 w.2 w' → lwPt D A s H' locs' w' σ1 qo cL v → W p l e R s m args below meth c H' locs' (cells + (σ1.1 - σ.1)) (slots + (σ1.2.1 - σ.2.1)) Q (F0 m (pc + 3) ls ((rv.toList.map (xcv w'.1)) ++ rest))) :
    W p l e R s m args below meth c H locs cells slots Q (F0 m pc ls ((is.map (xcv w.1)).reverse ++ .ref (w.1 b) :: rest)) := by
  obtain ⟨m1, m2, m3, m4, m5, m6⟩ := xM_ok u
  have hF := hpt.free hA
  have hvs : ∀ v ∈ (.ref b :: is : List Value), xok σ.1 v := fun v hv => (List.mem_cons.mp hv).elim (fun e => e ▸ hbn) (his v)
  have hrecv := hpt.recv (nm := (xM u).2.1.cls) hbn hf (by rw [← hci]; exact m2)
  have hroom : (xRoom d σ σ1).frames + 1 ≤ R.frames ∧ 8 + ((xM u).2.2.2.1 + 11) + (xRoom d σ σ1).locals ≤ R.locals := by
    refine ⟨hRf, ?_⟩
    show 8 + ((xM u).2.2.2.1 + 11) + d * 40 ≤ R.locals
    omega
  have hrun := va_runV (p := p) (l := l) (e := e) (R := R) (s := s) (m := m) (args := args) (below := below) (meth := meth) (c := c) (H := H) (locs := locs) (cells := cells) (slots := slots) (C := (xM u).2.1.cls) (As := is.map (xcv w.1)) (rest := rest) (g := F0 m pc ls ((is.map (xcv w.1)).reverse ++ .ref (w.1 b) :: rest)) ⟨hx, hb, hml, hown, hts⟩ (xcall_ok l D N d _ _ _ _ _ hcall w.1 w.2 H.size) (cwV (xA u) hts (xgoodT (fun w hw => by
      rcases List.mem_append.mp hw with hw | hw
      · rcases List.mem_cons.mp hw with rfl | hw
        · exact c1
        · rcases List.mem_cons.mp hw with rfl | hw
          · exact c2
          · rcases List.mem_cons.mp hw with rfl | hw
            · exact c3
            · rcases List.mem_cons.mp hw with rfl | hw
              · exact m6
              · cases hw
      · exact xW_in u w hw)) rfl rfl rfl ⟨rfl, m4.1, m4.2, xA_ok hu⟩ hroom) ⟨xPre_blind, hrecv, fun U hU hW => hpt.callee htn hvs hU hW⟩ rfl (by rw [List.length_map]; exact hlen) hsize rfl (lv_room hcat) hd ⟨hRc, hRs⟩
  match rv, hrun, hk with
  | none, hr, hk =>
    refine va_callv (a := (Value.ref (w.1 b) :: is.map (xcv w.1)).toArray) hr hpt.2.2.1 (fun q _ h => hF q h) hF (fun w1 t H1 locs1 ht hvm hw hB hz1 hk1 hS => ?_)
    exact hk H1 locs1 w1 hw (hpt.after hA hB ht hvm hk1 hS)
  | some (.int x), hr, hk =>
    refine va_calli (a := (Value.ref (w.1 b) :: is.map (xcv w.1)).toArray) hr hpt.2.2.1 (fun q _ h => hF q h) hF (fun r w1 t H1 locs1 ht hvm hw hB hz1 hk1 hS => ?_)
    obtain ⟨rfl, hw⟩ := hw
    exact hk H1 locs1 w1 hw (hpt.after hA hB ht hvm hk1 hS)
  | some (.ref x), hr, hk =>
    refine va_callr (a := (Value.ref (w.1 b) :: is.map (xcv w.1)).toArray) hr hpt.2.2.1 (fun q _ h => hF q h) hF (fun w1 ra t H1 locs1 ht hvm hw hB hz1 hk1 hS => ?_)
    obtain ⟨hw, hb⟩ := hw
    obtain ⟨rfl, hB⟩ := hB
    exact hk H1 locs1 w1 hw (hpt.after hA hB ht hvm hk1 hS)
  | some (.long x), hr, hk =>
    intro T hT X
    obtain ⟨_, _, _, _, _, _, _, _, _, _, hq, _⟩ := hr T hT X
    exact hq.elim
  | some (.float x), hr, hk =>
    intro T hT X
    obtain ⟨_, _, _, _, _, _, _, _, _, _, hq, _⟩ := hr T hT X
    exact hq.elim
  | some (.double x), hr, hk =>
    intro T hT X
    obtain ⟨_, _, _, _, _, _, _, _, _, _, hq, _⟩ := hr T hT X
    exact hq.elim
  | some .null, hr, hk =>
    intro T hT X
    obtain ⟨_, _, _, _, _, _, _, _, _, _, hq, _⟩ := hr T hT X
    exact hq.elim
  | some (.retAddr x), hr, hk =>
    intro T hT X
    obtain ⟨_, _, _, _, _, _, _, _, _, _, hq, _⟩ := hr T hT X
    exact hq.elim
/-- a call of a method of the abstract machine that throws -/
theorem lw_callX {N d u ci b pc j nL E : Nat} {own : String} {cc : ByteArray} {is rest : List Value} {fs : List Value} {σ1 : XS} (hls : l.stackTraces = false) (hcall : xcallX N d u (.ref b :: is) σ = some (E, σ1)) (hx : p.tables.exec = Jvm.exec) (hb : c.code = cc) (hml : c.maxLocals = nL) (hown : s.vm.findClass own = some m.cls) (hts : ∀ w ∈ xT, w.before args s = true) (htn : ∀ w ∈ xNx, w.before args s = true)
    (hA : ∀ q, s.heap.size ≤ q → A q) (hz : xZ A s) (hpt : lwPt D A s H locs w σ qo cL v) (hbn : b < σ.1) (hf : σ.2.2 b = .inl (ci, fs)) (hci : (xM u).1 = ci) (hu : u < 149) (his : ∀ v ∈ is, xok σ.1 v) (hlen : is.length = xA u)
    (c1 : Cond.methodLink own j (xM u).2.1 ∈ xT) (c2 : Cond.instanceMethod (xM u).2.1 ∈ xT) (c3 : Cond.selects (xM u).2.1.cls (xM u).2.1 (xM u).2.1 ∈ xT) (hsize : ls.size = nL) (hcat : (rest.map fun v => v.category).sum ≤ 8) (hd : decode cc pc = .ok (.invokevirtual j, 3))
    (hRf : d + 7 ≤ R.frames) (hRl : (d + 1) * 40 + 100 ≤ R.locals) (hRc : cells + (σ1.1 - σ.1 + 1) ≤ R.cells) (hRs : slots + (σ1.2.1 - σ.2.1 + 6) ≤ R.slots)
    (hk : ∀ (H' : Heap) (locs' : List Loc) (w' : XW) (q : Addr) (ce : Cell), xAg σ.1 w.1 w.2 w' → lwPt D A s H' locs' w' σ1 qo cL v → H'[q]? = some ce → ce.vm = .none → s.vm.findClass (xEn E) = some ce.cls → vx_W p l e R s m args below meth c H' locs' (cells + (σ1.1 - σ.1 + 1)) (slots + (σ1.2.1 - σ.2.1 + 6)) Q (F0 m pc ls rest) q) :
    W p l e R s m args below meth c H locs cells slots Q (F0 m pc ls ((is.map (xcv w.1)).reverse ++ .ref (w.1 b) :: rest)) := by
  obtain ⟨m1, m2, m3, m4, m5, m6⟩ := xM_ok u
  have hF := hpt.free hA
  have hvs : ∀ v ∈ (.ref b :: is : List Value), xok σ.1 v := fun v hv => (List.mem_cons.mp hv).elim (fun e => e ▸ hbn) (his v)
  have hrecv := hpt.recv (nm := (xM u).2.1.cls) hbn hf (by rw [← hci]; exact m2)
  have hroom : (xRoomX d σ σ1).frames + 1 ≤ R.frames ∧ 8 + ((xM u).2.2.2.1 + 11) + (xRoomX d σ σ1).locals ≤ R.locals := by
    refine ⟨hRf, ?_⟩
    show 8 + ((xM u).2.2.2.1 + 11) + (d * 40 + 100) ≤ R.locals
    omega
  have hrun := vx_runV (p := p) (l := l) (e := e) (R := R) (s := s) (m := m) (args := args) (below := below) (meth := meth) (c := c) (H := H) (locs := locs) (cells := cells) (slots := slots) (C := (xM u).2.1.cls) (As := is.map (xcv w.1)) (rest := rest) (g := F0 m pc ls ((is.map (xcv w.1)).reverse ++ .ref (w.1 b) :: rest)) ⟨hx, hb, hml, hown, hts⟩ (xcallX_ok l hls D N d _ _ _ _ _ hcall w.1 w.2 H.size) (cwV (xA u) hts (xgoodT (fun w hw => by
      rcases List.mem_append.mp hw with hw | hw
      · rcases List.mem_cons.mp hw with rfl | hw
        · exact c1
        · rcases List.mem_cons.mp hw with rfl | hw
          · exact c2
          · rcases List.mem_cons.mp hw with rfl | hw
            · exact c3
            · rcases List.mem_cons.mp hw with rfl | hw
              · exact m6
              · cases hw
      · exact xW_in u w hw)) rfl rfl rfl ⟨rfl, m4.1, m4.2, xA_ok hu⟩ hroom) ⟨xPreX_blind, hrecv, fun U hU hW => hpt.calleeX hA htn hz hvs hU hW⟩ rfl (by rw [List.length_map]; exact hlen) hsize rfl (lv_room hcat) hd ⟨hRc, hRs⟩
  intro T hT X
  rcases hrun T hT X with ⟨v, st₀, t, T', L, h1, h2, h3, h4, h5, h6, h7⟩ | ⟨q, st₀, t, T', L, E', ce, h1, hX', hL, hTh, hTv, hxc, hce, hcv, hcl, hst⟩
  · exact h6.elim
  · obtain ⟨w1, hag, ⟨rfl, hB⟩, hFr⟩ := hxc
    have hal : s.vm.Alike t.vm := by rw [← hTv]; exact hX'.warmed.alike
    obtain ⟨k1, k2, k3⟩ := vx_keep h1 hTh hpt.2.2.1 (fun q _ h => hF q h) hF hL hFr
    have hpt' : lwPt D A s T'.heap (locs ++ L) w1 σ1 qo cL v := hpt.after hA hB hTh.symm hal k2 k3
    obtain ⟨t2, hs2, hq2⟩ := hk T'.heap (locs ++ L) w1 q ce hag hpt' (by rw [hTh]; exact hce) hcv hcl T' rfl hX'
    exact ⟨t2, hst.trans hs2, hq2⟩
end LWK
end
section
/-! the law's own small methods -/
def lwRL : String := "CountedHouseLaw"
def lwNC : List (String × String) := [(xEn 0, xEn 1), (xEn 0, xEn 2), (xEn 1, xEn 0), (xEn 1, xEn 2), (xEn 2, xEn 0), (xEn 2, xEn 1)]
def lwB (D : va_G) (A : Nat → Prop) (w : XW) (σ : XS) (qo : Nat) (cL : ClassId) (v : Nat → Int64) (t : State) : Prop := va_P D vwCl (lwW w σ qo cL v) t.heap ∧ va_D A (lwW w σ qo cL v) ∧ xKn D w.2 σ t ∧ (ArrOfT t cL .long ∧ va_RA t cL .long) ∧ xclo σ.1 σ.2.2
def lwPre (D : va_G) (w : XW) (σ : XS) (qo : Nat) (cL : ClassId) (v : Nat → Int64) (sz : Nat) (av : List Value) : Array Value → State → Prop := va_Pc av (fun U => U.heap.size = sz ∧ lwB D (fun _ => True) w σ qo cL v U ∧ (∀ w ∈ xNx, va_Nw w U) ∧ xZ (va_A (lwW w σ qo cL v) sz) U ∧ ∀ q ∈ lwNC, va_Nc q.1 q.2 U)
def lwPost (D : va_G) (w : XW) (n0 : Nat) (k : Int32) (σ1 : XS) (qo : Nat) (cL : ClassId) (v1 : Nat → Int64) (A : Nat → Prop) : Array Value → State → Outcome → State → Prop := va_Qi (fun (r : Int32) (w' : XW) => r = k ∧ xAg n0 w.1 w.2 w') (fun w' t => lwB D A w' σ1 qo cL v1 t) A
def lwRoom (d mc ms : Nat) : Room := { frames := d + 8, cells := mc, slots := ms, locals := (d + 2) * 40 + 100 }
def lwMet (l : Launch) (D : va_G) (d : Nat) (y : MethodName) (ws : List Cond) (av : XW → Nat → List Value) (σ : XS) (v : Nat → Int64) (k : Int32) (σ1 : XS) (v1 : Nat → Int64) (mc ms : Nat) : Prop := ∀ (w : XW) (qo : Nat) (cL : ClassId) (sz : Nat), Met l y ws (lwRoom d mc ms) (lwPre D w σ qo cL v sz (av w qo)) (lwPost D w σ.1 k σ1 qo cL v1 (va_A (lwW w σ qo cL v) sz)) mc ms (va_A (lwW w σ qo cL v) sz)
def lwF (p : Program) (s : State) (m : MethodId) (args : Array Value) (meth : Method) (c : Code) (bytes : ByteArray) (maxL : Nat) (hh : List (Nat × Nat × Nat × Nat)) (A : Nat → Prop) : Prop :=
  p.tables.exec = Jvm.exec ∧ c.code = bytes ∧ c.maxLocals = maxL ∧ s.vm.findClass lwRL = some m.cls ∧ (∀ w ∈ xT, w.before args s = true) ∧ (∀ w ∈ xNx, w.before args s = true) ∧ xZ A s ∧ (∀ q ∈ lwNC, va_Nc q.1 q.2 s) ∧ meth.sig.returnType = some .int ∧ meth.locks = false ∧ c.exceptionTable.toList = tableOf hh ∧ (∀ q, s.heap.size ≤ q → A q)
theorem lwB_pt {D : va_G} {A : Nat → Prop} {w : XW} {σ : XS} {qo : Nat} {cL : ClassId} {v : Nat → Int64} {s : State} (h : lwB D A w σ qo cL v s) : lwPt D A s s.heap [] w σ qo cL v := ⟨h.1, h.2.1, va_S.rf, h.2.2.1, h.2.2.2.1, h.2.2.2.2⟩
theorem lwPt_B {D : va_G} {A : Nat → Prop} {w : XW} {σ : XS} {qo : Nat} {cL : ClassId} {v : Nat → Int64} {s t : State} {H : Heap} {locs : List Loc} (h : lwPt D A s H locs w σ qo cL v) (ht : t.heap = H) (hvm : s.vm.Alike t.vm) : lwB D A w σ qo cL v t := ⟨by rw [ht]; exact h.1, h.2.1, xKn_moved hvm h.2.2.2.1, ⟨arrOfT_moved hvm h.2.2.2.2.1.1, h.2.2.2.2.1.2.moved hvm⟩, h.2.2.2.2.2⟩
theorem lwPre_blind {D : va_G} {w : XW} {σ : XS} {qo : Nat} {cL : ClassId} {v : Nat → Int64} {sz : Nat} {av : List Value} : FrameBlind (lwPre D w σ qo cL v sz av) := by
  intro a U g mk q
  obtain ⟨q0, q1, ⟨b1, b2, b3, b5, b4⟩, q3, ⟨z1, z2, z3, z4⟩, q5⟩ := q
  exact ⟨q0, q1, ⟨b1, b2, xKn_moved (u := U) (U := U.calling g mk a) (Vm.Alike.refl U.vm) b3, ⟨arrOfT_moved (u := U) (E := U.calling g mk a) (Vm.Alike.refl U.vm) b5.1, va_RA.moved (u := U) (U := U.calling g mk a) (Vm.Alike.refl U.vm) b5.2⟩, b4⟩, fun w hw => xN_same hw (u := U) (U := U.calling g mk a) (Vm.Alike.refl U.vm) rfl (q3 w hw), ⟨fun w hw => va_Nw.same (u := U) (U := U.calling g mk a) (xCs_tab hw) rfl (z1 w hw), fun q hq => (z2 q hq).imp fun sa h => vk_R.same (u := U) (U := U.calling g mk a) rfl h, vx_Zq.moved (u := U) (U := U.calling g mk a) (Vm.Alike.refl U.vm) z3, vx_Zq.moved (u := U) (U := U.calling g mk a) (Vm.Alike.refl U.vm) z4⟩, fun q hq => va_Nc.moved (u := U) (U := U.calling g mk a) (Vm.Alike.refl U.vm) (q5 q hq)⟩
set_option maxHeartbeats 1000000 in
theorem lw_enter {l : Launch} {D : va_G} {d : Nat} {y : MethodName} {bytes : ByteArray} {maxL : Nat} {hh : List (Nat × Nat × Nat × Nat)} {av : XW → Nat → List Value} {σ : XS} {v : Nat → Int64} {k : Int32} {σ1 : XS} {v1 : Nat → Int64} {mc ms : Nat} (hy : plainName y.cls = true) (hyc : y.cls = lwRL) (hav : ∀ w qo, (lg_sl (av w qo)).length ≤ maxL)
    (body : ∀ (p : Program) (e : Env) (s : State) (m : MethodId) (args : Array Value) (below : List Frame) (meth : Method) (c : Code) (w : XW) (qo : Nat) (cL : ClassId) (A : Nat → Prop) (ls : Array Slot), lwF p s m args meth c bytes maxL hh A → lwPt D A s s.heap [] w σ qo cL v → lv_has ls maxL (lv_args 0 (av w qo)) →
      W p l e (lwRoom d mc ms) s m args below meth c s.heap [] 0 0 (MQ below (lwPost D w σ.1 k σ1 qo cL v1 A) args s mc ms A) (F0 m 0 ls [])) :
    lwMet l D d y (.codeWith y bytes maxL (some .int) hh :: xT) av σ v k σ1 v1 mc ms := by
  intro w qo cL sz
  refine va_MetW (cc := bytes) (maxL := maxL) (ret := some .int) (hh := hh) hy rfl ?_
  intro p e s m args below meth c s₁ B hml hv
  obtain ⟨rfl, hsz, hB, hN, hz, hnc⟩ := hv
  subst hsz
  have hts0 := atoms_spec (ws := Cond.codeWith y bytes maxL (some .int) hh :: xT) B.pre
  have hown : s.vm.findClass y.cls = some m.cls := findClass_of_methodNamed B.named
  have hl := lv_entry (av w qo) (n := maxL) (hav w qo)
  rw [lg_entry_eq]
  generalize (lg_sl (av w qo) ++ List.replicate (maxL - (lg_sl (av w qo)).length) Slot.unset).toArray = ls at hl ⊢
  have hB' : lwB D (va_A (lwW w σ qo cL v) s.heap.size) w σ qo cL v s := ⟨hB.1, hB.2.1.self, hB.2.2⟩
  exact body p e s m _ below meth c w qo cL _ ls ⟨B.exec, B.bytes, hml, by rw [← hyc]; exact hown, fun w hw => hts0 w (List.mem_cons_of_mem _ hw), fun w hw => xN_use hw (hN w hw), hz, hnc, B.returns, B.notSynchronized, vx_table (x := y) B (hts0 _ List.mem_cons_self), fun q h => Or.inr h⟩ (lwB_pt hB') hl
section LWT
variable {p : Program} {l : Launch} {e : Env} {R : Room} {s : State} {m : MethodId} {args : Array Value} {below : List Frame} {meth : Method} {c : Code} {D : va_G} {A : Nat → Prop} {H : Heap} {locs : List Loc} {ls : Array Slot} {w w1 : XW} {σ1 : XS} {qo n0 : Nat} {cL : ClassId} {v v1 : Nat → Int64} {bytes : ByteArray} {maxL : Nat} {hh : List (Nat × Nat × Nat × Nat)}
theorem lw_ret1 {k : Int32} {pc mc ms : Nat} (F : lwF p s m args meth c bytes maxL hh A) (hpt : lwPt D A s H locs w1 σ1 qo cL v1) (hag : xAg n0 w.1 w.2 w1) (hd : decode bytes pc = .ok (.ireturn, 1)) : W p l e R s m args below meth c H locs mc ms (MQ below (lwPost D w n0 k σ1 qo cL v1 A) args s mc ms A) (F0 m pc ls [.int k]) := by
  obtain ⟨hx, hb, hml, hown, hts, htn, hz, hnc, hr, hlocks, htab, hA⟩ := F
  exact W.iret hx hb hr (fun t ht hW => ⟨⟨k, w1, rfl, ⟨rfl, hag⟩, lwPt_B hpt ht hW.alike⟩, hpt.2.2.1.F ht⟩) hpt.2.2.1.2.2 hd
/-- lastore; goto; iconst_0; ireturn -/
theorem lw_tailL {r : Int64} {pc pc2 mc ms : Nat} {off : Int} (F : lwF p s m args meth c bytes maxL hh A) (hpt : lwPt D A s H locs w1 σ1 qo cL v) (hag : xAg n0 w.1 w.2 w1) (d2 : decode bytes pc = .ok (.lastore, 1)) (d3 : decode bytes (pc + 1) = .ok (.goto off, 3)) (ht : ((pc + 1 : Nat) : Int) + off = (pc2 : Int)) (d4 : decode bytes pc2 = .ok (.iconst 0, 1)) (d5 : decode bytes (pc2 + 1) = .ok (.ireturn, 1)) :
    W p l e R s m args below meth c H locs mc ms (MQ below (lwPost D w n0 0 σ1 qo cL (vp_updL v 0 r) A) args s mc ms A) (F0 m pc ls [.long r, .int 0, .ref qo]) := by
  have F' := F
  obtain ⟨hx, hb, hml, hown, hts, htn, hz, hnc, hr, hlocks, htab, hA⟩ := F
  have hK : va_K D vwCl [(cL, .long)] s := ⟨hpt.2.2.2.1.1, fun k q hq => by
    match k, hq with
    | 0, hq => cases hq; exact hpt.2.2.2.2.1
    | k + 1, hq => simp at hq⟩
  refine va_last hx hb hK hpt.1 hpt.2.1 hpt.2.2.1 σ1.1 0 hpt.out rfl (by unfold vp_in; decide) d2 (fun H1 locs1 q1 q2 q3 => ?_)
  have e1 : (lwW w1 σ1 qo cL v).set σ1.1 (qo, .inl (cL, 1, .inr (.inl (vp_updL v (0 : Int32).toNatClampNeg r)))) = lwW w1 σ1 qo cL (vp_updL v 0 r) := by
    unfold lwW
    rw [List.set_append_right _ _ (by rw [xws_len]; exact Nat.le_refl _), xws_len, Nat.sub_self]
    rfl
  rw [e1] at q1 q2
  refine lv_goto hx hb d3 ht ?_
  refine lv_iconst (v := 0) hx hb d4 (by decide) ?_
  exact lw_ret1 F' ⟨q1, q2, q3, hpt.2.2.2⟩ hag d5
/-- caught: astore; iconst; ireturn -/
theorem lw_caught {pc e9 E : Nat} {k : Int32} {kz : Int} {ce : Cell} {q mc ms : Nat} {rest : List Value} {nm : String} (F : lwF p s m args meth c bytes maxL hh A) (hpt : lwPt D A s H locs w1 σ1 qo cL v) (hag : xAg n0 w.1 w.2 w1) (hcell : H[q]? = some ce) (hv : ce.vm = .none) (hcl : s.vm.findClass (xEn E) = some ce.cls) (hnm : nm = xEn E)
    (pre : List ExceptionTableEntry) (x : ExceptionTableEntry) (suf : List ExceptionTableEntry) (hsplit : tableOf hh = pre ++ x :: suf) (hpass : ∀ z ∈ pre, z.catchType ≠ 0 ∧ ∃ b : String, Cond.classLink lwRL z.catchType b ∈ xT ∧ (xEn E, b) ∈ lwNC) (hcov : covers x pc = true) (h0 : x.catchType ≠ 0) (hlink : Cond.classLink lwRL x.catchType nm ∈ xT) (hcast : Cond.castable (xEn E) (xEn E) ∈ xCs)
    (hls : lv_has ls maxL []) (he : e9 < maxL) (d1 : decode bytes x.handlerPc = .ok (.astore e9, 2)) (d2 : decode bytes (x.handlerPc + 2) = .ok (.iconst kz, 1)) (hk : Int32.ofInt kz = k) (d3 : decode bytes (x.handlerPc + 3) = .ok (.ireturn, 1)) :
    vx_W p l e R s m args below meth c H locs mc ms (MQ below (lwPost D w n0 k σ1 qo cL v A) args s mc ms A) (F0 m pc ls rest) q := by
  have F' := F
  obtain ⟨hx, hb, hml, hown, hts, htn, hz, hnc, hr, hlocks, htab, hA⟩ := F
  subst hnm
  refine vx_catch hown pre x suf (htab.trans hsplit) (fun z hz' => Or.inr ⟨(hpass z hz').1, ?_⟩) hcov h0 (hts _ hlink) (va_Nw.use (xCs_tab hcast) (hz.1 _ hcast)) hcell hv hcl ?_
  · obtain ⟨-, b, h1, h2⟩ := hpass z hz'
    exact ⟨b, hts _ h1, hnc _ h2⟩
  · refine lv_astore hx hb d1 hls he rfl (fun ls' h' => ?_)
    refine lv_iconst hx hb d2 hk ?_
    exact lw_ret1 F' hpt hag d3
theorem lw_caught1 {pc E : Nat} {e9 : Fin 4} {k : Int32} {kz : Int} {ce : Cell} {q mc ms : Nat} {rest : List Value} {nm : String} (F : lwF p s m args meth c bytes maxL hh A) (hpt : lwPt D A s H locs w1 σ1 qo cL v) (hag : xAg n0 w.1 w.2 w1) (hcell : H[q]? = some ce) (hv : ce.vm = .none) (hcl : s.vm.findClass (xEn E) = some ce.cls) (hnm : nm = xEn E)
    (pre : List ExceptionTableEntry) (x : ExceptionTableEntry) (suf : List ExceptionTableEntry) (hsplit : tableOf hh = pre ++ x :: suf) (hpass : ∀ z ∈ pre, z.catchType ≠ 0 ∧ ∃ b : String, Cond.classLink lwRL z.catchType b ∈ xT ∧ (xEn E, b) ∈ lwNC) (hcov : covers x pc = true) (h0 : x.catchType ≠ 0) (hlink : Cond.classLink lwRL x.catchType nm ∈ xT) (hcast : Cond.castable (xEn E) (xEn E) ∈ xCs)
    (hls : lv_has ls maxL []) (he : e9.val < maxL) (d1 : decode bytes x.handlerPc = .ok (.astore_n e9, 1)) (d2 : decode bytes (x.handlerPc + 1) = .ok (.iconst kz, 1)) (hk : Int32.ofInt kz = k) (d3 : decode bytes (x.handlerPc + 2) = .ok (.ireturn, 1)) :
    vx_W p l e R s m args below meth c H locs mc ms (MQ below (lwPost D w n0 k σ1 qo cL v A) args s mc ms A) (F0 m pc ls rest) q := by
  have F' := F
  obtain ⟨hx, hb, hml, hown, hts, htn, hz, hnc, hr, hlocks, htab, hA⟩ := F
  subst hnm
  refine vx_catch hown pre x suf (htab.trans hsplit) (fun z hz' => Or.inr ⟨(hpass z hz').1, ?_⟩) hcov h0 (hts _ hlink) (va_Nw.use (xCs_tab hcast) (hz.1 _ hcast)) hcell hv hcl ?_
  · obtain ⟨-, b, h1, h2⟩ := hpass z hz'
    exact ⟨b, hts _ h1, hnc _ h2⟩
  · refine lv_astore_n hx hb d1 rfl hls he rfl (fun ls' h' => ?_)
    refine lv_iconst hx hb d2 hk ?_
    exact lw_ret1 F' hpt hag d3
end LWT
end
section
/-! the law's instructions -/
theorem dL_request_0 : decode cL_request 0 = .ok (.aload 5, 2) := by decide +kernel
theorem dL_request_2 : decode cL_request 2 = .ok (.iconst 0, 1) := by decide +kernel
theorem dL_request_3 : decode cL_request 3 = .ok (.aload_n 0, 1) := by decide +kernel
theorem dL_request_4 : decode cL_request 4 = .ok (.iload_n 1, 1) := by decide +kernel
theorem dL_request_5 : decode cL_request 5 = .ok (.iload_n 2, 1) := by decide +kernel
theorem dL_request_6 : decode cL_request 6 = .ok (.iload_n 3, 1) := by decide +kernel
theorem dL_request_7 : decode cL_request 7 = .ok (.iload 4, 2) := by decide +kernel
theorem dL_request_9 : decode cL_request 9 = .ok (.invokevirtual 7, 3) := by decide +kernel
theorem dL_request_12 : decode cL_request 12 = .ok (.i2l, 1) := by decide +kernel
theorem dL_request_13 : decode cL_request 13 = .ok (.lastore, 1) := by decide +kernel
theorem dL_request_14 : decode cL_request 14 = .ok (.goto 11, 3) := by decide +kernel
theorem dL_request_17 : decode cL_request 17 = .ok (.astore 6, 2) := by decide +kernel
theorem dL_request_19 : decode cL_request 19 = .ok (.iconst 1, 1) := by decide +kernel
theorem dL_request_20 : decode cL_request 20 = .ok (.ireturn, 1) := by decide +kernel
theorem dL_request_21 : decode cL_request 21 = .ok (.astore 6, 2) := by decide +kernel
theorem dL_request_23 : decode cL_request 23 = .ok (.iconst 2, 1) := by decide +kernel
theorem dL_request_24 : decode cL_request 24 = .ok (.ireturn, 1) := by decide +kernel
theorem dL_request_25 : decode cL_request 25 = .ok (.iconst 0, 1) := by decide +kernel
theorem dL_request_26 : decode cL_request 26 = .ok (.ireturn, 1) := by decide +kernel
theorem dL_bring_0 : decode cL_bring 0 = .ok (.aload_n 3, 1) := by decide +kernel
theorem dL_bring_1 : decode cL_bring 1 = .ok (.iconst 0, 1) := by decide +kernel
theorem dL_bring_2 : decode cL_bring 2 = .ok (.aload_n 0, 1) := by decide +kernel
theorem dL_bring_3 : decode cL_bring 3 = .ok (.iload_n 1, 1) := by decide +kernel
theorem dL_bring_4 : decode cL_bring 4 = .ok (.iload_n 2, 1) := by decide +kernel
theorem dL_bring_5 : decode cL_bring 5 = .ok (.invokevirtual 17, 3) := by decide +kernel
theorem dL_bring_8 : decode cL_bring 8 = .ok (.i2l, 1) := by decide +kernel
theorem dL_bring_9 : decode cL_bring 9 = .ok (.lastore, 1) := by decide +kernel
theorem dL_bring_10 : decode cL_bring 10 = .ok (.goto 7, 3) := by decide +kernel
theorem dL_bring_13 : decode cL_bring 13 = .ok (.astore 4, 2) := by decide +kernel
theorem dL_bring_15 : decode cL_bring 15 = .ok (.iconst 1, 1) := by decide +kernel
theorem dL_bring_16 : decode cL_bring 16 = .ok (.ireturn, 1) := by decide +kernel
theorem dL_bring_17 : decode cL_bring 17 = .ok (.iconst 0, 1) := by decide +kernel
theorem dL_bring_18 : decode cL_bring 18 = .ok (.ireturn, 1) := by decide +kernel
theorem dL_send_0 : decode cL_send 0 = .ok (.aload 4, 2) := by decide +kernel
theorem dL_send_2 : decode cL_send 2 = .ok (.iconst 0, 1) := by decide +kernel
theorem dL_send_3 : decode cL_send 3 = .ok (.aload_n 0, 1) := by decide +kernel
theorem dL_send_4 : decode cL_send 4 = .ok (.iload_n 1, 1) := by decide +kernel
theorem dL_send_5 : decode cL_send 5 = .ok (.iload_n 2, 1) := by decide +kernel
theorem dL_send_6 : decode cL_send 6 = .ok (.iload_n 3, 1) := by decide +kernel
theorem dL_send_7 : decode cL_send 7 = .ok (.invokevirtual 23, 3) := by decide +kernel
theorem dL_send_10 : decode cL_send 10 = .ok (.i2l, 1) := by decide +kernel
theorem dL_send_11 : decode cL_send 11 = .ok (.lastore, 1) := by decide +kernel
theorem dL_send_12 : decode cL_send 12 = .ok (.goto 11, 3) := by decide +kernel
theorem dL_send_15 : decode cL_send 15 = .ok (.astore 5, 2) := by decide +kernel
theorem dL_send_17 : decode cL_send 17 = .ok (.iconst 1, 1) := by decide +kernel
theorem dL_send_18 : decode cL_send 18 = .ok (.ireturn, 1) := by decide +kernel
theorem dL_send_19 : decode cL_send 19 = .ok (.astore 5, 2) := by decide +kernel
theorem dL_send_21 : decode cL_send 21 = .ok (.iconst 2, 1) := by decide +kernel
theorem dL_send_22 : decode cL_send 22 = .ok (.ireturn, 1) := by decide +kernel
theorem dL_send_23 : decode cL_send 23 = .ok (.iconst 0, 1) := by decide +kernel
theorem dL_send_24 : decode cL_send 24 = .ok (.ireturn, 1) := by decide +kernel
theorem dL_late_0 : decode cL_late 0 = .ok (.aload_n 2, 1) := by decide +kernel
theorem dL_late_1 : decode cL_late 1 = .ok (.iconst 0, 1) := by decide +kernel
theorem dL_late_2 : decode cL_late 2 = .ok (.aload_n 0, 1) := by decide +kernel
theorem dL_late_3 : decode cL_late 3 = .ok (.iload_n 1, 1) := by decide +kernel
theorem dL_late_4 : decode cL_late 4 = .ok (.invokevirtual 27, 3) := by decide +kernel
theorem dL_late_7 : decode cL_late 7 = .ok (.i2l, 1) := by decide +kernel
theorem dL_late_8 : decode cL_late 8 = .ok (.lastore, 1) := by decide +kernel
theorem dL_late_9 : decode cL_late 9 = .ok (.goto 6, 3) := by decide +kernel
theorem dL_late_12 : decode cL_late 12 = .ok (.astore_n 3, 1) := by decide +kernel
theorem dL_late_13 : decode cL_late 13 = .ok (.iconst 1, 1) := by decide +kernel
theorem dL_late_14 : decode cL_late 14 = .ok (.ireturn, 1) := by decide +kernel
theorem dL_late_15 : decode cL_late 15 = .ok (.iconst 0, 1) := by decide +kernel
theorem dL_late_16 : decode cL_late 16 = .ok (.ireturn, 1) := by decide +kernel
theorem dL_ask_0 : decode cL_ask 0 = .ok (.aload_n 3, 1) := by decide +kernel
theorem dL_ask_1 : decode cL_ask 1 = .ok (.iconst 0, 1) := by decide +kernel
theorem dL_ask_2 : decode cL_ask 2 = .ok (.aload_n 0, 1) := by decide +kernel
theorem dL_ask_3 : decode cL_ask 3 = .ok (.iload_n 1, 1) := by decide +kernel
theorem dL_ask_4 : decode cL_ask 4 = .ok (.iload_n 2, 1) := by decide +kernel
theorem dL_ask_5 : decode cL_ask 5 = .ok (.invokevirtual 31, 3) := by decide +kernel
theorem dL_ask_8 : decode cL_ask 8 = .ok (.i2l, 1) := by decide +kernel
theorem dL_ask_9 : decode cL_ask 9 = .ok (.lastore, 1) := by decide +kernel
theorem dL_ask_10 : decode cL_ask 10 = .ok (.goto 11, 3) := by decide +kernel
theorem dL_ask_13 : decode cL_ask 13 = .ok (.astore 4, 2) := by decide +kernel
theorem dL_ask_15 : decode cL_ask 15 = .ok (.iconst 1, 1) := by decide +kernel
theorem dL_ask_16 : decode cL_ask 16 = .ok (.ireturn, 1) := by decide +kernel
theorem dL_ask_17 : decode cL_ask 17 = .ok (.astore 4, 2) := by decide +kernel
theorem dL_ask_19 : decode cL_ask 19 = .ok (.iconst 2, 1) := by decide +kernel
theorem dL_ask_20 : decode cL_ask 20 = .ok (.ireturn, 1) := by decide +kernel
theorem dL_ask_21 : decode cL_ask 21 = .ok (.iconst 0, 1) := by decide +kernel
theorem dL_ask_22 : decode cL_ask 22 = .ok (.ireturn, 1) := by decide +kernel
theorem dL_reply_0 : decode cL_reply 0 = .ok (.aload_n 3, 1) := by decide +kernel
theorem dL_reply_1 : decode cL_reply 1 = .ok (.iconst 0, 1) := by decide +kernel
theorem dL_reply_2 : decode cL_reply 2 = .ok (.aload_n 0, 1) := by decide +kernel
theorem dL_reply_3 : decode cL_reply 3 = .ok (.iload_n 1, 1) := by decide +kernel
theorem dL_reply_4 : decode cL_reply 4 = .ok (.iload_n 2, 1) := by decide +kernel
theorem dL_reply_5 : decode cL_reply 5 = .ok (.invokevirtual 34, 3) := by decide +kernel
theorem dL_reply_8 : decode cL_reply 8 = .ok (.i2l, 1) := by decide +kernel
theorem dL_reply_9 : decode cL_reply 9 = .ok (.lastore, 1) := by decide +kernel
theorem dL_reply_10 : decode cL_reply 10 = .ok (.goto 7, 3) := by decide +kernel
theorem dL_reply_13 : decode cL_reply 13 = .ok (.astore 4, 2) := by decide +kernel
theorem dL_reply_15 : decode cL_reply 15 = .ok (.iconst 1, 1) := by decide +kernel
theorem dL_reply_16 : decode cL_reply 16 = .ok (.ireturn, 1) := by decide +kernel
theorem dL_reply_17 : decode cL_reply 17 = .ok (.iconst 0, 1) := by decide +kernel
theorem dL_reply_18 : decode cL_reply 18 = .ok (.ireturn, 1) := by decide +kernel
theorem dL_lie_0 : decode cL_lie 0 = .ok (.aload_n 2, 1) := by decide +kernel
theorem dL_lie_1 : decode cL_lie 1 = .ok (.iconst 0, 1) := by decide +kernel
theorem dL_lie_2 : decode cL_lie 2 = .ok (.aload_n 0, 1) := by decide +kernel
theorem dL_lie_3 : decode cL_lie 3 = .ok (.iload_n 1, 1) := by decide +kernel
theorem dL_lie_4 : decode cL_lie 4 = .ok (.invokevirtual 37, 3) := by decide +kernel
theorem dL_lie_7 : decode cL_lie 7 = .ok (.ifCond .eq 7, 3) := by decide +kernel
theorem dL_lie_10 : decode cL_lie 10 = .ok (.lconst 1, 1) := by decide +kernel
theorem dL_lie_11 : decode cL_lie 11 = .ok (.goto 4, 3) := by decide +kernel
theorem dL_lie_14 : decode cL_lie 14 = .ok (.lconst 0, 1) := by decide +kernel
theorem dL_lie_15 : decode cL_lie 15 = .ok (.lastore, 1) := by decide +kernel
theorem dL_lie_16 : decode cL_lie 16 = .ok (.goto 6, 3) := by decide +kernel
theorem dL_lie_19 : decode cL_lie 19 = .ok (.astore_n 3, 1) := by decide +kernel
theorem dL_lie_20 : decode cL_lie 20 = .ok (.iconst 1, 1) := by decide +kernel
theorem dL_lie_21 : decode cL_lie 21 = .ok (.ireturn, 1) := by decide +kernel
theorem dL_lie_22 : decode cL_lie 22 = .ok (.iconst 0, 1) := by decide +kernel
theorem dL_lie_23 : decode cL_lie 23 = .ok (.ireturn, 1) := by decide +kernel
theorem dL_certify_0 : decode cL_certify 0 = .ok (.aload 6, 2) := by decide +kernel
theorem dL_certify_2 : decode cL_certify 2 = .ok (.iconst 0, 1) := by decide +kernel
theorem dL_certify_3 : decode cL_certify 3 = .ok (.aload_n 0, 1) := by decide +kernel
theorem dL_certify_4 : decode cL_certify 4 = .ok (.iload_n 1, 1) := by decide +kernel
theorem dL_certify_5 : decode cL_certify 5 = .ok (.iload_n 2, 1) := by decide +kernel
theorem dL_certify_6 : decode cL_certify 6 = .ok (.iload_n 3, 1) := by decide +kernel
theorem dL_certify_7 : decode cL_certify 7 = .ok (.iload 4, 2) := by decide +kernel
theorem dL_certify_9 : decode cL_certify 9 = .ok (.iload 5, 2) := by decide +kernel
theorem dL_certify_11 : decode cL_certify 11 = .ok (.invokevirtual 41, 3) := by decide +kernel
theorem dL_certify_14 : decode cL_certify 14 = .ok (.i2l, 1) := by decide +kernel
theorem dL_certify_15 : decode cL_certify 15 = .ok (.lastore, 1) := by decide +kernel
theorem dL_certify_16 : decode cL_certify 16 = .ok (.goto 15, 3) := by decide +kernel
theorem dL_certify_19 : decode cL_certify 19 = .ok (.astore 7, 2) := by decide +kernel
theorem dL_certify_21 : decode cL_certify 21 = .ok (.iconst 1, 1) := by decide +kernel
theorem dL_certify_22 : decode cL_certify 22 = .ok (.ireturn, 1) := by decide +kernel
theorem dL_certify_23 : decode cL_certify 23 = .ok (.astore 7, 2) := by decide +kernel
theorem dL_certify_25 : decode cL_certify 25 = .ok (.iconst 2, 1) := by decide +kernel
theorem dL_certify_26 : decode cL_certify 26 = .ok (.ireturn, 1) := by decide +kernel
theorem dL_certify_27 : decode cL_certify 27 = .ok (.astore 7, 2) := by decide +kernel
theorem dL_certify_29 : decode cL_certify 29 = .ok (.iconst 3, 1) := by decide +kernel
theorem dL_certify_30 : decode cL_certify 30 = .ok (.ireturn, 1) := by decide +kernel
theorem dL_certify_31 : decode cL_certify 31 = .ok (.iconst 0, 1) := by decide +kernel
theorem dL_certify_32 : decode cL_certify 32 = .ok (.ireturn, 1) := by decide +kernel
theorem dL_askFor_0 : decode cL_askFor 0 = .ok (.aload_n 0, 1) := by decide +kernel
theorem dL_askFor_1 : decode cL_askFor 1 = .ok (.iload_n 1, 1) := by decide +kernel
theorem dL_askFor_2 : decode cL_askFor 2 = .ok (.iload_n 2, 1) := by decide +kernel
theorem dL_askFor_3 : decode cL_askFor 3 = .ok (.invokevirtual 45, 3) := by decide +kernel
theorem dL_askFor_6 : decode cL_askFor 6 = .ok (.goto 12, 3) := by decide +kernel
theorem dL_askFor_9 : decode cL_askFor 9 = .ok (.astore_n 3, 1) := by decide +kernel
theorem dL_askFor_10 : decode cL_askFor 10 = .ok (.iconst 1, 1) := by decide +kernel
theorem dL_askFor_11 : decode cL_askFor 11 = .ok (.ireturn, 1) := by decide +kernel
theorem dL_askFor_12 : decode cL_askFor 12 = .ok (.astore_n 3, 1) := by decide +kernel
theorem dL_askFor_13 : decode cL_askFor 13 = .ok (.iconst 2, 1) := by decide +kernel
theorem dL_askFor_14 : decode cL_askFor 14 = .ok (.ireturn, 1) := by decide +kernel
theorem dL_askFor_15 : decode cL_askFor 15 = .ok (.astore_n 3, 1) := by decide +kernel
theorem dL_askFor_16 : decode cL_askFor 16 = .ok (.iconst 3, 1) := by decide +kernel
theorem dL_askFor_17 : decode cL_askFor 17 = .ok (.ireturn, 1) := by decide +kernel
theorem dL_askFor_18 : decode cL_askFor 18 = .ok (.iconst 0, 1) := by decide +kernel
theorem dL_askFor_19 : decode cL_askFor 19 = .ok (.ireturn, 1) := by decide +kernel
theorem dL_replyWith_0 : decode cL_replyWith 0 = .ok (.aload_n 0, 1) := by decide +kernel
theorem dL_replyWith_1 : decode cL_replyWith 1 = .ok (.iload_n 1, 1) := by decide +kernel
theorem dL_replyWith_2 : decode cL_replyWith 2 = .ok (.iload_n 2, 1) := by decide +kernel
theorem dL_replyWith_3 : decode cL_replyWith 3 = .ok (.iload_n 3, 1) := by decide +kernel
theorem dL_replyWith_4 : decode cL_replyWith 4 = .ok (.invokevirtual 49, 3) := by decide +kernel
theorem dL_replyWith_7 : decode cL_replyWith 7 = .ok (.goto 11, 3) := by decide +kernel
theorem dL_replyWith_10 : decode cL_replyWith 10 = .ok (.astore 4, 2) := by decide +kernel
theorem dL_replyWith_12 : decode cL_replyWith 12 = .ok (.iconst 1, 1) := by decide +kernel
theorem dL_replyWith_13 : decode cL_replyWith 13 = .ok (.ireturn, 1) := by decide +kernel
theorem dL_replyWith_14 : decode cL_replyWith 14 = .ok (.astore 4, 2) := by decide +kernel
theorem dL_replyWith_16 : decode cL_replyWith 16 = .ok (.iconst 2, 1) := by decide +kernel
theorem dL_replyWith_17 : decode cL_replyWith 17 = .ok (.ireturn, 1) := by decide +kernel
theorem dL_replyWith_18 : decode cL_replyWith 18 = .ok (.iconst 0, 1) := by decide +kernel
theorem dL_replyWith_19 : decode cL_replyWith 19 = .ok (.ireturn, 1) := by decide +kernel
theorem dL_state_0 : decode cL_state 0 = .ok (.aload_n 3, 1) := by decide +kernel
theorem dL_state_1 : decode cL_state 1 = .ok (.iconst 0, 1) := by decide +kernel
theorem dL_state_2 : decode cL_state 2 = .ok (.aload_n 0, 1) := by decide +kernel
theorem dL_state_3 : decode cL_state 3 = .ok (.iload_n 1, 1) := by decide +kernel
theorem dL_state_4 : decode cL_state 4 = .ok (.iload_n 2, 1) := by decide +kernel
theorem dL_state_5 : decode cL_state 5 = .ok (.invokevirtual 53, 3) := by decide +kernel
theorem dL_state_8 : decode cL_state 8 = .ok (.i2l, 1) := by decide +kernel
theorem dL_state_9 : decode cL_state 9 = .ok (.lastore, 1) := by decide +kernel
theorem dL_state_10 : decode cL_state 10 = .ok (.goto 11, 3) := by decide +kernel
theorem dL_state_13 : decode cL_state 13 = .ok (.astore 4, 2) := by decide +kernel
theorem dL_state_15 : decode cL_state 15 = .ok (.iconst 1, 1) := by decide +kernel
theorem dL_state_16 : decode cL_state 16 = .ok (.ireturn, 1) := by decide +kernel
theorem dL_state_17 : decode cL_state 17 = .ok (.astore 4, 2) := by decide +kernel
theorem dL_state_19 : decode cL_state 19 = .ok (.iconst 2, 1) := by decide +kernel
theorem dL_state_20 : decode cL_state 20 = .ok (.ireturn, 1) := by decide +kernel
theorem dL_state_21 : decode cL_state 21 = .ok (.iconst 0, 1) := by decide +kernel
theorem dL_state_22 : decode cL_state 22 = .ok (.ireturn, 1) := by decide +kernel
theorem dL_history_0 : decode cL_history 0 = .ok (.aload_n 3, 1) := by decide +kernel
theorem dL_history_1 : decode cL_history 1 = .ok (.iconst 0, 1) := by decide +kernel
theorem dL_history_2 : decode cL_history 2 = .ok (.aload_n 0, 1) := by decide +kernel
theorem dL_history_3 : decode cL_history 3 = .ok (.iload_n 1, 1) := by decide +kernel
theorem dL_history_4 : decode cL_history 4 = .ok (.iload_n 2, 1) := by decide +kernel
theorem dL_history_5 : decode cL_history 5 = .ok (.invokevirtual 56, 3) := by decide +kernel
theorem dL_history_8 : decode cL_history 8 = .ok (.i2l, 1) := by decide +kernel
theorem dL_history_9 : decode cL_history 9 = .ok (.lastore, 1) := by decide +kernel
theorem dL_history_10 : decode cL_history 10 = .ok (.goto 7, 3) := by decide +kernel
theorem dL_history_13 : decode cL_history 13 = .ok (.astore 4, 2) := by decide +kernel
theorem dL_history_15 : decode cL_history 15 = .ok (.iconst 1, 1) := by decide +kernel
theorem dL_history_16 : decode cL_history 16 = .ok (.ireturn, 1) := by decide +kernel
theorem dL_history_17 : decode cL_history 17 = .ok (.iconst 0, 1) := by decide +kernel
theorem dL_history_18 : decode cL_history 18 = .ok (.ireturn, 1) := by decide +kernel
theorem dL_message_0 : decode cL_message 0 = .ok (.aload 4, 2) := by decide +kernel
theorem dL_message_2 : decode cL_message 2 = .ok (.iconst 0, 1) := by decide +kernel
theorem dL_message_3 : decode cL_message 3 = .ok (.aload_n 0, 1) := by decide +kernel
theorem dL_message_4 : decode cL_message 4 = .ok (.iload_n 1, 1) := by decide +kernel
theorem dL_message_5 : decode cL_message 5 = .ok (.iload_n 2, 1) := by decide +kernel
theorem dL_message_6 : decode cL_message 6 = .ok (.iload_n 3, 1) := by decide +kernel
theorem dL_message_7 : decode cL_message 7 = .ok (.invokevirtual 59, 3) := by decide +kernel
theorem dL_message_10 : decode cL_message 10 = .ok (.i2l, 1) := by decide +kernel
theorem dL_message_11 : decode cL_message 11 = .ok (.lastore, 1) := by decide +kernel
theorem dL_message_12 : decode cL_message 12 = .ok (.goto 11, 3) := by decide +kernel
theorem dL_message_15 : decode cL_message 15 = .ok (.astore 5, 2) := by decide +kernel
theorem dL_message_17 : decode cL_message 17 = .ok (.iconst 1, 1) := by decide +kernel
theorem dL_message_18 : decode cL_message 18 = .ok (.ireturn, 1) := by decide +kernel
theorem dL_message_19 : decode cL_message 19 = .ok (.astore 5, 2) := by decide +kernel
theorem dL_message_21 : decode cL_message 21 = .ok (.iconst 2, 1) := by decide +kernel
theorem dL_message_22 : decode cL_message 22 = .ok (.ireturn, 1) := by decide +kernel
theorem dL_message_23 : decode cL_message 23 = .ok (.iconst 0, 1) := by decide +kernel
theorem dL_message_24 : decode cL_message 24 = .ok (.ireturn, 1) := by decide +kernel
theorem dL_row_0 : decode cL_row 0 = .ok (.aload_n 3, 1) := by decide +kernel
theorem dL_row_1 : decode cL_row 1 = .ok (.iconst 0, 1) := by decide +kernel
theorem dL_row_2 : decode cL_row 2 = .ok (.aload_n 0, 1) := by decide +kernel
theorem dL_row_3 : decode cL_row 3 = .ok (.iload_n 1, 1) := by decide +kernel
theorem dL_row_4 : decode cL_row 4 = .ok (.iload_n 2, 1) := by decide +kernel
theorem dL_row_5 : decode cL_row 5 = .ok (.invokevirtual 62, 3) := by decide +kernel
theorem dL_row_8 : decode cL_row 8 = .ok (.i2l, 1) := by decide +kernel
theorem dL_row_9 : decode cL_row 9 = .ok (.lastore, 1) := by decide +kernel
theorem dL_row_10 : decode cL_row 10 = .ok (.goto 7, 3) := by decide +kernel
theorem dL_row_13 : decode cL_row 13 = .ok (.astore 4, 2) := by decide +kernel
theorem dL_row_15 : decode cL_row 15 = .ok (.iconst 1, 1) := by decide +kernel
theorem dL_row_16 : decode cL_row 16 = .ok (.ireturn, 1) := by decide +kernel
theorem dL_row_17 : decode cL_row 17 = .ok (.iconst 0, 1) := by decide +kernel
theorem dL_row_18 : decode cL_row 18 = .ok (.ireturn, 1) := by decide +kernel
theorem dL_told_0 : decode cL_told 0 = .ok (.aload_n 3, 1) := by decide +kernel
theorem dL_told_1 : decode cL_told 1 = .ok (.iconst 0, 1) := by decide +kernel
theorem dL_told_2 : decode cL_told 2 = .ok (.aload_n 0, 1) := by decide +kernel
theorem dL_told_3 : decode cL_told 3 = .ok (.iload_n 1, 1) := by decide +kernel
theorem dL_told_4 : decode cL_told 4 = .ok (.iload_n 2, 1) := by decide +kernel
theorem dL_told_5 : decode cL_told 5 = .ok (.invokevirtual 65, 3) := by decide +kernel
theorem dL_told_8 : decode cL_told 8 = .ok (.i2l, 1) := by decide +kernel
theorem dL_told_9 : decode cL_told 9 = .ok (.lastore, 1) := by decide +kernel
theorem dL_told_10 : decode cL_told 10 = .ok (.goto 11, 3) := by decide +kernel
theorem dL_told_13 : decode cL_told 13 = .ok (.astore 4, 2) := by decide +kernel
theorem dL_told_15 : decode cL_told 15 = .ok (.iconst 1, 1) := by decide +kernel
theorem dL_told_16 : decode cL_told 16 = .ok (.ireturn, 1) := by decide +kernel
theorem dL_told_17 : decode cL_told 17 = .ok (.astore 4, 2) := by decide +kernel
theorem dL_told_19 : decode cL_told 19 = .ok (.iconst 2, 1) := by decide +kernel
theorem dL_told_20 : decode cL_told 20 = .ok (.ireturn, 1) := by decide +kernel
theorem dL_told_21 : decode cL_told 21 = .ok (.iconst 0, 1) := by decide +kernel
theorem dL_told_22 : decode cL_told 22 = .ok (.ireturn, 1) := by decide +kernel
theorem dL_result_0 : decode cL_result 0 = .ok (.aload_n 3, 1) := by decide +kernel
theorem dL_result_1 : decode cL_result 1 = .ok (.iconst 0, 1) := by decide +kernel
theorem dL_result_2 : decode cL_result 2 = .ok (.aload_n 0, 1) := by decide +kernel
theorem dL_result_3 : decode cL_result 3 = .ok (.iload_n 1, 1) := by decide +kernel
theorem dL_result_4 : decode cL_result 4 = .ok (.iload_n 2, 1) := by decide +kernel
theorem dL_result_5 : decode cL_result 5 = .ok (.invokevirtual 68, 3) := by decide +kernel
theorem dL_result_8 : decode cL_result 8 = .ok (.i2l, 1) := by decide +kernel
theorem dL_result_9 : decode cL_result 9 = .ok (.lastore, 1) := by decide +kernel
theorem dL_result_10 : decode cL_result 10 = .ok (.goto 7, 3) := by decide +kernel
theorem dL_result_13 : decode cL_result 13 = .ok (.astore 4, 2) := by decide +kernel
theorem dL_result_15 : decode cL_result 15 = .ok (.iconst 1, 1) := by decide +kernel
theorem dL_result_16 : decode cL_result 16 = .ok (.ireturn, 1) := by decide +kernel
theorem dL_result_17 : decode cL_result 17 = .ok (.iconst 0, 1) := by decide +kernel
theorem dL_result_18 : decode cL_result 18 = .ok (.ireturn, 1) := by decide +kernel
end
section
theorem dL_law_0 : decode cL_law 0 = .ok (.new 8, 3) := by decide +kernel
theorem dL_law_3 : decode cL_law 3 = .ok (.dup, 1) := by decide +kernel
theorem dL_law_4 : decode cL_law 4 = .ok (.invokespecial 71, 3) := by decide +kernel
theorem dL_law_7 : decode cL_law 7 = .ok (.astore_n 1, 1) := by decide +kernel
theorem dL_law_8 : decode cL_law 8 = .ok (.new 72, 3) := by decide +kernel
theorem dL_law_11 : decode cL_law 11 = .ok (.dup, 1) := by decide +kernel
theorem dL_law_12 : decode cL_law 12 = .ok (.invokespecial 74, 3) := by decide +kernel
theorem dL_law_15 : decode cL_law 15 = .ok (.astore_n 2, 1) := by decide +kernel
theorem dL_law_16 : decode cL_law 16 = .ok (.iconst 1, 1) := by decide +kernel
theorem dL_law_17 : decode cL_law 17 = .ok (.newarray .long, 2) := by decide +kernel
theorem dL_law_19 : decode cL_law 19 = .ok (.astore_n 3, 1) := by decide +kernel
theorem dL_law_20 : decode cL_law 20 = .ok (.iconst 0, 1) := by decide +kernel
theorem dL_law_21 : decode cL_law 21 = .ok (.istore 4, 2) := by decide +kernel
theorem dL_law_23 : decode cL_law 23 = .ok (.iload 4, 2) := by decide +kernel
theorem dL_law_25 : decode cL_law 25 = .ok (.aload_n 0, 1) := by decide +kernel
theorem dL_law_26 : decode cL_law 26 = .ok (.arraylength, 1) := by decide +kernel
theorem dL_law_27 : decode cL_law 27 = .ok (.bipush 6, 2) := by decide +kernel
theorem dL_law_29 : decode cL_law 29 = .ok (.isub, 1) := by decide +kernel
theorem dL_law_30 : decode cL_law 30 = .ok (.if_icmp .gt 1223, 3) := by decide +kernel
theorem dL_law_33 : decode cL_law 33 = .ok (.aload_n 0, 1) := by decide +kernel
theorem dL_law_34 : decode cL_law 34 = .ok (.iload 4, 2) := by decide +kernel
theorem dL_law_36 : decode cL_law 36 = .ok (.iaload, 1) := by decide +kernel
theorem dL_law_37 : decode cL_law 37 = .ok (.bipush 15, 2) := by decide +kernel
theorem dL_law_39 : decode cL_law 39 = .ok (.iand, 1) := by decide +kernel
theorem dL_law_40 : decode cL_law 40 = .ok (.tableswitch 1207 0 15 #[80, 172, 240, 320, 376, 444, 512, 575, 679, 727, 787, 855, 923, 1003, 1071, 1139], 80) := by decide +kernel
theorem dL_law_120 : decode cL_law 120 = .ok (.aload_n 1, 1) := by decide +kernel
theorem dL_law_121 : decode cL_law 121 = .ok (.aload_n 0, 1) := by decide +kernel
theorem dL_law_122 : decode cL_law 122 = .ok (.iload 4, 2) := by decide +kernel
theorem dL_law_124 : decode cL_law 124 = .ok (.iconst 1, 1) := by decide +kernel
theorem dL_law_125 : decode cL_law 125 = .ok (.iadd, 1) := by decide +kernel
theorem dL_law_126 : decode cL_law 126 = .ok (.iaload, 1) := by decide +kernel
theorem dL_law_127 : decode cL_law 127 = .ok (.aload_n 0, 1) := by decide +kernel
theorem dL_law_128 : decode cL_law 128 = .ok (.iload 4, 2) := by decide +kernel
theorem dL_law_130 : decode cL_law 130 = .ok (.iconst 2, 1) := by decide +kernel
theorem dL_law_131 : decode cL_law 131 = .ok (.iadd, 1) := by decide +kernel
theorem dL_law_132 : decode cL_law 132 = .ok (.iaload, 1) := by decide +kernel
theorem dL_law_133 : decode cL_law 133 = .ok (.aload_n 0, 1) := by decide +kernel
theorem dL_law_134 : decode cL_law 134 = .ok (.iload 4, 2) := by decide +kernel
theorem dL_law_136 : decode cL_law 136 = .ok (.iconst 3, 1) := by decide +kernel
theorem dL_law_137 : decode cL_law 137 = .ok (.iadd, 1) := by decide +kernel
theorem dL_law_138 : decode cL_law 138 = .ok (.iaload, 1) := by decide +kernel
theorem dL_law_139 : decode cL_law 139 = .ok (.aload_n 0, 1) := by decide +kernel
theorem dL_law_140 : decode cL_law 140 = .ok (.iload 4, 2) := by decide +kernel
theorem dL_law_142 : decode cL_law 142 = .ok (.iconst 4, 1) := by decide +kernel
theorem dL_law_143 : decode cL_law 143 = .ok (.iadd, 1) := by decide +kernel
theorem dL_law_144 : decode cL_law 144 = .ok (.iaload, 1) := by decide +kernel
theorem dL_law_145 : decode cL_law 145 = .ok (.aload_n 3, 1) := by decide +kernel
theorem dL_law_146 : decode cL_law 146 = .ok (.invokestatic 75, 3) := by decide +kernel
theorem dL_law_149 : decode cL_law 149 = .ok (.istore 5, 2) := by decide +kernel
theorem dL_law_151 : decode cL_law 151 = .ok (.aload_n 2, 1) := by decide +kernel
theorem dL_law_152 : decode cL_law 152 = .ok (.aload_n 0, 1) := by decide +kernel
theorem dL_law_153 : decode cL_law 153 = .ok (.iload 4, 2) := by decide +kernel
theorem dL_law_155 : decode cL_law 155 = .ok (.iconst 1, 1) := by decide +kernel
theorem dL_law_156 : decode cL_law 156 = .ok (.iadd, 1) := by decide +kernel
theorem dL_law_157 : decode cL_law 157 = .ok (.iaload, 1) := by decide +kernel
theorem dL_law_158 : decode cL_law 158 = .ok (.aload_n 0, 1) := by decide +kernel
theorem dL_law_159 : decode cL_law 159 = .ok (.iload 4, 2) := by decide +kernel
theorem dL_law_161 : decode cL_law 161 = .ok (.iconst 2, 1) := by decide +kernel
theorem dL_law_162 : decode cL_law 162 = .ok (.iadd, 1) := by decide +kernel
theorem dL_law_163 : decode cL_law 163 = .ok (.iaload, 1) := by decide +kernel
theorem dL_law_164 : decode cL_law 164 = .ok (.aload_n 0, 1) := by decide +kernel
theorem dL_law_165 : decode cL_law 165 = .ok (.iload 4, 2) := by decide +kernel
theorem dL_law_167 : decode cL_law 167 = .ok (.iconst 3, 1) := by decide +kernel
theorem dL_law_168 : decode cL_law 168 = .ok (.iadd, 1) := by decide +kernel
theorem dL_law_169 : decode cL_law 169 = .ok (.iaload, 1) := by decide +kernel
theorem dL_law_170 : decode cL_law 170 = .ok (.aload_n 0, 1) := by decide +kernel
theorem dL_law_171 : decode cL_law 171 = .ok (.iload 4, 2) := by decide +kernel
theorem dL_law_173 : decode cL_law 173 = .ok (.iconst 4, 1) := by decide +kernel
theorem dL_law_174 : decode cL_law 174 = .ok (.iadd, 1) := by decide +kernel
theorem dL_law_175 : decode cL_law 175 = .ok (.iaload, 1) := by decide +kernel
theorem dL_law_176 : decode cL_law 176 = .ok (.invokevirtual 80, 3) := by decide +kernel
theorem dL_law_179 : decode cL_law 179 = .ok (.istore 6, 2) := by decide +kernel
theorem dL_law_181 : decode cL_law 181 = .ok (.aload_n 2, 1) := by decide +kernel
theorem dL_law_182 : decode cL_law 182 = .ok (.invokevirtual 81, 3) := by decide +kernel
theorem dL_law_185 : decode cL_law 185 = .ok (.iload 5, 2) := by decide +kernel
theorem dL_law_187 : decode cL_law 187 = .ok (.if_icmp .eq 5, 3) := by decide +kernel
theorem dL_law_190 : decode cL_law 190 = .ok (.iconst 0, 1) := by decide +kernel
theorem dL_law_191 : decode cL_law 191 = .ok (.ireturn, 1) := by decide +kernel
theorem dL_law_192 : decode cL_law 192 = .ok (.iload 5, 2) := by decide +kernel
theorem dL_law_194 : decode cL_law 194 = .ok (.ifCond .ne 15, 3) := by decide +kernel
theorem dL_law_197 : decode cL_law 197 = .ok (.aload_n 3, 1) := by decide +kernel
theorem dL_law_198 : decode cL_law 198 = .ok (.iconst 0, 1) := by decide +kernel
theorem dL_law_199 : decode cL_law 199 = .ok (.laload, 1) := by decide +kernel
theorem dL_law_200 : decode cL_law 200 = .ok (.iload 6, 2) := by decide +kernel
theorem dL_law_202 : decode cL_law 202 = .ok (.i2l, 1) := by decide +kernel
theorem dL_law_203 : decode cL_law 203 = .ok (.lcmp, 1) := by decide +kernel
theorem dL_law_204 : decode cL_law 204 = .ok (.ifCond .eq 5, 3) := by decide +kernel
theorem dL_law_207 : decode cL_law 207 = .ok (.iconst 0, 1) := by decide +kernel
theorem dL_law_208 : decode cL_law 208 = .ok (.ireturn, 1) := by decide +kernel
theorem dL_law_209 : decode cL_law 209 = .ok (.goto 1038, 3) := by decide +kernel
theorem dL_law_212 : decode cL_law 212 = .ok (.aload_n 1, 1) := by decide +kernel
theorem dL_law_213 : decode cL_law 213 = .ok (.aload_n 0, 1) := by decide +kernel
theorem dL_law_214 : decode cL_law 214 = .ok (.iload 4, 2) := by decide +kernel
theorem dL_law_216 : decode cL_law 216 = .ok (.iconst 1, 1) := by decide +kernel
theorem dL_law_217 : decode cL_law 217 = .ok (.iadd, 1) := by decide +kernel
theorem dL_law_218 : decode cL_law 218 = .ok (.iaload, 1) := by decide +kernel
theorem dL_law_219 : decode cL_law 219 = .ok (.aload_n 0, 1) := by decide +kernel
theorem dL_law_220 : decode cL_law 220 = .ok (.iload 4, 2) := by decide +kernel
theorem dL_law_222 : decode cL_law 222 = .ok (.iconst 2, 1) := by decide +kernel
theorem dL_law_223 : decode cL_law 223 = .ok (.iadd, 1) := by decide +kernel
theorem dL_law_224 : decode cL_law 224 = .ok (.iaload, 1) := by decide +kernel
theorem dL_law_225 : decode cL_law 225 = .ok (.aload_n 3, 1) := by decide +kernel
theorem dL_law_226 : decode cL_law 226 = .ok (.invokestatic 85, 3) := by decide +kernel
theorem dL_law_229 : decode cL_law 229 = .ok (.istore 5, 2) := by decide +kernel
theorem dL_law_231 : decode cL_law 231 = .ok (.aload_n 2, 1) := by decide +kernel
theorem dL_law_232 : decode cL_law 232 = .ok (.aload_n 0, 1) := by decide +kernel
theorem dL_law_233 : decode cL_law 233 = .ok (.iload 4, 2) := by decide +kernel
theorem dL_law_235 : decode cL_law 235 = .ok (.iconst 1, 1) := by decide +kernel
theorem dL_law_236 : decode cL_law 236 = .ok (.iadd, 1) := by decide +kernel
theorem dL_law_237 : decode cL_law 237 = .ok (.iaload, 1) := by decide +kernel
theorem dL_law_238 : decode cL_law 238 = .ok (.aload_n 0, 1) := by decide +kernel
theorem dL_law_239 : decode cL_law 239 = .ok (.iload 4, 2) := by decide +kernel
theorem dL_law_241 : decode cL_law 241 = .ok (.iconst 2, 1) := by decide +kernel
theorem dL_law_242 : decode cL_law 242 = .ok (.iadd, 1) := by decide +kernel
theorem dL_law_243 : decode cL_law 243 = .ok (.iaload, 1) := by decide +kernel
theorem dL_law_244 : decode cL_law 244 = .ok (.invokevirtual 88, 3) := by decide +kernel
theorem dL_law_247 : decode cL_law 247 = .ok (.istore 6, 2) := by decide +kernel
theorem dL_law_249 : decode cL_law 249 = .ok (.aload_n 2, 1) := by decide +kernel
theorem dL_law_250 : decode cL_law 250 = .ok (.invokevirtual 81, 3) := by decide +kernel
theorem dL_law_253 : decode cL_law 253 = .ok (.iload 5, 2) := by decide +kernel
theorem dL_law_255 : decode cL_law 255 = .ok (.if_icmp .eq 5, 3) := by decide +kernel
theorem dL_law_258 : decode cL_law 258 = .ok (.iconst 0, 1) := by decide +kernel
theorem dL_law_259 : decode cL_law 259 = .ok (.ireturn, 1) := by decide +kernel
theorem dL_law_260 : decode cL_law 260 = .ok (.iload 5, 2) := by decide +kernel
theorem dL_law_262 : decode cL_law 262 = .ok (.ifCond .ne 15, 3) := by decide +kernel
theorem dL_law_265 : decode cL_law 265 = .ok (.aload_n 3, 1) := by decide +kernel
theorem dL_law_266 : decode cL_law 266 = .ok (.iconst 0, 1) := by decide +kernel
theorem dL_law_267 : decode cL_law 267 = .ok (.laload, 1) := by decide +kernel
theorem dL_law_268 : decode cL_law 268 = .ok (.iload 6, 2) := by decide +kernel
theorem dL_law_270 : decode cL_law 270 = .ok (.i2l, 1) := by decide +kernel
theorem dL_law_271 : decode cL_law 271 = .ok (.lcmp, 1) := by decide +kernel
theorem dL_law_272 : decode cL_law 272 = .ok (.ifCond .eq 5, 3) := by decide +kernel
theorem dL_law_275 : decode cL_law 275 = .ok (.iconst 0, 1) := by decide +kernel
theorem dL_law_276 : decode cL_law 276 = .ok (.ireturn, 1) := by decide +kernel
theorem dL_law_277 : decode cL_law 277 = .ok (.goto 970, 3) := by decide +kernel
theorem dL_law_280 : decode cL_law 280 = .ok (.aload_n 1, 1) := by decide +kernel
theorem dL_law_281 : decode cL_law 281 = .ok (.aload_n 0, 1) := by decide +kernel
theorem dL_law_282 : decode cL_law 282 = .ok (.iload 4, 2) := by decide +kernel
theorem dL_law_284 : decode cL_law 284 = .ok (.iconst 1, 1) := by decide +kernel
theorem dL_law_285 : decode cL_law 285 = .ok (.iadd, 1) := by decide +kernel
theorem dL_law_286 : decode cL_law 286 = .ok (.iaload, 1) := by decide +kernel
theorem dL_law_287 : decode cL_law 287 = .ok (.aload_n 0, 1) := by decide +kernel
theorem dL_law_288 : decode cL_law 288 = .ok (.iload 4, 2) := by decide +kernel
theorem dL_law_290 : decode cL_law 290 = .ok (.iconst 2, 1) := by decide +kernel
theorem dL_law_291 : decode cL_law 291 = .ok (.iadd, 1) := by decide +kernel
theorem dL_law_292 : decode cL_law 292 = .ok (.iaload, 1) := by decide +kernel
theorem dL_law_293 : decode cL_law 293 = .ok (.aload_n 0, 1) := by decide +kernel
theorem dL_law_294 : decode cL_law 294 = .ok (.iload 4, 2) := by decide +kernel
theorem dL_law_296 : decode cL_law 296 = .ok (.iconst 3, 1) := by decide +kernel
theorem dL_law_297 : decode cL_law 297 = .ok (.iadd, 1) := by decide +kernel
theorem dL_law_298 : decode cL_law 298 = .ok (.iaload, 1) := by decide +kernel
theorem dL_law_299 : decode cL_law 299 = .ok (.aload_n 3, 1) := by decide +kernel
theorem dL_law_300 : decode cL_law 300 = .ok (.invokestatic 89, 3) := by decide +kernel
theorem dL_law_303 : decode cL_law 303 = .ok (.istore 5, 2) := by decide +kernel
theorem dL_law_305 : decode cL_law 305 = .ok (.aload_n 2, 1) := by decide +kernel
theorem dL_law_306 : decode cL_law 306 = .ok (.aload_n 0, 1) := by decide +kernel
theorem dL_law_307 : decode cL_law 307 = .ok (.iload 4, 2) := by decide +kernel
theorem dL_law_309 : decode cL_law 309 = .ok (.iconst 1, 1) := by decide +kernel
theorem dL_law_310 : decode cL_law 310 = .ok (.iadd, 1) := by decide +kernel
theorem dL_law_311 : decode cL_law 311 = .ok (.iaload, 1) := by decide +kernel
theorem dL_law_312 : decode cL_law 312 = .ok (.aload_n 0, 1) := by decide +kernel
theorem dL_law_313 : decode cL_law 313 = .ok (.iload 4, 2) := by decide +kernel
theorem dL_law_315 : decode cL_law 315 = .ok (.iconst 2, 1) := by decide +kernel
theorem dL_law_316 : decode cL_law 316 = .ok (.iadd, 1) := by decide +kernel
theorem dL_law_317 : decode cL_law 317 = .ok (.iaload, 1) := by decide +kernel
theorem dL_law_318 : decode cL_law 318 = .ok (.aload_n 0, 1) := by decide +kernel
theorem dL_law_319 : decode cL_law 319 = .ok (.iload 4, 2) := by decide +kernel
theorem dL_law_321 : decode cL_law 321 = .ok (.iconst 3, 1) := by decide +kernel
theorem dL_law_322 : decode cL_law 322 = .ok (.iadd, 1) := by decide +kernel
theorem dL_law_323 : decode cL_law 323 = .ok (.iaload, 1) := by decide +kernel
theorem dL_law_324 : decode cL_law 324 = .ok (.invokevirtual 92, 3) := by decide +kernel
theorem dL_law_327 : decode cL_law 327 = .ok (.istore 6, 2) := by decide +kernel
theorem dL_law_329 : decode cL_law 329 = .ok (.aload_n 2, 1) := by decide +kernel
theorem dL_law_330 : decode cL_law 330 = .ok (.invokevirtual 81, 3) := by decide +kernel
theorem dL_law_333 : decode cL_law 333 = .ok (.iload 5, 2) := by decide +kernel
theorem dL_law_335 : decode cL_law 335 = .ok (.if_icmp .eq 5, 3) := by decide +kernel
theorem dL_law_338 : decode cL_law 338 = .ok (.iconst 0, 1) := by decide +kernel
theorem dL_law_339 : decode cL_law 339 = .ok (.ireturn, 1) := by decide +kernel
theorem dL_law_340 : decode cL_law 340 = .ok (.iload 5, 2) := by decide +kernel
theorem dL_law_342 : decode cL_law 342 = .ok (.ifCond .ne 15, 3) := by decide +kernel
theorem dL_law_345 : decode cL_law 345 = .ok (.aload_n 3, 1) := by decide +kernel
theorem dL_law_346 : decode cL_law 346 = .ok (.iconst 0, 1) := by decide +kernel
theorem dL_law_347 : decode cL_law 347 = .ok (.laload, 1) := by decide +kernel
theorem dL_law_348 : decode cL_law 348 = .ok (.iload 6, 2) := by decide +kernel
theorem dL_law_350 : decode cL_law 350 = .ok (.i2l, 1) := by decide +kernel
theorem dL_law_351 : decode cL_law 351 = .ok (.lcmp, 1) := by decide +kernel
theorem dL_law_352 : decode cL_law 352 = .ok (.ifCond .eq 5, 3) := by decide +kernel
theorem dL_law_355 : decode cL_law 355 = .ok (.iconst 0, 1) := by decide +kernel
theorem dL_law_356 : decode cL_law 356 = .ok (.ireturn, 1) := by decide +kernel
theorem dL_law_357 : decode cL_law 357 = .ok (.goto 890, 3) := by decide +kernel
theorem dL_law_360 : decode cL_law 360 = .ok (.aload_n 1, 1) := by decide +kernel
theorem dL_law_361 : decode cL_law 361 = .ok (.aload_n 0, 1) := by decide +kernel
theorem dL_law_362 : decode cL_law 362 = .ok (.iload 4, 2) := by decide +kernel
theorem dL_law_364 : decode cL_law 364 = .ok (.iconst 1, 1) := by decide +kernel
theorem dL_law_365 : decode cL_law 365 = .ok (.iadd, 1) := by decide +kernel
theorem dL_law_366 : decode cL_law 366 = .ok (.iaload, 1) := by decide +kernel
theorem dL_law_367 : decode cL_law 367 = .ok (.aload_n 3, 1) := by decide +kernel
theorem dL_law_368 : decode cL_law 368 = .ok (.invokestatic 93, 3) := by decide +kernel
theorem dL_law_371 : decode cL_law 371 = .ok (.istore 5, 2) := by decide +kernel
theorem dL_law_373 : decode cL_law 373 = .ok (.aload_n 2, 1) := by decide +kernel
end
section
theorem dL_law_374 : decode cL_law 374 = .ok (.aload_n 0, 1) := by decide +kernel
theorem dL_law_375 : decode cL_law 375 = .ok (.iload 4, 2) := by decide +kernel
theorem dL_law_377 : decode cL_law 377 = .ok (.iconst 1, 1) := by decide +kernel
theorem dL_law_378 : decode cL_law 378 = .ok (.iadd, 1) := by decide +kernel
theorem dL_law_379 : decode cL_law 379 = .ok (.iaload, 1) := by decide +kernel
theorem dL_law_380 : decode cL_law 380 = .ok (.invokevirtual 96, 3) := by decide +kernel
theorem dL_law_383 : decode cL_law 383 = .ok (.istore 6, 2) := by decide +kernel
theorem dL_law_385 : decode cL_law 385 = .ok (.aload_n 2, 1) := by decide +kernel
theorem dL_law_386 : decode cL_law 386 = .ok (.invokevirtual 81, 3) := by decide +kernel
theorem dL_law_389 : decode cL_law 389 = .ok (.iload 5, 2) := by decide +kernel
theorem dL_law_391 : decode cL_law 391 = .ok (.if_icmp .eq 5, 3) := by decide +kernel
theorem dL_law_394 : decode cL_law 394 = .ok (.iconst 0, 1) := by decide +kernel
theorem dL_law_395 : decode cL_law 395 = .ok (.ireturn, 1) := by decide +kernel
theorem dL_law_396 : decode cL_law 396 = .ok (.iload 5, 2) := by decide +kernel
theorem dL_law_398 : decode cL_law 398 = .ok (.ifCond .ne 15, 3) := by decide +kernel
theorem dL_law_401 : decode cL_law 401 = .ok (.aload_n 3, 1) := by decide +kernel
theorem dL_law_402 : decode cL_law 402 = .ok (.iconst 0, 1) := by decide +kernel
theorem dL_law_403 : decode cL_law 403 = .ok (.laload, 1) := by decide +kernel
theorem dL_law_404 : decode cL_law 404 = .ok (.iload 6, 2) := by decide +kernel
theorem dL_law_406 : decode cL_law 406 = .ok (.i2l, 1) := by decide +kernel
theorem dL_law_407 : decode cL_law 407 = .ok (.lcmp, 1) := by decide +kernel
theorem dL_law_408 : decode cL_law 408 = .ok (.ifCond .eq 5, 3) := by decide +kernel
theorem dL_law_411 : decode cL_law 411 = .ok (.iconst 0, 1) := by decide +kernel
theorem dL_law_412 : decode cL_law 412 = .ok (.ireturn, 1) := by decide +kernel
theorem dL_law_413 : decode cL_law 413 = .ok (.goto 834, 3) := by decide +kernel
theorem dL_law_416 : decode cL_law 416 = .ok (.aload_n 1, 1) := by decide +kernel
theorem dL_law_417 : decode cL_law 417 = .ok (.aload_n 0, 1) := by decide +kernel
theorem dL_law_418 : decode cL_law 418 = .ok (.iload 4, 2) := by decide +kernel
theorem dL_law_420 : decode cL_law 420 = .ok (.iconst 1, 1) := by decide +kernel
theorem dL_law_421 : decode cL_law 421 = .ok (.iadd, 1) := by decide +kernel
theorem dL_law_422 : decode cL_law 422 = .ok (.iaload, 1) := by decide +kernel
theorem dL_law_423 : decode cL_law 423 = .ok (.aload_n 0, 1) := by decide +kernel
theorem dL_law_424 : decode cL_law 424 = .ok (.iload 4, 2) := by decide +kernel
theorem dL_law_426 : decode cL_law 426 = .ok (.iconst 2, 1) := by decide +kernel
theorem dL_law_427 : decode cL_law 427 = .ok (.iadd, 1) := by decide +kernel
theorem dL_law_428 : decode cL_law 428 = .ok (.iaload, 1) := by decide +kernel
theorem dL_law_429 : decode cL_law 429 = .ok (.aload_n 3, 1) := by decide +kernel
theorem dL_law_430 : decode cL_law 430 = .ok (.invokestatic 97, 3) := by decide +kernel
theorem dL_law_433 : decode cL_law 433 = .ok (.istore 5, 2) := by decide +kernel
theorem dL_law_435 : decode cL_law 435 = .ok (.aload_n 2, 1) := by decide +kernel
theorem dL_law_436 : decode cL_law 436 = .ok (.aload_n 0, 1) := by decide +kernel
theorem dL_law_437 : decode cL_law 437 = .ok (.iload 4, 2) := by decide +kernel
theorem dL_law_439 : decode cL_law 439 = .ok (.iconst 1, 1) := by decide +kernel
theorem dL_law_440 : decode cL_law 440 = .ok (.iadd, 1) := by decide +kernel
theorem dL_law_441 : decode cL_law 441 = .ok (.iaload, 1) := by decide +kernel
theorem dL_law_442 : decode cL_law 442 = .ok (.aload_n 0, 1) := by decide +kernel
theorem dL_law_443 : decode cL_law 443 = .ok (.iload 4, 2) := by decide +kernel
theorem dL_law_445 : decode cL_law 445 = .ok (.iconst 2, 1) := by decide +kernel
theorem dL_law_446 : decode cL_law 446 = .ok (.iadd, 1) := by decide +kernel
theorem dL_law_447 : decode cL_law 447 = .ok (.iaload, 1) := by decide +kernel
theorem dL_law_448 : decode cL_law 448 = .ok (.invokevirtual 99, 3) := by decide +kernel
theorem dL_law_451 : decode cL_law 451 = .ok (.istore 6, 2) := by decide +kernel
theorem dL_law_453 : decode cL_law 453 = .ok (.aload_n 2, 1) := by decide +kernel
theorem dL_law_454 : decode cL_law 454 = .ok (.invokevirtual 81, 3) := by decide +kernel
theorem dL_law_457 : decode cL_law 457 = .ok (.iload 5, 2) := by decide +kernel
theorem dL_law_459 : decode cL_law 459 = .ok (.if_icmp .eq 5, 3) := by decide +kernel
theorem dL_law_462 : decode cL_law 462 = .ok (.iconst 0, 1) := by decide +kernel
theorem dL_law_463 : decode cL_law 463 = .ok (.ireturn, 1) := by decide +kernel
theorem dL_law_464 : decode cL_law 464 = .ok (.iload 5, 2) := by decide +kernel
theorem dL_law_466 : decode cL_law 466 = .ok (.ifCond .ne 15, 3) := by decide +kernel
theorem dL_law_469 : decode cL_law 469 = .ok (.aload_n 3, 1) := by decide +kernel
theorem dL_law_470 : decode cL_law 470 = .ok (.iconst 0, 1) := by decide +kernel
theorem dL_law_471 : decode cL_law 471 = .ok (.laload, 1) := by decide +kernel
theorem dL_law_472 : decode cL_law 472 = .ok (.iload 6, 2) := by decide +kernel
theorem dL_law_474 : decode cL_law 474 = .ok (.i2l, 1) := by decide +kernel
theorem dL_law_475 : decode cL_law 475 = .ok (.lcmp, 1) := by decide +kernel
theorem dL_law_476 : decode cL_law 476 = .ok (.ifCond .eq 5, 3) := by decide +kernel
theorem dL_law_479 : decode cL_law 479 = .ok (.iconst 0, 1) := by decide +kernel
theorem dL_law_480 : decode cL_law 480 = .ok (.ireturn, 1) := by decide +kernel
theorem dL_law_481 : decode cL_law 481 = .ok (.goto 766, 3) := by decide +kernel
theorem dL_law_484 : decode cL_law 484 = .ok (.aload_n 1, 1) := by decide +kernel
theorem dL_law_485 : decode cL_law 485 = .ok (.aload_n 0, 1) := by decide +kernel
theorem dL_law_486 : decode cL_law 486 = .ok (.iload 4, 2) := by decide +kernel
theorem dL_law_488 : decode cL_law 488 = .ok (.iconst 1, 1) := by decide +kernel
theorem dL_law_489 : decode cL_law 489 = .ok (.iadd, 1) := by decide +kernel
theorem dL_law_490 : decode cL_law 490 = .ok (.iaload, 1) := by decide +kernel
theorem dL_law_491 : decode cL_law 491 = .ok (.aload_n 0, 1) := by decide +kernel
theorem dL_law_492 : decode cL_law 492 = .ok (.iload 4, 2) := by decide +kernel
theorem dL_law_494 : decode cL_law 494 = .ok (.iconst 2, 1) := by decide +kernel
theorem dL_law_495 : decode cL_law 495 = .ok (.iadd, 1) := by decide +kernel
theorem dL_law_496 : decode cL_law 496 = .ok (.iaload, 1) := by decide +kernel
theorem dL_law_497 : decode cL_law 497 = .ok (.aload_n 3, 1) := by decide +kernel
theorem dL_law_498 : decode cL_law 498 = .ok (.invokestatic 100, 3) := by decide +kernel
theorem dL_law_501 : decode cL_law 501 = .ok (.istore 5, 2) := by decide +kernel
theorem dL_law_503 : decode cL_law 503 = .ok (.aload_n 2, 1) := by decide +kernel
theorem dL_law_504 : decode cL_law 504 = .ok (.aload_n 0, 1) := by decide +kernel
theorem dL_law_505 : decode cL_law 505 = .ok (.iload 4, 2) := by decide +kernel
theorem dL_law_507 : decode cL_law 507 = .ok (.iconst 1, 1) := by decide +kernel
theorem dL_law_508 : decode cL_law 508 = .ok (.iadd, 1) := by decide +kernel
theorem dL_law_509 : decode cL_law 509 = .ok (.iaload, 1) := by decide +kernel
theorem dL_law_510 : decode cL_law 510 = .ok (.aload_n 0, 1) := by decide +kernel
theorem dL_law_511 : decode cL_law 511 = .ok (.iload 4, 2) := by decide +kernel
theorem dL_law_513 : decode cL_law 513 = .ok (.iconst 2, 1) := by decide +kernel
theorem dL_law_514 : decode cL_law 514 = .ok (.iadd, 1) := by decide +kernel
theorem dL_law_515 : decode cL_law 515 = .ok (.iaload, 1) := by decide +kernel
theorem dL_law_516 : decode cL_law 516 = .ok (.invokevirtual 102, 3) := by decide +kernel
theorem dL_law_519 : decode cL_law 519 = .ok (.istore 6, 2) := by decide +kernel
theorem dL_law_521 : decode cL_law 521 = .ok (.aload_n 2, 1) := by decide +kernel
theorem dL_law_522 : decode cL_law 522 = .ok (.invokevirtual 81, 3) := by decide +kernel
theorem dL_law_525 : decode cL_law 525 = .ok (.iload 5, 2) := by decide +kernel
theorem dL_law_527 : decode cL_law 527 = .ok (.if_icmp .eq 5, 3) := by decide +kernel
theorem dL_law_530 : decode cL_law 530 = .ok (.iconst 0, 1) := by decide +kernel
theorem dL_law_531 : decode cL_law 531 = .ok (.ireturn, 1) := by decide +kernel
theorem dL_law_532 : decode cL_law 532 = .ok (.iload 5, 2) := by decide +kernel
theorem dL_law_534 : decode cL_law 534 = .ok (.ifCond .ne 15, 3) := by decide +kernel
theorem dL_law_537 : decode cL_law 537 = .ok (.aload_n 3, 1) := by decide +kernel
theorem dL_law_538 : decode cL_law 538 = .ok (.iconst 0, 1) := by decide +kernel
theorem dL_law_539 : decode cL_law 539 = .ok (.laload, 1) := by decide +kernel
theorem dL_law_540 : decode cL_law 540 = .ok (.iload 6, 2) := by decide +kernel
theorem dL_law_542 : decode cL_law 542 = .ok (.i2l, 1) := by decide +kernel
theorem dL_law_543 : decode cL_law 543 = .ok (.lcmp, 1) := by decide +kernel
theorem dL_law_544 : decode cL_law 544 = .ok (.ifCond .eq 5, 3) := by decide +kernel
theorem dL_law_547 : decode cL_law 547 = .ok (.iconst 0, 1) := by decide +kernel
theorem dL_law_548 : decode cL_law 548 = .ok (.ireturn, 1) := by decide +kernel
theorem dL_law_549 : decode cL_law 549 = .ok (.goto 698, 3) := by decide +kernel
theorem dL_law_552 : decode cL_law 552 = .ok (.aload_n 1, 1) := by decide +kernel
theorem dL_law_553 : decode cL_law 553 = .ok (.aload_n 0, 1) := by decide +kernel
theorem dL_law_554 : decode cL_law 554 = .ok (.iload 4, 2) := by decide +kernel
theorem dL_law_556 : decode cL_law 556 = .ok (.iconst 1, 1) := by decide +kernel
theorem dL_law_557 : decode cL_law 557 = .ok (.iadd, 1) := by decide +kernel
theorem dL_law_558 : decode cL_law 558 = .ok (.iaload, 1) := by decide +kernel
theorem dL_law_559 : decode cL_law 559 = .ok (.aload_n 3, 1) := by decide +kernel
theorem dL_law_560 : decode cL_law 560 = .ok (.invokestatic 103, 3) := by decide +kernel
theorem dL_law_563 : decode cL_law 563 = .ok (.istore 5, 2) := by decide +kernel
theorem dL_law_565 : decode cL_law 565 = .ok (.aload_n 2, 1) := by decide +kernel
theorem dL_law_566 : decode cL_law 566 = .ok (.aload_n 0, 1) := by decide +kernel
theorem dL_law_567 : decode cL_law 567 = .ok (.iload 4, 2) := by decide +kernel
theorem dL_law_569 : decode cL_law 569 = .ok (.iconst 1, 1) := by decide +kernel
theorem dL_law_570 : decode cL_law 570 = .ok (.iadd, 1) := by decide +kernel
theorem dL_law_571 : decode cL_law 571 = .ok (.iaload, 1) := by decide +kernel
theorem dL_law_572 : decode cL_law 572 = .ok (.invokevirtual 105, 3) := by decide +kernel
theorem dL_law_575 : decode cL_law 575 = .ok (.istore 6, 2) := by decide +kernel
theorem dL_law_577 : decode cL_law 577 = .ok (.aload_n 2, 1) := by decide +kernel
theorem dL_law_578 : decode cL_law 578 = .ok (.invokevirtual 81, 3) := by decide +kernel
theorem dL_law_581 : decode cL_law 581 = .ok (.iload 5, 2) := by decide +kernel
theorem dL_law_583 : decode cL_law 583 = .ok (.if_icmp .eq 5, 3) := by decide +kernel
theorem dL_law_586 : decode cL_law 586 = .ok (.iconst 0, 1) := by decide +kernel
theorem dL_law_587 : decode cL_law 587 = .ok (.ireturn, 1) := by decide +kernel
theorem dL_law_588 : decode cL_law 588 = .ok (.iload 5, 2) := by decide +kernel
theorem dL_law_590 : decode cL_law 590 = .ok (.ifCond .ne 22, 3) := by decide +kernel
theorem dL_law_593 : decode cL_law 593 = .ok (.aload_n 3, 1) := by decide +kernel
theorem dL_law_594 : decode cL_law 594 = .ok (.iconst 0, 1) := by decide +kernel
theorem dL_law_595 : decode cL_law 595 = .ok (.laload, 1) := by decide +kernel
theorem dL_law_596 : decode cL_law 596 = .ok (.iload 6, 2) := by decide +kernel
theorem dL_law_598 : decode cL_law 598 = .ok (.ifCond .eq 7, 3) := by decide +kernel
theorem dL_law_601 : decode cL_law 601 = .ok (.lconst 1, 1) := by decide +kernel
theorem dL_law_602 : decode cL_law 602 = .ok (.goto 4, 3) := by decide +kernel
theorem dL_law_605 : decode cL_law 605 = .ok (.lconst 0, 1) := by decide +kernel
theorem dL_law_606 : decode cL_law 606 = .ok (.lcmp, 1) := by decide +kernel
theorem dL_law_607 : decode cL_law 607 = .ok (.ifCond .eq 5, 3) := by decide +kernel
theorem dL_law_610 : decode cL_law 610 = .ok (.iconst 0, 1) := by decide +kernel
theorem dL_law_611 : decode cL_law 611 = .ok (.ireturn, 1) := by decide +kernel
theorem dL_law_612 : decode cL_law 612 = .ok (.goto 635, 3) := by decide +kernel
theorem dL_law_615 : decode cL_law 615 = .ok (.aload_n 1, 1) := by decide +kernel
theorem dL_law_616 : decode cL_law 616 = .ok (.aload_n 0, 1) := by decide +kernel
theorem dL_law_617 : decode cL_law 617 = .ok (.iload 4, 2) := by decide +kernel
theorem dL_law_619 : decode cL_law 619 = .ok (.iconst 1, 1) := by decide +kernel
theorem dL_law_620 : decode cL_law 620 = .ok (.iadd, 1) := by decide +kernel
theorem dL_law_621 : decode cL_law 621 = .ok (.iaload, 1) := by decide +kernel
theorem dL_law_622 : decode cL_law 622 = .ok (.aload_n 0, 1) := by decide +kernel
theorem dL_law_623 : decode cL_law 623 = .ok (.iload 4, 2) := by decide +kernel
theorem dL_law_625 : decode cL_law 625 = .ok (.iconst 2, 1) := by decide +kernel
theorem dL_law_626 : decode cL_law 626 = .ok (.iadd, 1) := by decide +kernel
theorem dL_law_627 : decode cL_law 627 = .ok (.iaload, 1) := by decide +kernel
theorem dL_law_628 : decode cL_law 628 = .ok (.aload_n 0, 1) := by decide +kernel
theorem dL_law_629 : decode cL_law 629 = .ok (.iload 4, 2) := by decide +kernel
theorem dL_law_631 : decode cL_law 631 = .ok (.iconst 3, 1) := by decide +kernel
theorem dL_law_632 : decode cL_law 632 = .ok (.iadd, 1) := by decide +kernel
theorem dL_law_633 : decode cL_law 633 = .ok (.iaload, 1) := by decide +kernel
theorem dL_law_634 : decode cL_law 634 = .ok (.aload_n 0, 1) := by decide +kernel
theorem dL_law_635 : decode cL_law 635 = .ok (.iload 4, 2) := by decide +kernel
theorem dL_law_637 : decode cL_law 637 = .ok (.iconst 4, 1) := by decide +kernel
theorem dL_law_638 : decode cL_law 638 = .ok (.iadd, 1) := by decide +kernel
theorem dL_law_639 : decode cL_law 639 = .ok (.iaload, 1) := by decide +kernel
theorem dL_law_640 : decode cL_law 640 = .ok (.aload_n 0, 1) := by decide +kernel
theorem dL_law_641 : decode cL_law 641 = .ok (.iload 4, 2) := by decide +kernel
theorem dL_law_643 : decode cL_law 643 = .ok (.iconst 5, 1) := by decide +kernel
theorem dL_law_644 : decode cL_law 644 = .ok (.iadd, 1) := by decide +kernel
theorem dL_law_645 : decode cL_law 645 = .ok (.iaload, 1) := by decide +kernel
theorem dL_law_646 : decode cL_law 646 = .ok (.aload_n 3, 1) := by decide +kernel
theorem dL_law_647 : decode cL_law 647 = .ok (.invokestatic 106, 3) := by decide +kernel
theorem dL_law_650 : decode cL_law 650 = .ok (.istore 5, 2) := by decide +kernel
theorem dL_law_652 : decode cL_law 652 = .ok (.aload_n 2, 1) := by decide +kernel
theorem dL_law_653 : decode cL_law 653 = .ok (.aload_n 0, 1) := by decide +kernel
theorem dL_law_654 : decode cL_law 654 = .ok (.iload 4, 2) := by decide +kernel
theorem dL_law_656 : decode cL_law 656 = .ok (.iconst 1, 1) := by decide +kernel
theorem dL_law_657 : decode cL_law 657 = .ok (.iadd, 1) := by decide +kernel
theorem dL_law_658 : decode cL_law 658 = .ok (.iaload, 1) := by decide +kernel
theorem dL_law_659 : decode cL_law 659 = .ok (.aload_n 0, 1) := by decide +kernel
theorem dL_law_660 : decode cL_law 660 = .ok (.iload 4, 2) := by decide +kernel
theorem dL_law_662 : decode cL_law 662 = .ok (.iconst 2, 1) := by decide +kernel
theorem dL_law_663 : decode cL_law 663 = .ok (.iadd, 1) := by decide +kernel
theorem dL_law_664 : decode cL_law 664 = .ok (.iaload, 1) := by decide +kernel
theorem dL_law_665 : decode cL_law 665 = .ok (.aload_n 0, 1) := by decide +kernel
theorem dL_law_666 : decode cL_law 666 = .ok (.iload 4, 2) := by decide +kernel
theorem dL_law_668 : decode cL_law 668 = .ok (.iconst 3, 1) := by decide +kernel
theorem dL_law_669 : decode cL_law 669 = .ok (.iadd, 1) := by decide +kernel
theorem dL_law_670 : decode cL_law 670 = .ok (.iaload, 1) := by decide +kernel
theorem dL_law_671 : decode cL_law 671 = .ok (.aload_n 0, 1) := by decide +kernel
theorem dL_law_672 : decode cL_law 672 = .ok (.iload 4, 2) := by decide +kernel
end
section
theorem dL_law_674 : decode cL_law 674 = .ok (.iconst 4, 1) := by decide +kernel
theorem dL_law_675 : decode cL_law 675 = .ok (.iadd, 1) := by decide +kernel
theorem dL_law_676 : decode cL_law 676 = .ok (.iaload, 1) := by decide +kernel
theorem dL_law_677 : decode cL_law 677 = .ok (.aload_n 0, 1) := by decide +kernel
theorem dL_law_678 : decode cL_law 678 = .ok (.iload 4, 2) := by decide +kernel
theorem dL_law_680 : decode cL_law 680 = .ok (.iconst 5, 1) := by decide +kernel
theorem dL_law_681 : decode cL_law 681 = .ok (.iadd, 1) := by decide +kernel
theorem dL_law_682 : decode cL_law 682 = .ok (.iaload, 1) := by decide +kernel
theorem dL_law_683 : decode cL_law 683 = .ok (.invokevirtual 109, 3) := by decide +kernel
theorem dL_law_686 : decode cL_law 686 = .ok (.istore 6, 2) := by decide +kernel
theorem dL_law_688 : decode cL_law 688 = .ok (.aload_n 2, 1) := by decide +kernel
theorem dL_law_689 : decode cL_law 689 = .ok (.invokevirtual 81, 3) := by decide +kernel
theorem dL_law_692 : decode cL_law 692 = .ok (.iload 5, 2) := by decide +kernel
theorem dL_law_694 : decode cL_law 694 = .ok (.if_icmp .eq 5, 3) := by decide +kernel
theorem dL_law_697 : decode cL_law 697 = .ok (.iconst 0, 1) := by decide +kernel
theorem dL_law_698 : decode cL_law 698 = .ok (.ireturn, 1) := by decide +kernel
theorem dL_law_699 : decode cL_law 699 = .ok (.iload 5, 2) := by decide +kernel
theorem dL_law_701 : decode cL_law 701 = .ok (.ifCond .ne 15, 3) := by decide +kernel
theorem dL_law_704 : decode cL_law 704 = .ok (.aload_n 3, 1) := by decide +kernel
theorem dL_law_705 : decode cL_law 705 = .ok (.iconst 0, 1) := by decide +kernel
theorem dL_law_706 : decode cL_law 706 = .ok (.laload, 1) := by decide +kernel
theorem dL_law_707 : decode cL_law 707 = .ok (.iload 6, 2) := by decide +kernel
theorem dL_law_709 : decode cL_law 709 = .ok (.i2l, 1) := by decide +kernel
theorem dL_law_710 : decode cL_law 710 = .ok (.lcmp, 1) := by decide +kernel
theorem dL_law_711 : decode cL_law 711 = .ok (.ifCond .eq 5, 3) := by decide +kernel
theorem dL_law_714 : decode cL_law 714 = .ok (.iconst 0, 1) := by decide +kernel
theorem dL_law_715 : decode cL_law 715 = .ok (.ireturn, 1) := by decide +kernel
theorem dL_law_716 : decode cL_law 716 = .ok (.goto 531, 3) := by decide +kernel
theorem dL_law_719 : decode cL_law 719 = .ok (.aload_n 1, 1) := by decide +kernel
theorem dL_law_720 : decode cL_law 720 = .ok (.aload_n 0, 1) := by decide +kernel
theorem dL_law_721 : decode cL_law 721 = .ok (.iload 4, 2) := by decide +kernel
theorem dL_law_723 : decode cL_law 723 = .ok (.iconst 1, 1) := by decide +kernel
theorem dL_law_724 : decode cL_law 724 = .ok (.iadd, 1) := by decide +kernel
theorem dL_law_725 : decode cL_law 725 = .ok (.iaload, 1) := by decide +kernel
theorem dL_law_726 : decode cL_law 726 = .ok (.aload_n 0, 1) := by decide +kernel
theorem dL_law_727 : decode cL_law 727 = .ok (.iload 4, 2) := by decide +kernel
theorem dL_law_729 : decode cL_law 729 = .ok (.iconst 2, 1) := by decide +kernel
theorem dL_law_730 : decode cL_law 730 = .ok (.iadd, 1) := by decide +kernel
theorem dL_law_731 : decode cL_law 731 = .ok (.iaload, 1) := by decide +kernel
theorem dL_law_732 : decode cL_law 732 = .ok (.invokestatic 110, 3) := by decide +kernel
theorem dL_law_735 : decode cL_law 735 = .ok (.istore 5, 2) := by decide +kernel
theorem dL_law_737 : decode cL_law 737 = .ok (.aload_n 2, 1) := by decide +kernel
theorem dL_law_738 : decode cL_law 738 = .ok (.aload_n 0, 1) := by decide +kernel
theorem dL_law_739 : decode cL_law 739 = .ok (.iload 4, 2) := by decide +kernel
theorem dL_law_741 : decode cL_law 741 = .ok (.iconst 1, 1) := by decide +kernel
theorem dL_law_742 : decode cL_law 742 = .ok (.iadd, 1) := by decide +kernel
theorem dL_law_743 : decode cL_law 743 = .ok (.iaload, 1) := by decide +kernel
theorem dL_law_744 : decode cL_law 744 = .ok (.aload_n 0, 1) := by decide +kernel
theorem dL_law_745 : decode cL_law 745 = .ok (.iload 4, 2) := by decide +kernel
theorem dL_law_747 : decode cL_law 747 = .ok (.iconst 2, 1) := by decide +kernel
theorem dL_law_748 : decode cL_law 748 = .ok (.iadd, 1) := by decide +kernel
theorem dL_law_749 : decode cL_law 749 = .ok (.iaload, 1) := by decide +kernel
theorem dL_law_750 : decode cL_law 750 = .ok (.invokevirtual 113, 3) := by decide +kernel
theorem dL_law_753 : decode cL_law 753 = .ok (.aload_n 2, 1) := by decide +kernel
theorem dL_law_754 : decode cL_law 754 = .ok (.invokevirtual 81, 3) := by decide +kernel
theorem dL_law_757 : decode cL_law 757 = .ok (.iload 5, 2) := by decide +kernel
theorem dL_law_759 : decode cL_law 759 = .ok (.if_icmp .eq 5, 3) := by decide +kernel
theorem dL_law_762 : decode cL_law 762 = .ok (.iconst 0, 1) := by decide +kernel
theorem dL_law_763 : decode cL_law 763 = .ok (.ireturn, 1) := by decide +kernel
theorem dL_law_764 : decode cL_law 764 = .ok (.goto 483, 3) := by decide +kernel
theorem dL_law_767 : decode cL_law 767 = .ok (.aload_n 1, 1) := by decide +kernel
theorem dL_law_768 : decode cL_law 768 = .ok (.aload_n 0, 1) := by decide +kernel
theorem dL_law_769 : decode cL_law 769 = .ok (.iload 4, 2) := by decide +kernel
theorem dL_law_771 : decode cL_law 771 = .ok (.iconst 1, 1) := by decide +kernel
theorem dL_law_772 : decode cL_law 772 = .ok (.iadd, 1) := by decide +kernel
theorem dL_law_773 : decode cL_law 773 = .ok (.iaload, 1) := by decide +kernel
theorem dL_law_774 : decode cL_law 774 = .ok (.aload_n 0, 1) := by decide +kernel
theorem dL_law_775 : decode cL_law 775 = .ok (.iload 4, 2) := by decide +kernel
theorem dL_law_777 : decode cL_law 777 = .ok (.iconst 2, 1) := by decide +kernel
theorem dL_law_778 : decode cL_law 778 = .ok (.iadd, 1) := by decide +kernel
theorem dL_law_779 : decode cL_law 779 = .ok (.iaload, 1) := by decide +kernel
theorem dL_law_780 : decode cL_law 780 = .ok (.aload_n 0, 1) := by decide +kernel
theorem dL_law_781 : decode cL_law 781 = .ok (.iload 4, 2) := by decide +kernel
theorem dL_law_783 : decode cL_law 783 = .ok (.iconst 3, 1) := by decide +kernel
theorem dL_law_784 : decode cL_law 784 = .ok (.iadd, 1) := by decide +kernel
theorem dL_law_785 : decode cL_law 785 = .ok (.iaload, 1) := by decide +kernel
theorem dL_law_786 : decode cL_law 786 = .ok (.invokestatic 114, 3) := by decide +kernel
theorem dL_law_789 : decode cL_law 789 = .ok (.istore 5, 2) := by decide +kernel
theorem dL_law_791 : decode cL_law 791 = .ok (.aload_n 2, 1) := by decide +kernel
theorem dL_law_792 : decode cL_law 792 = .ok (.aload_n 0, 1) := by decide +kernel
theorem dL_law_793 : decode cL_law 793 = .ok (.iload 4, 2) := by decide +kernel
theorem dL_law_795 : decode cL_law 795 = .ok (.iconst 1, 1) := by decide +kernel
theorem dL_law_796 : decode cL_law 796 = .ok (.iadd, 1) := by decide +kernel
theorem dL_law_797 : decode cL_law 797 = .ok (.iaload, 1) := by decide +kernel
theorem dL_law_798 : decode cL_law 798 = .ok (.aload_n 0, 1) := by decide +kernel
theorem dL_law_799 : decode cL_law 799 = .ok (.iload 4, 2) := by decide +kernel
theorem dL_law_801 : decode cL_law 801 = .ok (.iconst 2, 1) := by decide +kernel
theorem dL_law_802 : decode cL_law 802 = .ok (.iadd, 1) := by decide +kernel
theorem dL_law_803 : decode cL_law 803 = .ok (.iaload, 1) := by decide +kernel
theorem dL_law_804 : decode cL_law 804 = .ok (.aload_n 0, 1) := by decide +kernel
theorem dL_law_805 : decode cL_law 805 = .ok (.iload 4, 2) := by decide +kernel
theorem dL_law_807 : decode cL_law 807 = .ok (.iconst 3, 1) := by decide +kernel
theorem dL_law_808 : decode cL_law 808 = .ok (.iadd, 1) := by decide +kernel
theorem dL_law_809 : decode cL_law 809 = .ok (.iaload, 1) := by decide +kernel
theorem dL_law_810 : decode cL_law 810 = .ok (.invokevirtual 117, 3) := by decide +kernel
theorem dL_law_813 : decode cL_law 813 = .ok (.aload_n 2, 1) := by decide +kernel
theorem dL_law_814 : decode cL_law 814 = .ok (.invokevirtual 81, 3) := by decide +kernel
theorem dL_law_817 : decode cL_law 817 = .ok (.iload 5, 2) := by decide +kernel
theorem dL_law_819 : decode cL_law 819 = .ok (.if_icmp .eq 5, 3) := by decide +kernel
theorem dL_law_822 : decode cL_law 822 = .ok (.iconst 0, 1) := by decide +kernel
theorem dL_law_823 : decode cL_law 823 = .ok (.ireturn, 1) := by decide +kernel
theorem dL_law_824 : decode cL_law 824 = .ok (.goto 423, 3) := by decide +kernel
theorem dL_law_827 : decode cL_law 827 = .ok (.aload_n 1, 1) := by decide +kernel
theorem dL_law_828 : decode cL_law 828 = .ok (.aload_n 0, 1) := by decide +kernel
theorem dL_law_829 : decode cL_law 829 = .ok (.iload 4, 2) := by decide +kernel
theorem dL_law_831 : decode cL_law 831 = .ok (.iconst 1, 1) := by decide +kernel
theorem dL_law_832 : decode cL_law 832 = .ok (.iadd, 1) := by decide +kernel
theorem dL_law_833 : decode cL_law 833 = .ok (.iaload, 1) := by decide +kernel
theorem dL_law_834 : decode cL_law 834 = .ok (.aload_n 0, 1) := by decide +kernel
theorem dL_law_835 : decode cL_law 835 = .ok (.iload 4, 2) := by decide +kernel
theorem dL_law_837 : decode cL_law 837 = .ok (.iconst 2, 1) := by decide +kernel
theorem dL_law_838 : decode cL_law 838 = .ok (.iadd, 1) := by decide +kernel
theorem dL_law_839 : decode cL_law 839 = .ok (.iaload, 1) := by decide +kernel
theorem dL_law_840 : decode cL_law 840 = .ok (.aload_n 3, 1) := by decide +kernel
theorem dL_law_841 : decode cL_law 841 = .ok (.invokestatic 118, 3) := by decide +kernel
theorem dL_law_844 : decode cL_law 844 = .ok (.istore 5, 2) := by decide +kernel
theorem dL_law_846 : decode cL_law 846 = .ok (.aload_n 2, 1) := by decide +kernel
theorem dL_law_847 : decode cL_law 847 = .ok (.aload_n 0, 1) := by decide +kernel
theorem dL_law_848 : decode cL_law 848 = .ok (.iload 4, 2) := by decide +kernel
theorem dL_law_850 : decode cL_law 850 = .ok (.iconst 1, 1) := by decide +kernel
theorem dL_law_851 : decode cL_law 851 = .ok (.iadd, 1) := by decide +kernel
theorem dL_law_852 : decode cL_law 852 = .ok (.iaload, 1) := by decide +kernel
theorem dL_law_853 : decode cL_law 853 = .ok (.aload_n 0, 1) := by decide +kernel
theorem dL_law_854 : decode cL_law 854 = .ok (.iload 4, 2) := by decide +kernel
theorem dL_law_856 : decode cL_law 856 = .ok (.iconst 2, 1) := by decide +kernel
theorem dL_law_857 : decode cL_law 857 = .ok (.iadd, 1) := by decide +kernel
theorem dL_law_858 : decode cL_law 858 = .ok (.iaload, 1) := by decide +kernel
theorem dL_law_859 : decode cL_law 859 = .ok (.invokevirtual 120, 3) := by decide +kernel
theorem dL_law_862 : decode cL_law 862 = .ok (.istore 6, 2) := by decide +kernel
theorem dL_law_864 : decode cL_law 864 = .ok (.aload_n 2, 1) := by decide +kernel
theorem dL_law_865 : decode cL_law 865 = .ok (.invokevirtual 81, 3) := by decide +kernel
theorem dL_law_868 : decode cL_law 868 = .ok (.iload 5, 2) := by decide +kernel
theorem dL_law_870 : decode cL_law 870 = .ok (.if_icmp .eq 5, 3) := by decide +kernel
theorem dL_law_873 : decode cL_law 873 = .ok (.iconst 0, 1) := by decide +kernel
theorem dL_law_874 : decode cL_law 874 = .ok (.ireturn, 1) := by decide +kernel
theorem dL_law_875 : decode cL_law 875 = .ok (.iload 5, 2) := by decide +kernel
theorem dL_law_877 : decode cL_law 877 = .ok (.ifCond .ne 15, 3) := by decide +kernel
theorem dL_law_880 : decode cL_law 880 = .ok (.aload_n 3, 1) := by decide +kernel
theorem dL_law_881 : decode cL_law 881 = .ok (.iconst 0, 1) := by decide +kernel
theorem dL_law_882 : decode cL_law 882 = .ok (.laload, 1) := by decide +kernel
theorem dL_law_883 : decode cL_law 883 = .ok (.iload 6, 2) := by decide +kernel
theorem dL_law_885 : decode cL_law 885 = .ok (.i2l, 1) := by decide +kernel
theorem dL_law_886 : decode cL_law 886 = .ok (.lcmp, 1) := by decide +kernel
theorem dL_law_887 : decode cL_law 887 = .ok (.ifCond .eq 5, 3) := by decide +kernel
theorem dL_law_890 : decode cL_law 890 = .ok (.iconst 0, 1) := by decide +kernel
theorem dL_law_891 : decode cL_law 891 = .ok (.ireturn, 1) := by decide +kernel
theorem dL_law_892 : decode cL_law 892 = .ok (.goto 355, 3) := by decide +kernel
theorem dL_law_895 : decode cL_law 895 = .ok (.aload_n 1, 1) := by decide +kernel
theorem dL_law_896 : decode cL_law 896 = .ok (.aload_n 0, 1) := by decide +kernel
theorem dL_law_897 : decode cL_law 897 = .ok (.iload 4, 2) := by decide +kernel
theorem dL_law_899 : decode cL_law 899 = .ok (.iconst 1, 1) := by decide +kernel
theorem dL_law_900 : decode cL_law 900 = .ok (.iadd, 1) := by decide +kernel
theorem dL_law_901 : decode cL_law 901 = .ok (.iaload, 1) := by decide +kernel
theorem dL_law_902 : decode cL_law 902 = .ok (.aload_n 0, 1) := by decide +kernel
theorem dL_law_903 : decode cL_law 903 = .ok (.iload 4, 2) := by decide +kernel
theorem dL_law_905 : decode cL_law 905 = .ok (.iconst 2, 1) := by decide +kernel
theorem dL_law_906 : decode cL_law 906 = .ok (.iadd, 1) := by decide +kernel
theorem dL_law_907 : decode cL_law 907 = .ok (.iaload, 1) := by decide +kernel
theorem dL_law_908 : decode cL_law 908 = .ok (.aload_n 3, 1) := by decide +kernel
theorem dL_law_909 : decode cL_law 909 = .ok (.invokestatic 121, 3) := by decide +kernel
theorem dL_law_912 : decode cL_law 912 = .ok (.istore 5, 2) := by decide +kernel
theorem dL_law_914 : decode cL_law 914 = .ok (.aload_n 2, 1) := by decide +kernel
theorem dL_law_915 : decode cL_law 915 = .ok (.aload_n 0, 1) := by decide +kernel
theorem dL_law_916 : decode cL_law 916 = .ok (.iload 4, 2) := by decide +kernel
theorem dL_law_918 : decode cL_law 918 = .ok (.iconst 1, 1) := by decide +kernel
theorem dL_law_919 : decode cL_law 919 = .ok (.iadd, 1) := by decide +kernel
theorem dL_law_920 : decode cL_law 920 = .ok (.iaload, 1) := by decide +kernel
theorem dL_law_921 : decode cL_law 921 = .ok (.aload_n 0, 1) := by decide +kernel
theorem dL_law_922 : decode cL_law 922 = .ok (.iload 4, 2) := by decide +kernel
theorem dL_law_924 : decode cL_law 924 = .ok (.iconst 2, 1) := by decide +kernel
theorem dL_law_925 : decode cL_law 925 = .ok (.iadd, 1) := by decide +kernel
theorem dL_law_926 : decode cL_law 926 = .ok (.iaload, 1) := by decide +kernel
theorem dL_law_927 : decode cL_law 927 = .ok (.invokevirtual 123, 3) := by decide +kernel
theorem dL_law_930 : decode cL_law 930 = .ok (.istore 6, 2) := by decide +kernel
theorem dL_law_932 : decode cL_law 932 = .ok (.aload_n 2, 1) := by decide +kernel
theorem dL_law_933 : decode cL_law 933 = .ok (.invokevirtual 81, 3) := by decide +kernel
theorem dL_law_936 : decode cL_law 936 = .ok (.iload 5, 2) := by decide +kernel
theorem dL_law_938 : decode cL_law 938 = .ok (.if_icmp .eq 5, 3) := by decide +kernel
theorem dL_law_941 : decode cL_law 941 = .ok (.iconst 0, 1) := by decide +kernel
theorem dL_law_942 : decode cL_law 942 = .ok (.ireturn, 1) := by decide +kernel
theorem dL_law_943 : decode cL_law 943 = .ok (.iload 5, 2) := by decide +kernel
theorem dL_law_945 : decode cL_law 945 = .ok (.ifCond .ne 15, 3) := by decide +kernel
theorem dL_law_948 : decode cL_law 948 = .ok (.aload_n 3, 1) := by decide +kernel
theorem dL_law_949 : decode cL_law 949 = .ok (.iconst 0, 1) := by decide +kernel
theorem dL_law_950 : decode cL_law 950 = .ok (.laload, 1) := by decide +kernel
theorem dL_law_951 : decode cL_law 951 = .ok (.iload 6, 2) := by decide +kernel
theorem dL_law_953 : decode cL_law 953 = .ok (.i2l, 1) := by decide +kernel
theorem dL_law_954 : decode cL_law 954 = .ok (.lcmp, 1) := by decide +kernel
theorem dL_law_955 : decode cL_law 955 = .ok (.ifCond .eq 5, 3) := by decide +kernel
theorem dL_law_958 : decode cL_law 958 = .ok (.iconst 0, 1) := by decide +kernel
theorem dL_law_959 : decode cL_law 959 = .ok (.ireturn, 1) := by decide +kernel
theorem dL_law_960 : decode cL_law 960 = .ok (.goto 287, 3) := by decide +kernel
theorem dL_law_963 : decode cL_law 963 = .ok (.aload_n 1, 1) := by decide +kernel
theorem dL_law_964 : decode cL_law 964 = .ok (.aload_n 0, 1) := by decide +kernel
theorem dL_law_965 : decode cL_law 965 = .ok (.iload 4, 2) := by decide +kernel
theorem dL_law_967 : decode cL_law 967 = .ok (.iconst 1, 1) := by decide +kernel
theorem dL_law_968 : decode cL_law 968 = .ok (.iadd, 1) := by decide +kernel
theorem dL_law_969 : decode cL_law 969 = .ok (.iaload, 1) := by decide +kernel
theorem dL_law_970 : decode cL_law 970 = .ok (.aload_n 0, 1) := by decide +kernel
theorem dL_law_971 : decode cL_law 971 = .ok (.iload 4, 2) := by decide +kernel
end
section
theorem dL_law_973 : decode cL_law 973 = .ok (.iconst 2, 1) := by decide +kernel
theorem dL_law_974 : decode cL_law 974 = .ok (.iadd, 1) := by decide +kernel
theorem dL_law_975 : decode cL_law 975 = .ok (.iaload, 1) := by decide +kernel
theorem dL_law_976 : decode cL_law 976 = .ok (.aload_n 0, 1) := by decide +kernel
theorem dL_law_977 : decode cL_law 977 = .ok (.iload 4, 2) := by decide +kernel
theorem dL_law_979 : decode cL_law 979 = .ok (.iconst 3, 1) := by decide +kernel
theorem dL_law_980 : decode cL_law 980 = .ok (.iadd, 1) := by decide +kernel
theorem dL_law_981 : decode cL_law 981 = .ok (.iaload, 1) := by decide +kernel
theorem dL_law_982 : decode cL_law 982 = .ok (.aload_n 3, 1) := by decide +kernel
theorem dL_law_983 : decode cL_law 983 = .ok (.invokestatic 124, 3) := by decide +kernel
theorem dL_law_986 : decode cL_law 986 = .ok (.istore 5, 2) := by decide +kernel
theorem dL_law_988 : decode cL_law 988 = .ok (.aload_n 2, 1) := by decide +kernel
theorem dL_law_989 : decode cL_law 989 = .ok (.aload_n 0, 1) := by decide +kernel
theorem dL_law_990 : decode cL_law 990 = .ok (.iload 4, 2) := by decide +kernel
theorem dL_law_992 : decode cL_law 992 = .ok (.iconst 1, 1) := by decide +kernel
theorem dL_law_993 : decode cL_law 993 = .ok (.iadd, 1) := by decide +kernel
theorem dL_law_994 : decode cL_law 994 = .ok (.iaload, 1) := by decide +kernel
theorem dL_law_995 : decode cL_law 995 = .ok (.aload_n 0, 1) := by decide +kernel
theorem dL_law_996 : decode cL_law 996 = .ok (.iload 4, 2) := by decide +kernel
theorem dL_law_998 : decode cL_law 998 = .ok (.iconst 2, 1) := by decide +kernel
theorem dL_law_999 : decode cL_law 999 = .ok (.iadd, 1) := by decide +kernel
theorem dL_law_1000 : decode cL_law 1000 = .ok (.iaload, 1) := by decide +kernel
theorem dL_law_1001 : decode cL_law 1001 = .ok (.aload_n 0, 1) := by decide +kernel
theorem dL_law_1002 : decode cL_law 1002 = .ok (.iload 4, 2) := by decide +kernel
theorem dL_law_1004 : decode cL_law 1004 = .ok (.iconst 3, 1) := by decide +kernel
theorem dL_law_1005 : decode cL_law 1005 = .ok (.iadd, 1) := by decide +kernel
theorem dL_law_1006 : decode cL_law 1006 = .ok (.iaload, 1) := by decide +kernel
theorem dL_law_1007 : decode cL_law 1007 = .ok (.invokevirtual 126, 3) := by decide +kernel
theorem dL_law_1010 : decode cL_law 1010 = .ok (.istore 6, 2) := by decide +kernel
theorem dL_law_1012 : decode cL_law 1012 = .ok (.aload_n 2, 1) := by decide +kernel
theorem dL_law_1013 : decode cL_law 1013 = .ok (.invokevirtual 81, 3) := by decide +kernel
theorem dL_law_1016 : decode cL_law 1016 = .ok (.iload 5, 2) := by decide +kernel
theorem dL_law_1018 : decode cL_law 1018 = .ok (.if_icmp .eq 5, 3) := by decide +kernel
theorem dL_law_1021 : decode cL_law 1021 = .ok (.iconst 0, 1) := by decide +kernel
theorem dL_law_1022 : decode cL_law 1022 = .ok (.ireturn, 1) := by decide +kernel
theorem dL_law_1023 : decode cL_law 1023 = .ok (.iload 5, 2) := by decide +kernel
theorem dL_law_1025 : decode cL_law 1025 = .ok (.ifCond .ne 15, 3) := by decide +kernel
theorem dL_law_1028 : decode cL_law 1028 = .ok (.aload_n 3, 1) := by decide +kernel
theorem dL_law_1029 : decode cL_law 1029 = .ok (.iconst 0, 1) := by decide +kernel
theorem dL_law_1030 : decode cL_law 1030 = .ok (.laload, 1) := by decide +kernel
theorem dL_law_1031 : decode cL_law 1031 = .ok (.iload 6, 2) := by decide +kernel
theorem dL_law_1033 : decode cL_law 1033 = .ok (.i2l, 1) := by decide +kernel
theorem dL_law_1034 : decode cL_law 1034 = .ok (.lcmp, 1) := by decide +kernel
theorem dL_law_1035 : decode cL_law 1035 = .ok (.ifCond .eq 5, 3) := by decide +kernel
theorem dL_law_1038 : decode cL_law 1038 = .ok (.iconst 0, 1) := by decide +kernel
theorem dL_law_1039 : decode cL_law 1039 = .ok (.ireturn, 1) := by decide +kernel
theorem dL_law_1040 : decode cL_law 1040 = .ok (.goto 207, 3) := by decide +kernel
theorem dL_law_1043 : decode cL_law 1043 = .ok (.aload_n 1, 1) := by decide +kernel
theorem dL_law_1044 : decode cL_law 1044 = .ok (.aload_n 0, 1) := by decide +kernel
theorem dL_law_1045 : decode cL_law 1045 = .ok (.iload 4, 2) := by decide +kernel
theorem dL_law_1047 : decode cL_law 1047 = .ok (.iconst 1, 1) := by decide +kernel
theorem dL_law_1048 : decode cL_law 1048 = .ok (.iadd, 1) := by decide +kernel
theorem dL_law_1049 : decode cL_law 1049 = .ok (.iaload, 1) := by decide +kernel
theorem dL_law_1050 : decode cL_law 1050 = .ok (.aload_n 0, 1) := by decide +kernel
theorem dL_law_1051 : decode cL_law 1051 = .ok (.iload 4, 2) := by decide +kernel
theorem dL_law_1053 : decode cL_law 1053 = .ok (.iconst 2, 1) := by decide +kernel
theorem dL_law_1054 : decode cL_law 1054 = .ok (.iadd, 1) := by decide +kernel
theorem dL_law_1055 : decode cL_law 1055 = .ok (.iaload, 1) := by decide +kernel
theorem dL_law_1056 : decode cL_law 1056 = .ok (.aload_n 3, 1) := by decide +kernel
theorem dL_law_1057 : decode cL_law 1057 = .ok (.invokestatic 127, 3) := by decide +kernel
theorem dL_law_1060 : decode cL_law 1060 = .ok (.istore 5, 2) := by decide +kernel
theorem dL_law_1062 : decode cL_law 1062 = .ok (.aload_n 2, 1) := by decide +kernel
theorem dL_law_1063 : decode cL_law 1063 = .ok (.aload_n 0, 1) := by decide +kernel
theorem dL_law_1064 : decode cL_law 1064 = .ok (.iload 4, 2) := by decide +kernel
theorem dL_law_1066 : decode cL_law 1066 = .ok (.iconst 1, 1) := by decide +kernel
theorem dL_law_1067 : decode cL_law 1067 = .ok (.iadd, 1) := by decide +kernel
theorem dL_law_1068 : decode cL_law 1068 = .ok (.iaload, 1) := by decide +kernel
theorem dL_law_1069 : decode cL_law 1069 = .ok (.aload_n 0, 1) := by decide +kernel
theorem dL_law_1070 : decode cL_law 1070 = .ok (.iload 4, 2) := by decide +kernel
theorem dL_law_1072 : decode cL_law 1072 = .ok (.iconst 2, 1) := by decide +kernel
theorem dL_law_1073 : decode cL_law 1073 = .ok (.iadd, 1) := by decide +kernel
theorem dL_law_1074 : decode cL_law 1074 = .ok (.iaload, 1) := by decide +kernel
theorem dL_law_1075 : decode cL_law 1075 = .ok (.invokevirtual 129, 3) := by decide +kernel
theorem dL_law_1078 : decode cL_law 1078 = .ok (.istore 6, 2) := by decide +kernel
theorem dL_law_1080 : decode cL_law 1080 = .ok (.aload_n 2, 1) := by decide +kernel
theorem dL_law_1081 : decode cL_law 1081 = .ok (.invokevirtual 81, 3) := by decide +kernel
theorem dL_law_1084 : decode cL_law 1084 = .ok (.iload 5, 2) := by decide +kernel
theorem dL_law_1086 : decode cL_law 1086 = .ok (.if_icmp .eq 5, 3) := by decide +kernel
theorem dL_law_1089 : decode cL_law 1089 = .ok (.iconst 0, 1) := by decide +kernel
theorem dL_law_1090 : decode cL_law 1090 = .ok (.ireturn, 1) := by decide +kernel
theorem dL_law_1091 : decode cL_law 1091 = .ok (.iload 5, 2) := by decide +kernel
theorem dL_law_1093 : decode cL_law 1093 = .ok (.ifCond .ne 15, 3) := by decide +kernel
theorem dL_law_1096 : decode cL_law 1096 = .ok (.aload_n 3, 1) := by decide +kernel
theorem dL_law_1097 : decode cL_law 1097 = .ok (.iconst 0, 1) := by decide +kernel
theorem dL_law_1098 : decode cL_law 1098 = .ok (.laload, 1) := by decide +kernel
theorem dL_law_1099 : decode cL_law 1099 = .ok (.iload 6, 2) := by decide +kernel
theorem dL_law_1101 : decode cL_law 1101 = .ok (.i2l, 1) := by decide +kernel
theorem dL_law_1102 : decode cL_law 1102 = .ok (.lcmp, 1) := by decide +kernel
theorem dL_law_1103 : decode cL_law 1103 = .ok (.ifCond .eq 5, 3) := by decide +kernel
theorem dL_law_1106 : decode cL_law 1106 = .ok (.iconst 0, 1) := by decide +kernel
theorem dL_law_1107 : decode cL_law 1107 = .ok (.ireturn, 1) := by decide +kernel
theorem dL_law_1108 : decode cL_law 1108 = .ok (.goto 139, 3) := by decide +kernel
theorem dL_law_1111 : decode cL_law 1111 = .ok (.aload_n 1, 1) := by decide +kernel
theorem dL_law_1112 : decode cL_law 1112 = .ok (.aload_n 0, 1) := by decide +kernel
theorem dL_law_1113 : decode cL_law 1113 = .ok (.iload 4, 2) := by decide +kernel
theorem dL_law_1115 : decode cL_law 1115 = .ok (.iconst 1, 1) := by decide +kernel
theorem dL_law_1116 : decode cL_law 1116 = .ok (.iadd, 1) := by decide +kernel
theorem dL_law_1117 : decode cL_law 1117 = .ok (.iaload, 1) := by decide +kernel
theorem dL_law_1118 : decode cL_law 1118 = .ok (.aload_n 0, 1) := by decide +kernel
theorem dL_law_1119 : decode cL_law 1119 = .ok (.iload 4, 2) := by decide +kernel
theorem dL_law_1121 : decode cL_law 1121 = .ok (.iconst 2, 1) := by decide +kernel
theorem dL_law_1122 : decode cL_law 1122 = .ok (.iadd, 1) := by decide +kernel
theorem dL_law_1123 : decode cL_law 1123 = .ok (.iaload, 1) := by decide +kernel
theorem dL_law_1124 : decode cL_law 1124 = .ok (.aload_n 3, 1) := by decide +kernel
theorem dL_law_1125 : decode cL_law 1125 = .ok (.invokestatic 130, 3) := by decide +kernel
theorem dL_law_1128 : decode cL_law 1128 = .ok (.istore 5, 2) := by decide +kernel
theorem dL_law_1130 : decode cL_law 1130 = .ok (.aload_n 2, 1) := by decide +kernel
theorem dL_law_1131 : decode cL_law 1131 = .ok (.aload_n 0, 1) := by decide +kernel
theorem dL_law_1132 : decode cL_law 1132 = .ok (.iload 4, 2) := by decide +kernel
theorem dL_law_1134 : decode cL_law 1134 = .ok (.iconst 1, 1) := by decide +kernel
theorem dL_law_1135 : decode cL_law 1135 = .ok (.iadd, 1) := by decide +kernel
theorem dL_law_1136 : decode cL_law 1136 = .ok (.iaload, 1) := by decide +kernel
theorem dL_law_1137 : decode cL_law 1137 = .ok (.aload_n 0, 1) := by decide +kernel
theorem dL_law_1138 : decode cL_law 1138 = .ok (.iload 4, 2) := by decide +kernel
theorem dL_law_1140 : decode cL_law 1140 = .ok (.iconst 2, 1) := by decide +kernel
theorem dL_law_1141 : decode cL_law 1141 = .ok (.iadd, 1) := by decide +kernel
theorem dL_law_1142 : decode cL_law 1142 = .ok (.iaload, 1) := by decide +kernel
theorem dL_law_1143 : decode cL_law 1143 = .ok (.invokevirtual 132, 3) := by decide +kernel
theorem dL_law_1146 : decode cL_law 1146 = .ok (.istore 6, 2) := by decide +kernel
theorem dL_law_1148 : decode cL_law 1148 = .ok (.aload_n 2, 1) := by decide +kernel
theorem dL_law_1149 : decode cL_law 1149 = .ok (.invokevirtual 81, 3) := by decide +kernel
theorem dL_law_1152 : decode cL_law 1152 = .ok (.iload 5, 2) := by decide +kernel
theorem dL_law_1154 : decode cL_law 1154 = .ok (.if_icmp .eq 5, 3) := by decide +kernel
theorem dL_law_1157 : decode cL_law 1157 = .ok (.iconst 0, 1) := by decide +kernel
theorem dL_law_1158 : decode cL_law 1158 = .ok (.ireturn, 1) := by decide +kernel
theorem dL_law_1159 : decode cL_law 1159 = .ok (.iload 5, 2) := by decide +kernel
theorem dL_law_1161 : decode cL_law 1161 = .ok (.ifCond .ne 15, 3) := by decide +kernel
theorem dL_law_1164 : decode cL_law 1164 = .ok (.aload_n 3, 1) := by decide +kernel
theorem dL_law_1165 : decode cL_law 1165 = .ok (.iconst 0, 1) := by decide +kernel
theorem dL_law_1166 : decode cL_law 1166 = .ok (.laload, 1) := by decide +kernel
theorem dL_law_1167 : decode cL_law 1167 = .ok (.iload 6, 2) := by decide +kernel
theorem dL_law_1169 : decode cL_law 1169 = .ok (.i2l, 1) := by decide +kernel
theorem dL_law_1170 : decode cL_law 1170 = .ok (.lcmp, 1) := by decide +kernel
theorem dL_law_1171 : decode cL_law 1171 = .ok (.ifCond .eq 5, 3) := by decide +kernel
theorem dL_law_1174 : decode cL_law 1174 = .ok (.iconst 0, 1) := by decide +kernel
theorem dL_law_1175 : decode cL_law 1175 = .ok (.ireturn, 1) := by decide +kernel
theorem dL_law_1176 : decode cL_law 1176 = .ok (.goto 71, 3) := by decide +kernel
theorem dL_law_1179 : decode cL_law 1179 = .ok (.aload_n 1, 1) := by decide +kernel
theorem dL_law_1180 : decode cL_law 1180 = .ok (.aload_n 0, 1) := by decide +kernel
theorem dL_law_1181 : decode cL_law 1181 = .ok (.iload 4, 2) := by decide +kernel
theorem dL_law_1183 : decode cL_law 1183 = .ok (.iconst 1, 1) := by decide +kernel
theorem dL_law_1184 : decode cL_law 1184 = .ok (.iadd, 1) := by decide +kernel
theorem dL_law_1185 : decode cL_law 1185 = .ok (.iaload, 1) := by decide +kernel
theorem dL_law_1186 : decode cL_law 1186 = .ok (.aload_n 0, 1) := by decide +kernel
theorem dL_law_1187 : decode cL_law 1187 = .ok (.iload 4, 2) := by decide +kernel
theorem dL_law_1189 : decode cL_law 1189 = .ok (.iconst 2, 1) := by decide +kernel
theorem dL_law_1190 : decode cL_law 1190 = .ok (.iadd, 1) := by decide +kernel
theorem dL_law_1191 : decode cL_law 1191 = .ok (.iaload, 1) := by decide +kernel
theorem dL_law_1192 : decode cL_law 1192 = .ok (.aload_n 3, 1) := by decide +kernel
theorem dL_law_1193 : decode cL_law 1193 = .ok (.invokestatic 133, 3) := by decide +kernel
theorem dL_law_1196 : decode cL_law 1196 = .ok (.istore 5, 2) := by decide +kernel
theorem dL_law_1198 : decode cL_law 1198 = .ok (.aload_n 2, 1) := by decide +kernel
theorem dL_law_1199 : decode cL_law 1199 = .ok (.aload_n 0, 1) := by decide +kernel
theorem dL_law_1200 : decode cL_law 1200 = .ok (.iload 4, 2) := by decide +kernel
theorem dL_law_1202 : decode cL_law 1202 = .ok (.iconst 1, 1) := by decide +kernel
theorem dL_law_1203 : decode cL_law 1203 = .ok (.iadd, 1) := by decide +kernel
theorem dL_law_1204 : decode cL_law 1204 = .ok (.iaload, 1) := by decide +kernel
theorem dL_law_1205 : decode cL_law 1205 = .ok (.aload_n 0, 1) := by decide +kernel
theorem dL_law_1206 : decode cL_law 1206 = .ok (.iload 4, 2) := by decide +kernel
theorem dL_law_1208 : decode cL_law 1208 = .ok (.iconst 2, 1) := by decide +kernel
theorem dL_law_1209 : decode cL_law 1209 = .ok (.iadd, 1) := by decide +kernel
theorem dL_law_1210 : decode cL_law 1210 = .ok (.iaload, 1) := by decide +kernel
theorem dL_law_1211 : decode cL_law 1211 = .ok (.invokevirtual 135, 3) := by decide +kernel
theorem dL_law_1214 : decode cL_law 1214 = .ok (.istore 6, 2) := by decide +kernel
theorem dL_law_1216 : decode cL_law 1216 = .ok (.aload_n 2, 1) := by decide +kernel
theorem dL_law_1217 : decode cL_law 1217 = .ok (.invokevirtual 81, 3) := by decide +kernel
theorem dL_law_1220 : decode cL_law 1220 = .ok (.iload 5, 2) := by decide +kernel
theorem dL_law_1222 : decode cL_law 1222 = .ok (.if_icmp .eq 5, 3) := by decide +kernel
theorem dL_law_1225 : decode cL_law 1225 = .ok (.iconst 0, 1) := by decide +kernel
theorem dL_law_1226 : decode cL_law 1226 = .ok (.ireturn, 1) := by decide +kernel
theorem dL_law_1227 : decode cL_law 1227 = .ok (.iload 5, 2) := by decide +kernel
theorem dL_law_1229 : decode cL_law 1229 = .ok (.ifCond .ne 15, 3) := by decide +kernel
theorem dL_law_1232 : decode cL_law 1232 = .ok (.aload_n 3, 1) := by decide +kernel
theorem dL_law_1233 : decode cL_law 1233 = .ok (.iconst 0, 1) := by decide +kernel
theorem dL_law_1234 : decode cL_law 1234 = .ok (.laload, 1) := by decide +kernel
theorem dL_law_1235 : decode cL_law 1235 = .ok (.iload 6, 2) := by decide +kernel
theorem dL_law_1237 : decode cL_law 1237 = .ok (.i2l, 1) := by decide +kernel
theorem dL_law_1238 : decode cL_law 1238 = .ok (.lcmp, 1) := by decide +kernel
theorem dL_law_1239 : decode cL_law 1239 = .ok (.ifCond .eq 5, 3) := by decide +kernel
theorem dL_law_1242 : decode cL_law 1242 = .ok (.iconst 0, 1) := by decide +kernel
theorem dL_law_1243 : decode cL_law 1243 = .ok (.ireturn, 1) := by decide +kernel
theorem dL_law_1244 : decode cL_law 1244 = .ok (.goto 3, 3) := by decide +kernel
theorem dL_law_1247 : decode cL_law 1247 = .ok (.iinc 4 6, 3) := by decide +kernel
theorem dL_law_1250 : decode cL_law 1250 = .ok (.goto (-1227), 3) := by decide +kernel
theorem dL_law_1253 : decode cL_law 1253 = .ok (.iconst 1, 1) := by decide +kernel
theorem dL_law_1254 : decode cL_law 1254 = .ok (.ireturn, 1) := by decide +kernel
end
section
/-! contracts of the law's own small methods -/
theorem xok_ints {n : Nat} (l : List Int32) : ∀ v ∈ l.map Value.int, xok n v := fun v hv => by obtain ⟨x, -, rfl⟩ := List.mem_map.mp hv; trivial
def lws_request : List Cond := .codeWith yL_request cL_request 7 (some .int) [(0, 14, 17, 13), (0, 14, 21, 15)] :: xT
set_option maxRecDepth 100000 in
theorem wn_request {l : Launch} {D : va_G} {N d x : Nat} {fs : List Value} {σ σ1 : XS} {v : Nat → Int64} {a1 a2 a3 a4 : Int32} {r : Int32} (hc : xcall N d 76 [.ref x, .int a1, .int a2, .int a3, .int a4] σ = some (some (.int r), σ1)) (hxn : x < σ.1) (hf : σ.2.2 x = .inl (9, fs)) : lwMet l D d yL_request lws_request (fun w qo => [.ref (w.1 x), .int a1, .int a2, .int a3, .int a4, .ref qo]) σ v 0 σ1 (vp_updL v 0 r.toInt64) (0 + (σ1.1 - σ.1)) (0 + (σ1.2.1 - σ.2.1)) := by
  refine lw_enter (by decide +kernel) rfl (fun w qo => Nat.le_of_ble_eq_true rfl) (fun p e s m args below meth c w qo cL A ls F hpt hl => ?_)
  have hl : lv_has ls 7 [(0, .ref (w.1 x)), (1, .int a1), (2, .int a2), (3, .int a3), (4, .int a4), (5, .ref qo)] := hl
  obtain ⟨hx, hb, hml, hown, hts, htn, hz, hnc, hr, hlocks, htab, hA⟩ := id F
  refine lv_aload hx hb dL_request_0 (lv_at hl 5 rfl) ?_
  refine lv_iconst (v := 0) hx hb dL_request_2 (by decide) ?_
  refine lv_aload_n hx hb dL_request_3 rfl (lv_at hl 0 rfl) ?_
  refine lv_iload_n hx hb dL_request_4 rfl (lv_at hl 1 rfl) ?_
  refine lv_iload_n hx hb dL_request_5 rfl (lv_at hl 2 rfl) ?_
  refine lv_iload_n hx hb dL_request_6 rfl (lv_at hl 3 rfl) ?_
  refine lv_iload hx hb dL_request_7 (lv_at hl 4 rfl) ?_
  refine lw_callN (is := [.int a1, .int a2, .int a3, .int a4]) (rest := [.int 0, .ref qo]) (w := w) hc hx hb hml hown hts htn hA hpt hxn hf rfl (by decide) (xok_ints [a1, a2, a3, a4]) rfl (xt2 13 rfl rfl) (xt2 14 rfl rfl) (xt2 15 rfl rfl) hl.1 (Nat.le_of_ble_eq_true rfl) dL_request_9 (by show d + 1 ≤ d + 8; omega) (by show (d + 1) * 40 ≤ (d + 2) * 40 + 100; omega) (Nat.le_refl _) (Nat.le_refl _) (fun H' locs' w' hag hpt' => ?_)
  refine lv_i2l hx hb dL_request_12 rfl ?_
  exact lw_tailL F hpt' hag dL_request_13 dL_request_14 (by decide) dL_request_25 dL_request_26
set_option maxRecDepth 100000 in
theorem wx_request_0 {l : Launch} {D : va_G} {N d x : Nat} {fs : List Value} {σ σ1 : XS} {v : Nat → Int64} {a1 a2 a3 a4 : Int32} (hls : l.stackTraces = false) (hc : xcallX N d 76 [.ref x, .int a1, .int a2, .int a3, .int a4] σ = some (0, σ1)) (hxn : x < σ.1) (hf : σ.2.2 x = .inl (9, fs)) : lwMet l D d yL_request lws_request (fun w qo => [.ref (w.1 x), .int a1, .int a2, .int a3, .int a4, .ref qo]) σ v 1 σ1 v (0 + (σ1.1 - σ.1 + 1)) (0 + (σ1.2.1 - σ.2.1 + 6)) := by
  refine lw_enter (by decide +kernel) rfl (fun w qo => Nat.le_of_ble_eq_true rfl) (fun p e s m args below meth c w qo cL A ls F hpt hl => ?_)
  have hl : lv_has ls 7 [(0, .ref (w.1 x)), (1, .int a1), (2, .int a2), (3, .int a3), (4, .int a4), (5, .ref qo)] := hl
  obtain ⟨hx, hb, hml, hown, hts, htn, hz, hnc, hr, hlocks, htab, hA⟩ := id F
  refine lv_aload hx hb dL_request_0 (lv_at hl 5 rfl) ?_
  refine lv_iconst (v := 0) hx hb dL_request_2 (by decide) ?_
  refine lv_aload_n hx hb dL_request_3 rfl (lv_at hl 0 rfl) ?_
  refine lv_iload_n hx hb dL_request_4 rfl (lv_at hl 1 rfl) ?_
  refine lv_iload_n hx hb dL_request_5 rfl (lv_at hl 2 rfl) ?_
  refine lv_iload_n hx hb dL_request_6 rfl (lv_at hl 3 rfl) ?_
  refine lv_iload hx hb dL_request_7 (lv_at hl 4 rfl) ?_
  refine lw_callX (is := [.int a1, .int a2, .int a3, .int a4]) (rest := [.int 0, .ref qo]) (w := w) hls hc hx hb hml hown hts htn hA hz hpt hxn hf rfl (by decide) (xok_ints [a1, a2, a3, a4]) rfl (xt2 13 rfl rfl) (xt2 14 rfl rfl) (xt2 15 rfl rfl) hl.1 (Nat.le_of_ble_eq_true rfl) dL_request_9 (by show d + 7 ≤ d + 8; omega) (by show (d + 1) * 40 + 100 ≤ (d + 2) * 40 + 100; omega) (Nat.le_refl _) (Nat.le_refl _) (fun H' locs' w' q ce hag hpt' h1 h2 h3 => ?_)
  exact lw_caught (E := 0) (nm := "java/lang/IllegalArgumentException") F hpt' hag h1 h2 h3 rfl [] ⟨0, 14, 17, 13⟩ [⟨0, 14, 21, 15⟩] rfl (fun z hz => nomatch hz) (by decide) (by decide) (xt2 11 rfl rfl) (by decide) (lv_sub hl [] rfl) (by decide) dL_request_17 dL_request_19 rfl dL_request_20
set_option maxRecDepth 100000 in
theorem wx_request_1 {l : Launch} {D : va_G} {N d x : Nat} {fs : List Value} {σ σ1 : XS} {v : Nat → Int64} {a1 a2 a3 a4 : Int32} (hls : l.stackTraces = false) (hc : xcallX N d 76 [.ref x, .int a1, .int a2, .int a3, .int a4] σ = some (1, σ1)) (hxn : x < σ.1) (hf : σ.2.2 x = .inl (9, fs)) : lwMet l D d yL_request lws_request (fun w qo => [.ref (w.1 x), .int a1, .int a2, .int a3, .int a4, .ref qo]) σ v 2 σ1 v (0 + (σ1.1 - σ.1 + 1)) (0 + (σ1.2.1 - σ.2.1 + 6)) := by
  refine lw_enter (by decide +kernel) rfl (fun w qo => Nat.le_of_ble_eq_true rfl) (fun p e s m args below meth c w qo cL A ls F hpt hl => ?_)
  have hl : lv_has ls 7 [(0, .ref (w.1 x)), (1, .int a1), (2, .int a2), (3, .int a3), (4, .int a4), (5, .ref qo)] := hl
  obtain ⟨hx, hb, hml, hown, hts, htn, hz, hnc, hr, hlocks, htab, hA⟩ := id F
  refine lv_aload hx hb dL_request_0 (lv_at hl 5 rfl) ?_
  refine lv_iconst (v := 0) hx hb dL_request_2 (by decide) ?_
  refine lv_aload_n hx hb dL_request_3 rfl (lv_at hl 0 rfl) ?_
  refine lv_iload_n hx hb dL_request_4 rfl (lv_at hl 1 rfl) ?_
  refine lv_iload_n hx hb dL_request_5 rfl (lv_at hl 2 rfl) ?_
  refine lv_iload_n hx hb dL_request_6 rfl (lv_at hl 3 rfl) ?_
  refine lv_iload hx hb dL_request_7 (lv_at hl 4 rfl) ?_
  refine lw_callX (is := [.int a1, .int a2, .int a3, .int a4]) (rest := [.int 0, .ref qo]) (w := w) hls hc hx hb hml hown hts htn hA hz hpt hxn hf rfl (by decide) (xok_ints [a1, a2, a3, a4]) rfl (xt2 13 rfl rfl) (xt2 14 rfl rfl) (xt2 15 rfl rfl) hl.1 (Nat.le_of_ble_eq_true rfl) dL_request_9 (by show d + 7 ≤ d + 8; omega) (by show (d + 1) * 40 + 100 ≤ (d + 2) * 40 + 100; omega) (Nat.le_refl _) (Nat.le_refl _) (fun H' locs' w' q ce hag hpt' h1 h2 h3 => ?_)
  exact lw_caught (E := 1) (nm := "java/lang/IllegalStateException") F hpt' hag h1 h2 h3 rfl [⟨0, 14, 17, 13⟩] ⟨0, 14, 21, 15⟩ [] rfl (List.forall_mem_cons.mpr ⟨⟨by decide, "java/lang/IllegalArgumentException", (xt2 11 rfl rfl), by decide⟩, fun z hz => nomatch hz⟩) (by decide) (by decide) (xt2 12 rfl rfl) (by decide) (lv_sub hl [] rfl) (by decide) dL_request_21 dL_request_23 rfl dL_request_24
def lws_bring : List Cond := .codeWith yL_bring cL_bring 5 (some .int) [(0, 10, 13, 21)] :: xT
set_option maxRecDepth 100000 in
theorem wn_bring {l : Launch} {D : va_G} {N d x : Nat} {fs : List Value} {σ σ1 : XS} {v : Nat → Int64} {a1 a2 : Int32} {r : Int32} (hc : xcall N d 77 [.ref x, .int a1, .int a2] σ = some (some (.int r), σ1)) (hxn : x < σ.1) (hf : σ.2.2 x = .inl (9, fs)) : lwMet l D d yL_bring lws_bring (fun w qo => [.ref (w.1 x), .int a1, .int a2, .ref qo]) σ v 0 σ1 (vp_updL v 0 r.toInt64) (0 + (σ1.1 - σ.1)) (0 + (σ1.2.1 - σ.2.1)) := by
  refine lw_enter (by decide +kernel) rfl (fun w qo => Nat.le_of_ble_eq_true rfl) (fun p e s m args below meth c w qo cL A ls F hpt hl => ?_)
  have hl : lv_has ls 5 [(0, .ref (w.1 x)), (1, .int a1), (2, .int a2), (3, .ref qo)] := hl
  obtain ⟨hx, hb, hml, hown, hts, htn, hz, hnc, hr, hlocks, htab, hA⟩ := id F
  refine lv_aload_n hx hb dL_bring_0 rfl (lv_at hl 3 rfl) ?_
  refine lv_iconst (v := 0) hx hb dL_bring_1 (by decide) ?_
  refine lv_aload_n hx hb dL_bring_2 rfl (lv_at hl 0 rfl) ?_
  refine lv_iload_n hx hb dL_bring_3 rfl (lv_at hl 1 rfl) ?_
  refine lv_iload_n hx hb dL_bring_4 rfl (lv_at hl 2 rfl) ?_
  refine lw_callN (is := [.int a1, .int a2]) (rest := [.int 0, .ref qo]) (w := w) hc hx hb hml hown hts htn hA hpt hxn hf rfl (by decide) (xok_ints [a1, a2]) rfl (xt2 116 rfl rfl) (xt2 117 rfl rfl) (xt2 118 rfl rfl) hl.1 (Nat.le_of_ble_eq_true rfl) dL_bring_5 (by show d + 1 ≤ d + 8; omega) (by show (d + 1) * 40 ≤ (d + 2) * 40 + 100; omega) (Nat.le_refl _) (Nat.le_refl _) (fun H' locs' w' hag hpt' => ?_)
  refine lv_i2l hx hb dL_bring_8 rfl ?_
  exact lw_tailL F hpt' hag dL_bring_9 dL_bring_10 (by decide) dL_bring_17 dL_bring_18
set_option maxRecDepth 100000 in
theorem wx_bring_2 {l : Launch} {D : va_G} {N d x : Nat} {fs : List Value} {σ σ1 : XS} {v : Nat → Int64} {a1 a2 : Int32} (hls : l.stackTraces = false) (hc : xcallX N d 77 [.ref x, .int a1, .int a2] σ = some (2, σ1)) (hxn : x < σ.1) (hf : σ.2.2 x = .inl (9, fs)) : lwMet l D d yL_bring lws_bring (fun w qo => [.ref (w.1 x), .int a1, .int a2, .ref qo]) σ v 1 σ1 v (0 + (σ1.1 - σ.1 + 1)) (0 + (σ1.2.1 - σ.2.1 + 6)) := by
  refine lw_enter (by decide +kernel) rfl (fun w qo => Nat.le_of_ble_eq_true rfl) (fun p e s m args below meth c w qo cL A ls F hpt hl => ?_)
  have hl : lv_has ls 5 [(0, .ref (w.1 x)), (1, .int a1), (2, .int a2), (3, .ref qo)] := hl
  obtain ⟨hx, hb, hml, hown, hts, htn, hz, hnc, hr, hlocks, htab, hA⟩ := id F
  refine lv_aload_n hx hb dL_bring_0 rfl (lv_at hl 3 rfl) ?_
  refine lv_iconst (v := 0) hx hb dL_bring_1 (by decide) ?_
  refine lv_aload_n hx hb dL_bring_2 rfl (lv_at hl 0 rfl) ?_
  refine lv_iload_n hx hb dL_bring_3 rfl (lv_at hl 1 rfl) ?_
  refine lv_iload_n hx hb dL_bring_4 rfl (lv_at hl 2 rfl) ?_
  refine lw_callX (is := [.int a1, .int a2]) (rest := [.int 0, .ref qo]) (w := w) hls hc hx hb hml hown hts htn hA hz hpt hxn hf rfl (by decide) (xok_ints [a1, a2]) rfl (xt2 116 rfl rfl) (xt2 117 rfl rfl) (xt2 118 rfl rfl) hl.1 (Nat.le_of_ble_eq_true rfl) dL_bring_5 (by show d + 7 ≤ d + 8; omega) (by show (d + 1) * 40 + 100 ≤ (d + 2) * 40 + 100; omega) (Nat.le_refl _) (Nat.le_refl _) (fun H' locs' w' q ce hag hpt' h1 h2 h3 => ?_)
  exact lw_caught (E := 2) (nm := "java/lang/IndexOutOfBoundsException") F hpt' hag h1 h2 h3 rfl [] ⟨0, 10, 13, 21⟩ [] rfl (fun z hz => nomatch hz) (by decide) (by decide) (xt2 115 rfl rfl) (by decide) (lv_sub hl [] rfl) (by decide) dL_bring_13 dL_bring_15 rfl dL_bring_16
def lws_send : List Cond := .codeWith yL_send cL_send 6 (some .int) [(0, 12, 15, 21), (0, 12, 19, 13)] :: xT
set_option maxRecDepth 100000 in
theorem wn_send {l : Launch} {D : va_G} {N d x : Nat} {fs : List Value} {σ σ1 : XS} {v : Nat → Int64} {a1 a2 a3 : Int32} {r : Int32} (hc : xcall N d 78 [.ref x, .int a1, .int a2, .int a3] σ = some (some (.int r), σ1)) (hxn : x < σ.1) (hf : σ.2.2 x = .inl (9, fs)) : lwMet l D d yL_send lws_send (fun w qo => [.ref (w.1 x), .int a1, .int a2, .int a3, .ref qo]) σ v 0 σ1 (vp_updL v 0 r.toInt64) (0 + (σ1.1 - σ.1)) (0 + (σ1.2.1 - σ.2.1)) := by
  refine lw_enter (by decide +kernel) rfl (fun w qo => Nat.le_of_ble_eq_true rfl) (fun p e s m args below meth c w qo cL A ls F hpt hl => ?_)
  have hl : lv_has ls 6 [(0, .ref (w.1 x)), (1, .int a1), (2, .int a2), (3, .int a3), (4, .ref qo)] := hl
  obtain ⟨hx, hb, hml, hown, hts, htn, hz, hnc, hr, hlocks, htab, hA⟩ := id F
  refine lv_aload hx hb dL_send_0 (lv_at hl 4 rfl) ?_
  refine lv_iconst (v := 0) hx hb dL_send_2 (by decide) ?_
  refine lv_aload_n hx hb dL_send_3 rfl (lv_at hl 0 rfl) ?_
  refine lv_iload_n hx hb dL_send_4 rfl (lv_at hl 1 rfl) ?_
  refine lv_iload_n hx hb dL_send_5 rfl (lv_at hl 2 rfl) ?_
  refine lv_iload_n hx hb dL_send_6 rfl (lv_at hl 3 rfl) ?_
  refine lw_callN (is := [.int a1, .int a2, .int a3]) (rest := [.int 0, .ref qo]) (w := w) hc hx hb hml hown hts htn hA hpt hxn hf rfl (by decide) (xok_ints [a1, a2, a3]) rfl (xt3 109 rfl rfl) (xt3 110 rfl rfl) (xt3 111 rfl rfl) hl.1 (Nat.le_of_ble_eq_true rfl) dL_send_7 (by show d + 1 ≤ d + 8; omega) (by show (d + 1) * 40 ≤ (d + 2) * 40 + 100; omega) (Nat.le_refl _) (Nat.le_refl _) (fun H' locs' w' hag hpt' => ?_)
  refine lv_i2l hx hb dL_send_10 rfl ?_
  exact lw_tailL F hpt' hag dL_send_11 dL_send_12 (by decide) dL_send_23 dL_send_24
set_option maxRecDepth 100000 in
theorem wx_send_2 {l : Launch} {D : va_G} {N d x : Nat} {fs : List Value} {σ σ1 : XS} {v : Nat → Int64} {a1 a2 a3 : Int32} (hls : l.stackTraces = false) (hc : xcallX N d 78 [.ref x, .int a1, .int a2, .int a3] σ = some (2, σ1)) (hxn : x < σ.1) (hf : σ.2.2 x = .inl (9, fs)) : lwMet l D d yL_send lws_send (fun w qo => [.ref (w.1 x), .int a1, .int a2, .int a3, .ref qo]) σ v 1 σ1 v (0 + (σ1.1 - σ.1 + 1)) (0 + (σ1.2.1 - σ.2.1 + 6)) := by
  refine lw_enter (by decide +kernel) rfl (fun w qo => Nat.le_of_ble_eq_true rfl) (fun p e s m args below meth c w qo cL A ls F hpt hl => ?_)
  have hl : lv_has ls 6 [(0, .ref (w.1 x)), (1, .int a1), (2, .int a2), (3, .int a3), (4, .ref qo)] := hl
  obtain ⟨hx, hb, hml, hown, hts, htn, hz, hnc, hr, hlocks, htab, hA⟩ := id F
  refine lv_aload hx hb dL_send_0 (lv_at hl 4 rfl) ?_
  refine lv_iconst (v := 0) hx hb dL_send_2 (by decide) ?_
  refine lv_aload_n hx hb dL_send_3 rfl (lv_at hl 0 rfl) ?_
  refine lv_iload_n hx hb dL_send_4 rfl (lv_at hl 1 rfl) ?_
  refine lv_iload_n hx hb dL_send_5 rfl (lv_at hl 2 rfl) ?_
  refine lv_iload_n hx hb dL_send_6 rfl (lv_at hl 3 rfl) ?_
  refine lw_callX (is := [.int a1, .int a2, .int a3]) (rest := [.int 0, .ref qo]) (w := w) hls hc hx hb hml hown hts htn hA hz hpt hxn hf rfl (by decide) (xok_ints [a1, a2, a3]) rfl (xt3 109 rfl rfl) (xt3 110 rfl rfl) (xt3 111 rfl rfl) hl.1 (Nat.le_of_ble_eq_true rfl) dL_send_7 (by show d + 7 ≤ d + 8; omega) (by show (d + 1) * 40 + 100 ≤ (d + 2) * 40 + 100; omega) (Nat.le_refl _) (Nat.le_refl _) (fun H' locs' w' q ce hag hpt' h1 h2 h3 => ?_)
  exact lw_caught (E := 2) (nm := "java/lang/IndexOutOfBoundsException") F hpt' hag h1 h2 h3 rfl [] ⟨0, 12, 15, 21⟩ [⟨0, 12, 19, 13⟩] rfl (fun z hz => nomatch hz) (by decide) (by decide) (xt2 115 rfl rfl) (by decide) (lv_sub hl [] rfl) (by decide) dL_send_15 dL_send_17 rfl dL_send_18
set_option maxRecDepth 100000 in
theorem wx_send_0 {l : Launch} {D : va_G} {N d x : Nat} {fs : List Value} {σ σ1 : XS} {v : Nat → Int64} {a1 a2 a3 : Int32} (hls : l.stackTraces = false) (hc : xcallX N d 78 [.ref x, .int a1, .int a2, .int a3] σ = some (0, σ1)) (hxn : x < σ.1) (hf : σ.2.2 x = .inl (9, fs)) : lwMet l D d yL_send lws_send (fun w qo => [.ref (w.1 x), .int a1, .int a2, .int a3, .ref qo]) σ v 2 σ1 v (0 + (σ1.1 - σ.1 + 1)) (0 + (σ1.2.1 - σ.2.1 + 6)) := by
  refine lw_enter (by decide +kernel) rfl (fun w qo => Nat.le_of_ble_eq_true rfl) (fun p e s m args below meth c w qo cL A ls F hpt hl => ?_)
  have hl : lv_has ls 6 [(0, .ref (w.1 x)), (1, .int a1), (2, .int a2), (3, .int a3), (4, .ref qo)] := hl
  obtain ⟨hx, hb, hml, hown, hts, htn, hz, hnc, hr, hlocks, htab, hA⟩ := id F
  refine lv_aload hx hb dL_send_0 (lv_at hl 4 rfl) ?_
  refine lv_iconst (v := 0) hx hb dL_send_2 (by decide) ?_
  refine lv_aload_n hx hb dL_send_3 rfl (lv_at hl 0 rfl) ?_
  refine lv_iload_n hx hb dL_send_4 rfl (lv_at hl 1 rfl) ?_
  refine lv_iload_n hx hb dL_send_5 rfl (lv_at hl 2 rfl) ?_
  refine lv_iload_n hx hb dL_send_6 rfl (lv_at hl 3 rfl) ?_
  refine lw_callX (is := [.int a1, .int a2, .int a3]) (rest := [.int 0, .ref qo]) (w := w) hls hc hx hb hml hown hts htn hA hz hpt hxn hf rfl (by decide) (xok_ints [a1, a2, a3]) rfl (xt3 109 rfl rfl) (xt3 110 rfl rfl) (xt3 111 rfl rfl) hl.1 (Nat.le_of_ble_eq_true rfl) dL_send_7 (by show d + 7 ≤ d + 8; omega) (by show (d + 1) * 40 + 100 ≤ (d + 2) * 40 + 100; omega) (Nat.le_refl _) (Nat.le_refl _) (fun H' locs' w' q ce hag hpt' h1 h2 h3 => ?_)
  exact lw_caught (E := 0) (nm := "java/lang/IllegalArgumentException") F hpt' hag h1 h2 h3 rfl [⟨0, 12, 15, 21⟩] ⟨0, 12, 19, 13⟩ [] rfl (List.forall_mem_cons.mpr ⟨⟨by decide, "java/lang/IndexOutOfBoundsException", (xt2 115 rfl rfl), by decide⟩, fun z hz => nomatch hz⟩) (by decide) (by decide) (xt2 11 rfl rfl) (by decide) (lv_sub hl [] rfl) (by decide) dL_send_19 dL_send_21 rfl dL_send_22
def lws_late : List Cond := .codeWith yL_late cL_late 4 (some .int) [(0, 9, 12, 21)] :: xT
set_option maxRecDepth 100000 in
theorem wn_late {l : Launch} {D : va_G} {N d x : Nat} {fs : List Value} {σ σ1 : XS} {v : Nat → Int64} {a1 : Int32} {r : Int32} (hc : xcall N d 79 [.ref x, .int a1] σ = some (some (.int r), σ1)) (hxn : x < σ.1) (hf : σ.2.2 x = .inl (9, fs)) : lwMet l D d yL_late lws_late (fun w qo => [.ref (w.1 x), .int a1, .ref qo]) σ v 0 σ1 (vp_updL v 0 r.toInt64) (0 + (σ1.1 - σ.1)) (0 + (σ1.2.1 - σ.2.1)) := by
  refine lw_enter (by decide +kernel) rfl (fun w qo => Nat.le_of_ble_eq_true rfl) (fun p e s m args below meth c w qo cL A ls F hpt hl => ?_)
  have hl : lv_has ls 4 [(0, .ref (w.1 x)), (1, .int a1), (2, .ref qo)] := hl
  obtain ⟨hx, hb, hml, hown, hts, htn, hz, hnc, hr, hlocks, htab, hA⟩ := id F
  refine lv_aload_n hx hb dL_late_0 rfl (lv_at hl 2 rfl) ?_
  refine lv_iconst (v := 0) hx hb dL_late_1 (by decide) ?_
  refine lv_aload_n hx hb dL_late_2 rfl (lv_at hl 0 rfl) ?_
  refine lv_iload_n hx hb dL_late_3 rfl (lv_at hl 1 rfl) ?_
  refine lw_callN (is := [.int a1]) (rest := [.int 0, .ref qo]) (w := w) hc hx hb hml hown hts htn hA hpt hxn hf rfl (by decide) (xok_ints [a1]) rfl (xt3 142 rfl rfl) (xt3 143 rfl rfl) (xt3 144 rfl rfl) hl.1 (Nat.le_of_ble_eq_true rfl) dL_late_4 (by show d + 1 ≤ d + 8; omega) (by show (d + 1) * 40 ≤ (d + 2) * 40 + 100; omega) (Nat.le_refl _) (Nat.le_refl _) (fun H' locs' w' hag hpt' => ?_)
  refine lv_i2l hx hb dL_late_7 rfl ?_
  exact lw_tailL F hpt' hag dL_late_8 dL_late_9 (by decide) dL_late_15 dL_late_16
set_option maxRecDepth 100000 in
theorem wx_late_2 {l : Launch} {D : va_G} {N d x : Nat} {fs : List Value} {σ σ1 : XS} {v : Nat → Int64} {a1 : Int32} (hls : l.stackTraces = false) (hc : xcallX N d 79 [.ref x, .int a1] σ = some (2, σ1)) (hxn : x < σ.1) (hf : σ.2.2 x = .inl (9, fs)) : lwMet l D d yL_late lws_late (fun w qo => [.ref (w.1 x), .int a1, .ref qo]) σ v 1 σ1 v (0 + (σ1.1 - σ.1 + 1)) (0 + (σ1.2.1 - σ.2.1 + 6)) := by
  refine lw_enter (by decide +kernel) rfl (fun w qo => Nat.le_of_ble_eq_true rfl) (fun p e s m args below meth c w qo cL A ls F hpt hl => ?_)
  have hl : lv_has ls 4 [(0, .ref (w.1 x)), (1, .int a1), (2, .ref qo)] := hl
  obtain ⟨hx, hb, hml, hown, hts, htn, hz, hnc, hr, hlocks, htab, hA⟩ := id F
  refine lv_aload_n hx hb dL_late_0 rfl (lv_at hl 2 rfl) ?_
  refine lv_iconst (v := 0) hx hb dL_late_1 (by decide) ?_
  refine lv_aload_n hx hb dL_late_2 rfl (lv_at hl 0 rfl) ?_
  refine lv_iload_n hx hb dL_late_3 rfl (lv_at hl 1 rfl) ?_
  refine lw_callX (is := [.int a1]) (rest := [.int 0, .ref qo]) (w := w) hls hc hx hb hml hown hts htn hA hz hpt hxn hf rfl (by decide) (xok_ints [a1]) rfl (xt3 142 rfl rfl) (xt3 143 rfl rfl) (xt3 144 rfl rfl) hl.1 (Nat.le_of_ble_eq_true rfl) dL_late_4 (by show d + 7 ≤ d + 8; omega) (by show (d + 1) * 40 + 100 ≤ (d + 2) * 40 + 100; omega) (Nat.le_refl _) (Nat.le_refl _) (fun H' locs' w' q ce hag hpt' h1 h2 h3 => ?_)
  exact lw_caught1 (E := 2) (nm := "java/lang/IndexOutOfBoundsException") F hpt' hag h1 h2 h3 rfl [] ⟨0, 9, 12, 21⟩ [] rfl (fun z hz => nomatch hz) (by decide) (by decide) (xt2 115 rfl rfl) (by decide) (lv_sub hl [] rfl) (by decide) dL_late_12 dL_late_13 rfl dL_late_14
def lws_ask : List Cond := .codeWith yL_ask cL_ask 5 (some .int) [(0, 10, 13, 21), (0, 10, 17, 13)] :: xT
set_option maxRecDepth 100000 in
theorem wn_ask {l : Launch} {D : va_G} {N d x : Nat} {fs : List Value} {σ σ1 : XS} {v : Nat → Int64} {a1 a2 : Int32} {r : Int32} (hc : xcall N d 80 [.ref x, .int a1, .int a2] σ = some (some (.int r), σ1)) (hxn : x < σ.1) (hf : σ.2.2 x = .inl (9, fs)) : lwMet l D d yL_ask lws_ask (fun w qo => [.ref (w.1 x), .int a1, .int a2, .ref qo]) σ v 0 σ1 (vp_updL v 0 r.toInt64) (0 + (σ1.1 - σ.1)) (0 + (σ1.2.1 - σ.2.1)) := by
  refine lw_enter (by decide +kernel) rfl (fun w qo => Nat.le_of_ble_eq_true rfl) (fun p e s m args below meth c w qo cL A ls F hpt hl => ?_)
  have hl : lv_has ls 5 [(0, .ref (w.1 x)), (1, .int a1), (2, .int a2), (3, .ref qo)] := hl
  obtain ⟨hx, hb, hml, hown, hts, htn, hz, hnc, hr, hlocks, htab, hA⟩ := id F
  refine lv_aload_n hx hb dL_ask_0 rfl (lv_at hl 3 rfl) ?_
  refine lv_iconst (v := 0) hx hb dL_ask_1 (by decide) ?_
  refine lv_aload_n hx hb dL_ask_2 rfl (lv_at hl 0 rfl) ?_
  refine lv_iload_n hx hb dL_ask_3 rfl (lv_at hl 1 rfl) ?_
  refine lv_iload_n hx hb dL_ask_4 rfl (lv_at hl 2 rfl) ?_
  refine lw_callN (is := [.int a1, .int a2]) (rest := [.int 0, .ref qo]) (w := w) hc hx hb hml hown hts htn hA hpt hxn hf rfl (by decide) (xok_ints [a1, a2]) rfl (xt3 165 rfl rfl) (xt3 166 rfl rfl) (xt3 167 rfl rfl) hl.1 (Nat.le_of_ble_eq_true rfl) dL_ask_5 (by show d + 1 ≤ d + 8; omega) (by show (d + 1) * 40 ≤ (d + 2) * 40 + 100; omega) (Nat.le_refl _) (Nat.le_refl _) (fun H' locs' w' hag hpt' => ?_)
  refine lv_i2l hx hb dL_ask_8 rfl ?_
  exact lw_tailL F hpt' hag dL_ask_9 dL_ask_10 (by decide) dL_ask_21 dL_ask_22
set_option maxRecDepth 100000 in
theorem wx_ask_2 {l : Launch} {D : va_G} {N d x : Nat} {fs : List Value} {σ σ1 : XS} {v : Nat → Int64} {a1 a2 : Int32} (hls : l.stackTraces = false) (hc : xcallX N d 80 [.ref x, .int a1, .int a2] σ = some (2, σ1)) (hxn : x < σ.1) (hf : σ.2.2 x = .inl (9, fs)) : lwMet l D d yL_ask lws_ask (fun w qo => [.ref (w.1 x), .int a1, .int a2, .ref qo]) σ v 1 σ1 v (0 + (σ1.1 - σ.1 + 1)) (0 + (σ1.2.1 - σ.2.1 + 6)) := by
  refine lw_enter (by decide +kernel) rfl (fun w qo => Nat.le_of_ble_eq_true rfl) (fun p e s m args below meth c w qo cL A ls F hpt hl => ?_)
  have hl : lv_has ls 5 [(0, .ref (w.1 x)), (1, .int a1), (2, .int a2), (3, .ref qo)] := hl
  obtain ⟨hx, hb, hml, hown, hts, htn, hz, hnc, hr, hlocks, htab, hA⟩ := id F
  refine lv_aload_n hx hb dL_ask_0 rfl (lv_at hl 3 rfl) ?_
  refine lv_iconst (v := 0) hx hb dL_ask_1 (by decide) ?_
  refine lv_aload_n hx hb dL_ask_2 rfl (lv_at hl 0 rfl) ?_
  refine lv_iload_n hx hb dL_ask_3 rfl (lv_at hl 1 rfl) ?_
  refine lv_iload_n hx hb dL_ask_4 rfl (lv_at hl 2 rfl) ?_
  refine lw_callX (is := [.int a1, .int a2]) (rest := [.int 0, .ref qo]) (w := w) hls hc hx hb hml hown hts htn hA hz hpt hxn hf rfl (by decide) (xok_ints [a1, a2]) rfl (xt3 165 rfl rfl) (xt3 166 rfl rfl) (xt3 167 rfl rfl) hl.1 (Nat.le_of_ble_eq_true rfl) dL_ask_5 (by show d + 7 ≤ d + 8; omega) (by show (d + 1) * 40 + 100 ≤ (d + 2) * 40 + 100; omega) (Nat.le_refl _) (Nat.le_refl _) (fun H' locs' w' q ce hag hpt' h1 h2 h3 => ?_)
  exact lw_caught (E := 2) (nm := "java/lang/IndexOutOfBoundsException") F hpt' hag h1 h2 h3 rfl [] ⟨0, 10, 13, 21⟩ [⟨0, 10, 17, 13⟩] rfl (fun z hz => nomatch hz) (by decide) (by decide) (xt2 115 rfl rfl) (by decide) (lv_sub hl [] rfl) (by decide) dL_ask_13 dL_ask_15 rfl dL_ask_16
set_option maxRecDepth 100000 in
theorem wx_ask_0 {l : Launch} {D : va_G} {N d x : Nat} {fs : List Value} {σ σ1 : XS} {v : Nat → Int64} {a1 a2 : Int32} (hls : l.stackTraces = false) (hc : xcallX N d 80 [.ref x, .int a1, .int a2] σ = some (0, σ1)) (hxn : x < σ.1) (hf : σ.2.2 x = .inl (9, fs)) : lwMet l D d yL_ask lws_ask (fun w qo => [.ref (w.1 x), .int a1, .int a2, .ref qo]) σ v 2 σ1 v (0 + (σ1.1 - σ.1 + 1)) (0 + (σ1.2.1 - σ.2.1 + 6)) := by
  refine lw_enter (by decide +kernel) rfl (fun w qo => Nat.le_of_ble_eq_true rfl) (fun p e s m args below meth c w qo cL A ls F hpt hl => ?_)
  have hl : lv_has ls 5 [(0, .ref (w.1 x)), (1, .int a1), (2, .int a2), (3, .ref qo)] := hl
  obtain ⟨hx, hb, hml, hown, hts, htn, hz, hnc, hr, hlocks, htab, hA⟩ := id F
  refine lv_aload_n hx hb dL_ask_0 rfl (lv_at hl 3 rfl) ?_
  refine lv_iconst (v := 0) hx hb dL_ask_1 (by decide) ?_
  refine lv_aload_n hx hb dL_ask_2 rfl (lv_at hl 0 rfl) ?_
  refine lv_iload_n hx hb dL_ask_3 rfl (lv_at hl 1 rfl) ?_
  refine lv_iload_n hx hb dL_ask_4 rfl (lv_at hl 2 rfl) ?_
  refine lw_callX (is := [.int a1, .int a2]) (rest := [.int 0, .ref qo]) (w := w) hls hc hx hb hml hown hts htn hA hz hpt hxn hf rfl (by decide) (xok_ints [a1, a2]) rfl (xt3 165 rfl rfl) (xt3 166 rfl rfl) (xt3 167 rfl rfl) hl.1 (Nat.le_of_ble_eq_true rfl) dL_ask_5 (by show d + 7 ≤ d + 8; omega) (by show (d + 1) * 40 + 100 ≤ (d + 2) * 40 + 100; omega) (Nat.le_refl _) (Nat.le_refl _) (fun H' locs' w' q ce hag hpt' h1 h2 h3 => ?_)
  exact lw_caught (E := 0) (nm := "java/lang/IllegalArgumentException") F hpt' hag h1 h2 h3 rfl [⟨0, 10, 13, 21⟩] ⟨0, 10, 17, 13⟩ [] rfl (List.forall_mem_cons.mpr ⟨⟨by decide, "java/lang/IndexOutOfBoundsException", (xt2 115 rfl rfl), by decide⟩, fun z hz => nomatch hz⟩) (by decide) (by decide) (xt2 11 rfl rfl) (by decide) (lv_sub hl [] rfl) (by decide) dL_ask_17 dL_ask_19 rfl dL_ask_20
def lws_reply : List Cond := .codeWith yL_reply cL_reply 5 (some .int) [(0, 10, 13, 21)] :: xT
set_option maxRecDepth 100000 in
theorem wn_reply {l : Launch} {D : va_G} {N d x : Nat} {fs : List Value} {σ σ1 : XS} {v : Nat → Int64} {a1 a2 : Int32} {r : Int32} (hc : xcall N d 81 [.ref x, .int a1, .int a2] σ = some (some (.int r), σ1)) (hxn : x < σ.1) (hf : σ.2.2 x = .inl (9, fs)) : lwMet l D d yL_reply lws_reply (fun w qo => [.ref (w.1 x), .int a1, .int a2, .ref qo]) σ v 0 σ1 (vp_updL v 0 r.toInt64) (0 + (σ1.1 - σ.1)) (0 + (σ1.2.1 - σ.2.1)) := by
  refine lw_enter (by decide +kernel) rfl (fun w qo => Nat.le_of_ble_eq_true rfl) (fun p e s m args below meth c w qo cL A ls F hpt hl => ?_)
  have hl : lv_has ls 5 [(0, .ref (w.1 x)), (1, .int a1), (2, .int a2), (3, .ref qo)] := hl
  obtain ⟨hx, hb, hml, hown, hts, htn, hz, hnc, hr, hlocks, htab, hA⟩ := id F
  refine lv_aload_n hx hb dL_reply_0 rfl (lv_at hl 3 rfl) ?_
  refine lv_iconst (v := 0) hx hb dL_reply_1 (by decide) ?_
  refine lv_aload_n hx hb dL_reply_2 rfl (lv_at hl 0 rfl) ?_
  refine lv_iload_n hx hb dL_reply_3 rfl (lv_at hl 1 rfl) ?_
  refine lv_iload_n hx hb dL_reply_4 rfl (lv_at hl 2 rfl) ?_
  refine lw_callN (is := [.int a1, .int a2]) (rest := [.int 0, .ref qo]) (w := w) hc hx hb hml hown hts htn hA hpt hxn hf rfl (by decide) (xok_ints [a1, a2]) rfl (xt3 176 rfl rfl) (xt3 177 rfl rfl) (xt3 178 rfl rfl) hl.1 (Nat.le_of_ble_eq_true rfl) dL_reply_5 (by show d + 1 ≤ d + 8; omega) (by show (d + 1) * 40 ≤ (d + 2) * 40 + 100; omega) (Nat.le_refl _) (Nat.le_refl _) (fun H' locs' w' hag hpt' => ?_)
  refine lv_i2l hx hb dL_reply_8 rfl ?_
  exact lw_tailL F hpt' hag dL_reply_9 dL_reply_10 (by decide) dL_reply_17 dL_reply_18
set_option maxRecDepth 100000 in
theorem wx_reply_2 {l : Launch} {D : va_G} {N d x : Nat} {fs : List Value} {σ σ1 : XS} {v : Nat → Int64} {a1 a2 : Int32} (hls : l.stackTraces = false) (hc : xcallX N d 81 [.ref x, .int a1, .int a2] σ = some (2, σ1)) (hxn : x < σ.1) (hf : σ.2.2 x = .inl (9, fs)) : lwMet l D d yL_reply lws_reply (fun w qo => [.ref (w.1 x), .int a1, .int a2, .ref qo]) σ v 1 σ1 v (0 + (σ1.1 - σ.1 + 1)) (0 + (σ1.2.1 - σ.2.1 + 6)) := by
  refine lw_enter (by decide +kernel) rfl (fun w qo => Nat.le_of_ble_eq_true rfl) (fun p e s m args below meth c w qo cL A ls F hpt hl => ?_)
  have hl : lv_has ls 5 [(0, .ref (w.1 x)), (1, .int a1), (2, .int a2), (3, .ref qo)] := hl
  obtain ⟨hx, hb, hml, hown, hts, htn, hz, hnc, hr, hlocks, htab, hA⟩ := id F
  refine lv_aload_n hx hb dL_reply_0 rfl (lv_at hl 3 rfl) ?_
  refine lv_iconst (v := 0) hx hb dL_reply_1 (by decide) ?_
  refine lv_aload_n hx hb dL_reply_2 rfl (lv_at hl 0 rfl) ?_
  refine lv_iload_n hx hb dL_reply_3 rfl (lv_at hl 1 rfl) ?_
  refine lv_iload_n hx hb dL_reply_4 rfl (lv_at hl 2 rfl) ?_
  refine lw_callX (is := [.int a1, .int a2]) (rest := [.int 0, .ref qo]) (w := w) hls hc hx hb hml hown hts htn hA hz hpt hxn hf rfl (by decide) (xok_ints [a1, a2]) rfl (xt3 176 rfl rfl) (xt3 177 rfl rfl) (xt3 178 rfl rfl) hl.1 (Nat.le_of_ble_eq_true rfl) dL_reply_5 (by show d + 7 ≤ d + 8; omega) (by show (d + 1) * 40 + 100 ≤ (d + 2) * 40 + 100; omega) (Nat.le_refl _) (Nat.le_refl _) (fun H' locs' w' q ce hag hpt' h1 h2 h3 => ?_)
  exact lw_caught (E := 2) (nm := "java/lang/IndexOutOfBoundsException") F hpt' hag h1 h2 h3 rfl [] ⟨0, 10, 13, 21⟩ [] rfl (fun z hz => nomatch hz) (by decide) (by decide) (xt2 115 rfl rfl) (by decide) (lv_sub hl [] rfl) (by decide) dL_reply_13 dL_reply_15 rfl dL_reply_16
def lws_lie : List Cond := .codeWith yL_lie cL_lie 4 (some .int) [(0, 16, 19, 21)] :: xT
set_option maxRecDepth 100000 in
theorem wn_lie {l : Launch} {D : va_G} {N d x : Nat} {fs : List Value} {σ σ1 : XS} {v : Nat → Int64} {a1 : Int32} {r : Int32} (hc : xcall N d 82 [.ref x, .int a1] σ = some (some (.int r), σ1)) (hxn : x < σ.1) (hf : σ.2.2 x = .inl (9, fs)) : lwMet l D d yL_lie lws_lie (fun w qo => [.ref (w.1 x), .int a1, .ref qo]) σ v 0 σ1 (vp_updL v 0 (if r = 0 then 0 else 1)) (0 + (σ1.1 - σ.1)) (0 + (σ1.2.1 - σ.2.1)) := by
  refine lw_enter (by decide +kernel) rfl (fun w qo => Nat.le_of_ble_eq_true rfl) (fun p e s m args below meth c w qo cL A ls F hpt hl => ?_)
  have hl : lv_has ls 4 [(0, .ref (w.1 x)), (1, .int a1), (2, .ref qo)] := hl
  obtain ⟨hx, hb, hml, hown, hts, htn, hz, hnc, hr, hlocks, htab, hA⟩ := id F
  refine lv_aload_n hx hb dL_lie_0 rfl (lv_at hl 2 rfl) ?_
  refine lv_iconst (v := 0) hx hb dL_lie_1 (by decide) ?_
  refine lv_aload_n hx hb dL_lie_2 rfl (lv_at hl 0 rfl) ?_
  refine lv_iload_n hx hb dL_lie_3 rfl (lv_at hl 1 rfl) ?_
  refine lw_callN (is := [.int a1]) (rest := [.int 0, .ref qo]) (w := w) hc hx hb hml hown hts htn hA hpt hxn hf rfl (by decide) (xok_ints [a1]) rfl (xt3 204 rfl rfl) (xt3 205 rfl rfl) (xt3 206 rfl rfl) hl.1 (Nat.le_of_ble_eq_true rfl) dL_lie_4 (by show d + 1 ≤ d + 8; omega) (by show (d + 1) * 40 ≤ (d + 2) * 40 + 100; omega) (Nat.le_refl _) (Nat.le_refl _) (fun H' locs' w' hag hpt' => ?_)
  refine lv_if_eq (tgt := 14) hx hb dL_lie_7 (by decide) (fun hc0 => ?_) (fun hc0 => ?_)
  · rw [if_pos hc0]
    refine lv_lconst (v := 0) hx hb dL_lie_14 (by decide) ?_
    exact lw_tailL F hpt' hag dL_lie_15 dL_lie_16 (by decide) dL_lie_22 dL_lie_23
  · rw [if_neg hc0]
    refine lv_lconst (v := 1) hx hb dL_lie_10 (by decide) ?_
    refine lv_goto (tgt := 15) hx hb dL_lie_11 (by decide) ?_
    exact lw_tailL F hpt' hag dL_lie_15 dL_lie_16 (by decide) dL_lie_22 dL_lie_23
set_option maxRecDepth 100000 in
theorem wx_lie_2 {l : Launch} {D : va_G} {N d x : Nat} {fs : List Value} {σ σ1 : XS} {v : Nat → Int64} {a1 : Int32} (hls : l.stackTraces = false) (hc : xcallX N d 82 [.ref x, .int a1] σ = some (2, σ1)) (hxn : x < σ.1) (hf : σ.2.2 x = .inl (9, fs)) : lwMet l D d yL_lie lws_lie (fun w qo => [.ref (w.1 x), .int a1, .ref qo]) σ v 1 σ1 v (0 + (σ1.1 - σ.1 + 1)) (0 + (σ1.2.1 - σ.2.1 + 6)) := by
  refine lw_enter (by decide +kernel) rfl (fun w qo => Nat.le_of_ble_eq_true rfl) (fun p e s m args below meth c w qo cL A ls F hpt hl => ?_)
  have hl : lv_has ls 4 [(0, .ref (w.1 x)), (1, .int a1), (2, .ref qo)] := hl
  obtain ⟨hx, hb, hml, hown, hts, htn, hz, hnc, hr, hlocks, htab, hA⟩ := id F
  refine lv_aload_n hx hb dL_lie_0 rfl (lv_at hl 2 rfl) ?_
  refine lv_iconst (v := 0) hx hb dL_lie_1 (by decide) ?_
  refine lv_aload_n hx hb dL_lie_2 rfl (lv_at hl 0 rfl) ?_
  refine lv_iload_n hx hb dL_lie_3 rfl (lv_at hl 1 rfl) ?_
  refine lw_callX (is := [.int a1]) (rest := [.int 0, .ref qo]) (w := w) hls hc hx hb hml hown hts htn hA hz hpt hxn hf rfl (by decide) (xok_ints [a1]) rfl (xt3 204 rfl rfl) (xt3 205 rfl rfl) (xt3 206 rfl rfl) hl.1 (Nat.le_of_ble_eq_true rfl) dL_lie_4 (by show d + 7 ≤ d + 8; omega) (by show (d + 1) * 40 + 100 ≤ (d + 2) * 40 + 100; omega) (Nat.le_refl _) (Nat.le_refl _) (fun H' locs' w' q ce hag hpt' h1 h2 h3 => ?_)
  exact lw_caught1 (E := 2) (nm := "java/lang/IndexOutOfBoundsException") F hpt' hag h1 h2 h3 rfl [] ⟨0, 16, 19, 21⟩ [] rfl (fun z hz => nomatch hz) (by decide) (by decide) (xt2 115 rfl rfl) (by decide) (lv_sub hl [] rfl) (by decide) dL_lie_19 dL_lie_20 rfl dL_lie_21
def lws_certify : List Cond := .codeWith yL_certify cL_certify 8 (some .int) [(0, 16, 19, 21), (0, 16, 23, 15), (0, 16, 27, 13)] :: xT
set_option maxRecDepth 100000 in
theorem wn_certify {l : Launch} {D : va_G} {N d x : Nat} {fs : List Value} {σ σ1 : XS} {v : Nat → Int64} {a1 a2 a3 a4 a5 : Int32} {r : Int32} (hc : xcall N d 83 [.ref x, .int a1, .int a2, .int a3, .int a4, .int a5] σ = some (some (.int r), σ1)) (hxn : x < σ.1) (hf : σ.2.2 x = .inl (9, fs)) : lwMet l D d yL_certify lws_certify (fun w qo => [.ref (w.1 x), .int a1, .int a2, .int a3, .int a4, .int a5, .ref qo]) σ v 0 σ1 (vp_updL v 0 r.toInt64) (0 + (σ1.1 - σ.1)) (0 + (σ1.2.1 - σ.2.1)) := by
  refine lw_enter (by decide +kernel) rfl (fun w qo => Nat.le_of_ble_eq_true rfl) (fun p e s m args below meth c w qo cL A ls F hpt hl => ?_)
  have hl : lv_has ls 8 [(0, .ref (w.1 x)), (1, .int a1), (2, .int a2), (3, .int a3), (4, .int a4), (5, .int a5), (6, .ref qo)] := hl
  obtain ⟨hx, hb, hml, hown, hts, htn, hz, hnc, hr, hlocks, htab, hA⟩ := id F
  refine lv_aload hx hb dL_certify_0 (lv_at hl 6 rfl) ?_
  refine lv_iconst (v := 0) hx hb dL_certify_2 (by decide) ?_
  refine lv_aload_n hx hb dL_certify_3 rfl (lv_at hl 0 rfl) ?_
  refine lv_iload_n hx hb dL_certify_4 rfl (lv_at hl 1 rfl) ?_
  refine lv_iload_n hx hb dL_certify_5 rfl (lv_at hl 2 rfl) ?_
  refine lv_iload_n hx hb dL_certify_6 rfl (lv_at hl 3 rfl) ?_
  refine lv_iload hx hb dL_certify_7 (lv_at hl 4 rfl) ?_
  refine lv_iload hx hb dL_certify_9 (lv_at hl 5 rfl) ?_
  refine lw_callN (is := [.int a1, .int a2, .int a3, .int a4, .int a5]) (rest := [.int 0, .ref qo]) (w := w) hc hx hb hml hown hts htn hA hpt hxn hf rfl (by decide) (xok_ints [a1, a2, a3, a4, a5]) rfl (xt3 215 rfl rfl) (xt3 216 rfl rfl) (xt3 217 rfl rfl) hl.1 (Nat.le_of_ble_eq_true rfl) dL_certify_11 (by show d + 1 ≤ d + 8; omega) (by show (d + 1) * 40 ≤ (d + 2) * 40 + 100; omega) (Nat.le_refl _) (Nat.le_refl _) (fun H' locs' w' hag hpt' => ?_)
  refine lv_i2l hx hb dL_certify_14 rfl ?_
  exact lw_tailL F hpt' hag dL_certify_15 dL_certify_16 (by decide) dL_certify_31 dL_certify_32
set_option maxRecDepth 100000 in
theorem wx_certify_2 {l : Launch} {D : va_G} {N d x : Nat} {fs : List Value} {σ σ1 : XS} {v : Nat → Int64} {a1 a2 a3 a4 a5 : Int32} (hls : l.stackTraces = false) (hc : xcallX N d 83 [.ref x, .int a1, .int a2, .int a3, .int a4, .int a5] σ = some (2, σ1)) (hxn : x < σ.1) (hf : σ.2.2 x = .inl (9, fs)) : lwMet l D d yL_certify lws_certify (fun w qo => [.ref (w.1 x), .int a1, .int a2, .int a3, .int a4, .int a5, .ref qo]) σ v 1 σ1 v (0 + (σ1.1 - σ.1 + 1)) (0 + (σ1.2.1 - σ.2.1 + 6)) := by
  refine lw_enter (by decide +kernel) rfl (fun w qo => Nat.le_of_ble_eq_true rfl) (fun p e s m args below meth c w qo cL A ls F hpt hl => ?_)
  have hl : lv_has ls 8 [(0, .ref (w.1 x)), (1, .int a1), (2, .int a2), (3, .int a3), (4, .int a4), (5, .int a5), (6, .ref qo)] := hl
  obtain ⟨hx, hb, hml, hown, hts, htn, hz, hnc, hr, hlocks, htab, hA⟩ := id F
  refine lv_aload hx hb dL_certify_0 (lv_at hl 6 rfl) ?_
  refine lv_iconst (v := 0) hx hb dL_certify_2 (by decide) ?_
  refine lv_aload_n hx hb dL_certify_3 rfl (lv_at hl 0 rfl) ?_
  refine lv_iload_n hx hb dL_certify_4 rfl (lv_at hl 1 rfl) ?_
  refine lv_iload_n hx hb dL_certify_5 rfl (lv_at hl 2 rfl) ?_
  refine lv_iload_n hx hb dL_certify_6 rfl (lv_at hl 3 rfl) ?_
  refine lv_iload hx hb dL_certify_7 (lv_at hl 4 rfl) ?_
  refine lv_iload hx hb dL_certify_9 (lv_at hl 5 rfl) ?_
  refine lw_callX (is := [.int a1, .int a2, .int a3, .int a4, .int a5]) (rest := [.int 0, .ref qo]) (w := w) hls hc hx hb hml hown hts htn hA hz hpt hxn hf rfl (by decide) (xok_ints [a1, a2, a3, a4, a5]) rfl (xt3 215 rfl rfl) (xt3 216 rfl rfl) (xt3 217 rfl rfl) hl.1 (Nat.le_of_ble_eq_true rfl) dL_certify_11 (by show d + 7 ≤ d + 8; omega) (by show (d + 1) * 40 + 100 ≤ (d + 2) * 40 + 100; omega) (Nat.le_refl _) (Nat.le_refl _) (fun H' locs' w' q ce hag hpt' h1 h2 h3 => ?_)
  exact lw_caught (E := 2) (nm := "java/lang/IndexOutOfBoundsException") F hpt' hag h1 h2 h3 rfl [] ⟨0, 16, 19, 21⟩ [⟨0, 16, 23, 15⟩, ⟨0, 16, 27, 13⟩] rfl (fun z hz => nomatch hz) (by decide) (by decide) (xt2 115 rfl rfl) (by decide) (lv_sub hl [] rfl) (by decide) dL_certify_19 dL_certify_21 rfl dL_certify_22
set_option maxRecDepth 100000 in
theorem wx_certify_1 {l : Launch} {D : va_G} {N d x : Nat} {fs : List Value} {σ σ1 : XS} {v : Nat → Int64} {a1 a2 a3 a4 a5 : Int32} (hls : l.stackTraces = false) (hc : xcallX N d 83 [.ref x, .int a1, .int a2, .int a3, .int a4, .int a5] σ = some (1, σ1)) (hxn : x < σ.1) (hf : σ.2.2 x = .inl (9, fs)) : lwMet l D d yL_certify lws_certify (fun w qo => [.ref (w.1 x), .int a1, .int a2, .int a3, .int a4, .int a5, .ref qo]) σ v 2 σ1 v (0 + (σ1.1 - σ.1 + 1)) (0 + (σ1.2.1 - σ.2.1 + 6)) := by
  refine lw_enter (by decide +kernel) rfl (fun w qo => Nat.le_of_ble_eq_true rfl) (fun p e s m args below meth c w qo cL A ls F hpt hl => ?_)
  have hl : lv_has ls 8 [(0, .ref (w.1 x)), (1, .int a1), (2, .int a2), (3, .int a3), (4, .int a4), (5, .int a5), (6, .ref qo)] := hl
  obtain ⟨hx, hb, hml, hown, hts, htn, hz, hnc, hr, hlocks, htab, hA⟩ := id F
  refine lv_aload hx hb dL_certify_0 (lv_at hl 6 rfl) ?_
  refine lv_iconst (v := 0) hx hb dL_certify_2 (by decide) ?_
  refine lv_aload_n hx hb dL_certify_3 rfl (lv_at hl 0 rfl) ?_
  refine lv_iload_n hx hb dL_certify_4 rfl (lv_at hl 1 rfl) ?_
  refine lv_iload_n hx hb dL_certify_5 rfl (lv_at hl 2 rfl) ?_
  refine lv_iload_n hx hb dL_certify_6 rfl (lv_at hl 3 rfl) ?_
  refine lv_iload hx hb dL_certify_7 (lv_at hl 4 rfl) ?_
  refine lv_iload hx hb dL_certify_9 (lv_at hl 5 rfl) ?_
  refine lw_callX (is := [.int a1, .int a2, .int a3, .int a4, .int a5]) (rest := [.int 0, .ref qo]) (w := w) hls hc hx hb hml hown hts htn hA hz hpt hxn hf rfl (by decide) (xok_ints [a1, a2, a3, a4, a5]) rfl (xt3 215 rfl rfl) (xt3 216 rfl rfl) (xt3 217 rfl rfl) hl.1 (Nat.le_of_ble_eq_true rfl) dL_certify_11 (by show d + 7 ≤ d + 8; omega) (by show (d + 1) * 40 + 100 ≤ (d + 2) * 40 + 100; omega) (Nat.le_refl _) (Nat.le_refl _) (fun H' locs' w' q ce hag hpt' h1 h2 h3 => ?_)
  exact lw_caught (E := 1) (nm := "java/lang/IllegalStateException") F hpt' hag h1 h2 h3 rfl [⟨0, 16, 19, 21⟩] ⟨0, 16, 23, 15⟩ [⟨0, 16, 27, 13⟩] rfl (List.forall_mem_cons.mpr ⟨⟨by decide, "java/lang/IndexOutOfBoundsException", (xt2 115 rfl rfl), by decide⟩, fun z hz => nomatch hz⟩) (by decide) (by decide) (xt2 12 rfl rfl) (by decide) (lv_sub hl [] rfl) (by decide) dL_certify_23 dL_certify_25 rfl dL_certify_26
set_option maxRecDepth 100000 in
theorem wx_certify_0 {l : Launch} {D : va_G} {N d x : Nat} {fs : List Value} {σ σ1 : XS} {v : Nat → Int64} {a1 a2 a3 a4 a5 : Int32} (hls : l.stackTraces = false) (hc : xcallX N d 83 [.ref x, .int a1, .int a2, .int a3, .int a4, .int a5] σ = some (0, σ1)) (hxn : x < σ.1) (hf : σ.2.2 x = .inl (9, fs)) : lwMet l D d yL_certify lws_certify (fun w qo => [.ref (w.1 x), .int a1, .int a2, .int a3, .int a4, .int a5, .ref qo]) σ v 3 σ1 v (0 + (σ1.1 - σ.1 + 1)) (0 + (σ1.2.1 - σ.2.1 + 6)) := by
  refine lw_enter (by decide +kernel) rfl (fun w qo => Nat.le_of_ble_eq_true rfl) (fun p e s m args below meth c w qo cL A ls F hpt hl => ?_)
  have hl : lv_has ls 8 [(0, .ref (w.1 x)), (1, .int a1), (2, .int a2), (3, .int a3), (4, .int a4), (5, .int a5), (6, .ref qo)] := hl
  obtain ⟨hx, hb, hml, hown, hts, htn, hz, hnc, hr, hlocks, htab, hA⟩ := id F
  refine lv_aload hx hb dL_certify_0 (lv_at hl 6 rfl) ?_
  refine lv_iconst (v := 0) hx hb dL_certify_2 (by decide) ?_
  refine lv_aload_n hx hb dL_certify_3 rfl (lv_at hl 0 rfl) ?_
  refine lv_iload_n hx hb dL_certify_4 rfl (lv_at hl 1 rfl) ?_
  refine lv_iload_n hx hb dL_certify_5 rfl (lv_at hl 2 rfl) ?_
  refine lv_iload_n hx hb dL_certify_6 rfl (lv_at hl 3 rfl) ?_
  refine lv_iload hx hb dL_certify_7 (lv_at hl 4 rfl) ?_
  refine lv_iload hx hb dL_certify_9 (lv_at hl 5 rfl) ?_
  refine lw_callX (is := [.int a1, .int a2, .int a3, .int a4, .int a5]) (rest := [.int 0, .ref qo]) (w := w) hls hc hx hb hml hown hts htn hA hz hpt hxn hf rfl (by decide) (xok_ints [a1, a2, a3, a4, a5]) rfl (xt3 215 rfl rfl) (xt3 216 rfl rfl) (xt3 217 rfl rfl) hl.1 (Nat.le_of_ble_eq_true rfl) dL_certify_11 (by show d + 7 ≤ d + 8; omega) (by show (d + 1) * 40 + 100 ≤ (d + 2) * 40 + 100; omega) (Nat.le_refl _) (Nat.le_refl _) (fun H' locs' w' q ce hag hpt' h1 h2 h3 => ?_)
  exact lw_caught (E := 0) (nm := "java/lang/IllegalArgumentException") F hpt' hag h1 h2 h3 rfl [⟨0, 16, 19, 21⟩, ⟨0, 16, 23, 15⟩] ⟨0, 16, 27, 13⟩ [] rfl (List.forall_mem_cons.mpr ⟨⟨by decide, "java/lang/IndexOutOfBoundsException", (xt2 115 rfl rfl), by decide⟩, List.forall_mem_cons.mpr ⟨⟨by decide, "java/lang/IllegalStateException", (xt2 12 rfl rfl), by decide⟩, fun z hz => nomatch hz⟩⟩) (by decide) (by decide) (xt2 11 rfl rfl) (by decide) (lv_sub hl [] rfl) (by decide) dL_certify_27 dL_certify_29 rfl dL_certify_30
def lws_askFor : List Cond := .codeWith yL_askFor cL_askFor 4 (some .int) [(0, 6, 9, 21), (0, 6, 12, 15), (0, 6, 15, 13)] :: xT
set_option maxRecDepth 100000 in
theorem wn_askFor {l : Launch} {D : va_G} {N d x : Nat} {fs : List Value} {σ σ1 : XS} {v : Nat → Int64} {a1 a2 : Int32}  (hc : xcall N d 84 [.ref x, .int a1, .int a2] σ = some (none, σ1)) (hxn : x < σ.1) (hf : σ.2.2 x = .inl (9, fs)) : lwMet l D d yL_askFor lws_askFor (fun w qo => [.ref (w.1 x), .int a1, .int a2]) σ v 0 σ1 v (0 + (σ1.1 - σ.1)) (0 + (σ1.2.1 - σ.2.1)) := by
  refine lw_enter (by decide +kernel) rfl (fun w qo => Nat.le_of_ble_eq_true rfl) (fun p e s m args below meth c w qo cL A ls F hpt hl => ?_)
  have hl : lv_has ls 4 [(0, .ref (w.1 x)), (1, .int a1), (2, .int a2)] := hl
  obtain ⟨hx, hb, hml, hown, hts, htn, hz, hnc, hr, hlocks, htab, hA⟩ := id F
  refine lv_aload_n hx hb dL_askFor_0 rfl (lv_at hl 0 rfl) ?_
  refine lv_iload_n hx hb dL_askFor_1 rfl (lv_at hl 1 rfl) ?_
  refine lv_iload_n hx hb dL_askFor_2 rfl (lv_at hl 2 rfl) ?_
  refine lw_callN (is := [.int a1, .int a2]) (rest := []) (w := w) hc hx hb hml hown hts htn hA hpt hxn hf rfl (by decide) (xok_ints [a1, a2]) rfl (xt3 238 rfl rfl) (xt3 239 rfl rfl) (xt4 0 rfl rfl) hl.1 (Nat.le_of_ble_eq_true rfl) dL_askFor_3 (by show d + 1 ≤ d + 8; omega) (by show (d + 1) * 40 ≤ (d + 2) * 40 + 100; omega) (Nat.le_refl _) (Nat.le_refl _) (fun H' locs' w' hag hpt' => ?_)
  refine lv_goto (tgt := 18) hx hb dL_askFor_6 (by decide) ?_
  refine lv_iconst (v := 0) hx hb dL_askFor_18 (by decide) ?_
  exact lw_ret1 F hpt' hag dL_askFor_19
set_option maxRecDepth 100000 in
theorem wx_askFor_2 {l : Launch} {D : va_G} {N d x : Nat} {fs : List Value} {σ σ1 : XS} {v : Nat → Int64} {a1 a2 : Int32} (hls : l.stackTraces = false) (hc : xcallX N d 84 [.ref x, .int a1, .int a2] σ = some (2, σ1)) (hxn : x < σ.1) (hf : σ.2.2 x = .inl (9, fs)) : lwMet l D d yL_askFor lws_askFor (fun w qo => [.ref (w.1 x), .int a1, .int a2]) σ v 1 σ1 v (0 + (σ1.1 - σ.1 + 1)) (0 + (σ1.2.1 - σ.2.1 + 6)) := by
  refine lw_enter (by decide +kernel) rfl (fun w qo => Nat.le_of_ble_eq_true rfl) (fun p e s m args below meth c w qo cL A ls F hpt hl => ?_)
  have hl : lv_has ls 4 [(0, .ref (w.1 x)), (1, .int a1), (2, .int a2)] := hl
  obtain ⟨hx, hb, hml, hown, hts, htn, hz, hnc, hr, hlocks, htab, hA⟩ := id F
  refine lv_aload_n hx hb dL_askFor_0 rfl (lv_at hl 0 rfl) ?_
  refine lv_iload_n hx hb dL_askFor_1 rfl (lv_at hl 1 rfl) ?_
  refine lv_iload_n hx hb dL_askFor_2 rfl (lv_at hl 2 rfl) ?_
  refine lw_callX (is := [.int a1, .int a2]) (rest := []) (w := w) hls hc hx hb hml hown hts htn hA hz hpt hxn hf rfl (by decide) (xok_ints [a1, a2]) rfl (xt3 238 rfl rfl) (xt3 239 rfl rfl) (xt4 0 rfl rfl) hl.1 (Nat.le_of_ble_eq_true rfl) dL_askFor_3 (by show d + 7 ≤ d + 8; omega) (by show (d + 1) * 40 + 100 ≤ (d + 2) * 40 + 100; omega) (Nat.le_refl _) (Nat.le_refl _) (fun H' locs' w' q ce hag hpt' h1 h2 h3 => ?_)
  exact lw_caught1 (E := 2) (nm := "java/lang/IndexOutOfBoundsException") F hpt' hag h1 h2 h3 rfl [] ⟨0, 6, 9, 21⟩ [⟨0, 6, 12, 15⟩, ⟨0, 6, 15, 13⟩] rfl (fun z hz => nomatch hz) (by decide) (by decide) (xt2 115 rfl rfl) (by decide) (lv_sub hl [] rfl) (by decide) dL_askFor_9 dL_askFor_10 rfl dL_askFor_11
set_option maxRecDepth 100000 in
theorem wx_askFor_1 {l : Launch} {D : va_G} {N d x : Nat} {fs : List Value} {σ σ1 : XS} {v : Nat → Int64} {a1 a2 : Int32} (hls : l.stackTraces = false) (hc : xcallX N d 84 [.ref x, .int a1, .int a2] σ = some (1, σ1)) (hxn : x < σ.1) (hf : σ.2.2 x = .inl (9, fs)) : lwMet l D d yL_askFor lws_askFor (fun w qo => [.ref (w.1 x), .int a1, .int a2]) σ v 2 σ1 v (0 + (σ1.1 - σ.1 + 1)) (0 + (σ1.2.1 - σ.2.1 + 6)) := by
  refine lw_enter (by decide +kernel) rfl (fun w qo => Nat.le_of_ble_eq_true rfl) (fun p e s m args below meth c w qo cL A ls F hpt hl => ?_)
  have hl : lv_has ls 4 [(0, .ref (w.1 x)), (1, .int a1), (2, .int a2)] := hl
  obtain ⟨hx, hb, hml, hown, hts, htn, hz, hnc, hr, hlocks, htab, hA⟩ := id F
  refine lv_aload_n hx hb dL_askFor_0 rfl (lv_at hl 0 rfl) ?_
  refine lv_iload_n hx hb dL_askFor_1 rfl (lv_at hl 1 rfl) ?_
  refine lv_iload_n hx hb dL_askFor_2 rfl (lv_at hl 2 rfl) ?_
  refine lw_callX (is := [.int a1, .int a2]) (rest := []) (w := w) hls hc hx hb hml hown hts htn hA hz hpt hxn hf rfl (by decide) (xok_ints [a1, a2]) rfl (xt3 238 rfl rfl) (xt3 239 rfl rfl) (xt4 0 rfl rfl) hl.1 (Nat.le_of_ble_eq_true rfl) dL_askFor_3 (by show d + 7 ≤ d + 8; omega) (by show (d + 1) * 40 + 100 ≤ (d + 2) * 40 + 100; omega) (Nat.le_refl _) (Nat.le_refl _) (fun H' locs' w' q ce hag hpt' h1 h2 h3 => ?_)
  exact lw_caught1 (E := 1) (nm := "java/lang/IllegalStateException") F hpt' hag h1 h2 h3 rfl [⟨0, 6, 9, 21⟩] ⟨0, 6, 12, 15⟩ [⟨0, 6, 15, 13⟩] rfl (List.forall_mem_cons.mpr ⟨⟨by decide, "java/lang/IndexOutOfBoundsException", (xt2 115 rfl rfl), by decide⟩, fun z hz => nomatch hz⟩) (by decide) (by decide) (xt2 12 rfl rfl) (by decide) (lv_sub hl [] rfl) (by decide) dL_askFor_12 dL_askFor_13 rfl dL_askFor_14
set_option maxRecDepth 100000 in
theorem wx_askFor_0 {l : Launch} {D : va_G} {N d x : Nat} {fs : List Value} {σ σ1 : XS} {v : Nat → Int64} {a1 a2 : Int32} (hls : l.stackTraces = false) (hc : xcallX N d 84 [.ref x, .int a1, .int a2] σ = some (0, σ1)) (hxn : x < σ.1) (hf : σ.2.2 x = .inl (9, fs)) : lwMet l D d yL_askFor lws_askFor (fun w qo => [.ref (w.1 x), .int a1, .int a2]) σ v 3 σ1 v (0 + (σ1.1 - σ.1 + 1)) (0 + (σ1.2.1 - σ.2.1 + 6)) := by
  refine lw_enter (by decide +kernel) rfl (fun w qo => Nat.le_of_ble_eq_true rfl) (fun p e s m args below meth c w qo cL A ls F hpt hl => ?_)
  have hl : lv_has ls 4 [(0, .ref (w.1 x)), (1, .int a1), (2, .int a2)] := hl
  obtain ⟨hx, hb, hml, hown, hts, htn, hz, hnc, hr, hlocks, htab, hA⟩ := id F
  refine lv_aload_n hx hb dL_askFor_0 rfl (lv_at hl 0 rfl) ?_
  refine lv_iload_n hx hb dL_askFor_1 rfl (lv_at hl 1 rfl) ?_
  refine lv_iload_n hx hb dL_askFor_2 rfl (lv_at hl 2 rfl) ?_
  refine lw_callX (is := [.int a1, .int a2]) (rest := []) (w := w) hls hc hx hb hml hown hts htn hA hz hpt hxn hf rfl (by decide) (xok_ints [a1, a2]) rfl (xt3 238 rfl rfl) (xt3 239 rfl rfl) (xt4 0 rfl rfl) hl.1 (Nat.le_of_ble_eq_true rfl) dL_askFor_3 (by show d + 7 ≤ d + 8; omega) (by show (d + 1) * 40 + 100 ≤ (d + 2) * 40 + 100; omega) (Nat.le_refl _) (Nat.le_refl _) (fun H' locs' w' q ce hag hpt' h1 h2 h3 => ?_)
  exact lw_caught1 (E := 0) (nm := "java/lang/IllegalArgumentException") F hpt' hag h1 h2 h3 rfl [⟨0, 6, 9, 21⟩, ⟨0, 6, 12, 15⟩] ⟨0, 6, 15, 13⟩ [] rfl (List.forall_mem_cons.mpr ⟨⟨by decide, "java/lang/IndexOutOfBoundsException", (xt2 115 rfl rfl), by decide⟩, List.forall_mem_cons.mpr ⟨⟨by decide, "java/lang/IllegalStateException", (xt2 12 rfl rfl), by decide⟩, fun z hz => nomatch hz⟩⟩) (by decide) (by decide) (xt2 11 rfl rfl) (by decide) (lv_sub hl [] rfl) (by decide) dL_askFor_15 dL_askFor_16 rfl dL_askFor_17
def lws_replyWith : List Cond := .codeWith yL_replyWith cL_replyWith 5 (some .int) [(0, 7, 10, 21), (0, 7, 14, 15)] :: xT
set_option maxRecDepth 100000 in
theorem wn_replyWith {l : Launch} {D : va_G} {N d x : Nat} {fs : List Value} {σ σ1 : XS} {v : Nat → Int64} {a1 a2 a3 : Int32}  (hc : xcall N d 85 [.ref x, .int a1, .int a2, .int a3] σ = some (none, σ1)) (hxn : x < σ.1) (hf : σ.2.2 x = .inl (9, fs)) : lwMet l D d yL_replyWith lws_replyWith (fun w qo => [.ref (w.1 x), .int a1, .int a2, .int a3]) σ v 0 σ1 v (0 + (σ1.1 - σ.1)) (0 + (σ1.2.1 - σ.2.1)) := by
  refine lw_enter (by decide +kernel) rfl (fun w qo => Nat.le_of_ble_eq_true rfl) (fun p e s m args below meth c w qo cL A ls F hpt hl => ?_)
  have hl : lv_has ls 5 [(0, .ref (w.1 x)), (1, .int a1), (2, .int a2), (3, .int a3)] := hl
  obtain ⟨hx, hb, hml, hown, hts, htn, hz, hnc, hr, hlocks, htab, hA⟩ := id F
  refine lv_aload_n hx hb dL_replyWith_0 rfl (lv_at hl 0 rfl) ?_
  refine lv_iload_n hx hb dL_replyWith_1 rfl (lv_at hl 1 rfl) ?_
  refine lv_iload_n hx hb dL_replyWith_2 rfl (lv_at hl 2 rfl) ?_
  refine lv_iload_n hx hb dL_replyWith_3 rfl (lv_at hl 3 rfl) ?_
  refine lw_callN (is := [.int a1, .int a2, .int a3]) (rest := []) (w := w) hc hx hb hml hown hts htn hA hpt hxn hf rfl (by decide) (xok_ints [a1, a2, a3]) rfl (xt4 9 rfl rfl) (xt4 10 rfl rfl) (xt4 11 rfl rfl) hl.1 (Nat.le_of_ble_eq_true rfl) dL_replyWith_4 (by show d + 1 ≤ d + 8; omega) (by show (d + 1) * 40 ≤ (d + 2) * 40 + 100; omega) (Nat.le_refl _) (Nat.le_refl _) (fun H' locs' w' hag hpt' => ?_)
  refine lv_goto (tgt := 18) hx hb dL_replyWith_7 (by decide) ?_
  refine lv_iconst (v := 0) hx hb dL_replyWith_18 (by decide) ?_
  exact lw_ret1 F hpt' hag dL_replyWith_19
set_option maxRecDepth 100000 in
theorem wx_replyWith_2 {l : Launch} {D : va_G} {N d x : Nat} {fs : List Value} {σ σ1 : XS} {v : Nat → Int64} {a1 a2 a3 : Int32} (hls : l.stackTraces = false) (hc : xcallX N d 85 [.ref x, .int a1, .int a2, .int a3] σ = some (2, σ1)) (hxn : x < σ.1) (hf : σ.2.2 x = .inl (9, fs)) : lwMet l D d yL_replyWith lws_replyWith (fun w qo => [.ref (w.1 x), .int a1, .int a2, .int a3]) σ v 1 σ1 v (0 + (σ1.1 - σ.1 + 1)) (0 + (σ1.2.1 - σ.2.1 + 6)) := by
  refine lw_enter (by decide +kernel) rfl (fun w qo => Nat.le_of_ble_eq_true rfl) (fun p e s m args below meth c w qo cL A ls F hpt hl => ?_)
  have hl : lv_has ls 5 [(0, .ref (w.1 x)), (1, .int a1), (2, .int a2), (3, .int a3)] := hl
  obtain ⟨hx, hb, hml, hown, hts, htn, hz, hnc, hr, hlocks, htab, hA⟩ := id F
  refine lv_aload_n hx hb dL_replyWith_0 rfl (lv_at hl 0 rfl) ?_
  refine lv_iload_n hx hb dL_replyWith_1 rfl (lv_at hl 1 rfl) ?_
  refine lv_iload_n hx hb dL_replyWith_2 rfl (lv_at hl 2 rfl) ?_
  refine lv_iload_n hx hb dL_replyWith_3 rfl (lv_at hl 3 rfl) ?_
  refine lw_callX (is := [.int a1, .int a2, .int a3]) (rest := []) (w := w) hls hc hx hb hml hown hts htn hA hz hpt hxn hf rfl (by decide) (xok_ints [a1, a2, a3]) rfl (xt4 9 rfl rfl) (xt4 10 rfl rfl) (xt4 11 rfl rfl) hl.1 (Nat.le_of_ble_eq_true rfl) dL_replyWith_4 (by show d + 7 ≤ d + 8; omega) (by show (d + 1) * 40 + 100 ≤ (d + 2) * 40 + 100; omega) (Nat.le_refl _) (Nat.le_refl _) (fun H' locs' w' q ce hag hpt' h1 h2 h3 => ?_)
  exact lw_caught (E := 2) (nm := "java/lang/IndexOutOfBoundsException") F hpt' hag h1 h2 h3 rfl [] ⟨0, 7, 10, 21⟩ [⟨0, 7, 14, 15⟩] rfl (fun z hz => nomatch hz) (by decide) (by decide) (xt2 115 rfl rfl) (by decide) (lv_sub hl [] rfl) (by decide) dL_replyWith_10 dL_replyWith_12 rfl dL_replyWith_13
set_option maxRecDepth 100000 in
theorem wx_replyWith_1 {l : Launch} {D : va_G} {N d x : Nat} {fs : List Value} {σ σ1 : XS} {v : Nat → Int64} {a1 a2 a3 : Int32} (hls : l.stackTraces = false) (hc : xcallX N d 85 [.ref x, .int a1, .int a2, .int a3] σ = some (1, σ1)) (hxn : x < σ.1) (hf : σ.2.2 x = .inl (9, fs)) : lwMet l D d yL_replyWith lws_replyWith (fun w qo => [.ref (w.1 x), .int a1, .int a2, .int a3]) σ v 2 σ1 v (0 + (σ1.1 - σ.1 + 1)) (0 + (σ1.2.1 - σ.2.1 + 6)) := by
  refine lw_enter (by decide +kernel) rfl (fun w qo => Nat.le_of_ble_eq_true rfl) (fun p e s m args below meth c w qo cL A ls F hpt hl => ?_)
  have hl : lv_has ls 5 [(0, .ref (w.1 x)), (1, .int a1), (2, .int a2), (3, .int a3)] := hl
  obtain ⟨hx, hb, hml, hown, hts, htn, hz, hnc, hr, hlocks, htab, hA⟩ := id F
  refine lv_aload_n hx hb dL_replyWith_0 rfl (lv_at hl 0 rfl) ?_
  refine lv_iload_n hx hb dL_replyWith_1 rfl (lv_at hl 1 rfl) ?_
  refine lv_iload_n hx hb dL_replyWith_2 rfl (lv_at hl 2 rfl) ?_
  refine lv_iload_n hx hb dL_replyWith_3 rfl (lv_at hl 3 rfl) ?_
  refine lw_callX (is := [.int a1, .int a2, .int a3]) (rest := []) (w := w) hls hc hx hb hml hown hts htn hA hz hpt hxn hf rfl (by decide) (xok_ints [a1, a2, a3]) rfl (xt4 9 rfl rfl) (xt4 10 rfl rfl) (xt4 11 rfl rfl) hl.1 (Nat.le_of_ble_eq_true rfl) dL_replyWith_4 (by show d + 7 ≤ d + 8; omega) (by show (d + 1) * 40 + 100 ≤ (d + 2) * 40 + 100; omega) (Nat.le_refl _) (Nat.le_refl _) (fun H' locs' w' q ce hag hpt' h1 h2 h3 => ?_)
  exact lw_caught (E := 1) (nm := "java/lang/IllegalStateException") F hpt' hag h1 h2 h3 rfl [⟨0, 7, 10, 21⟩] ⟨0, 7, 14, 15⟩ [] rfl (List.forall_mem_cons.mpr ⟨⟨by decide, "java/lang/IndexOutOfBoundsException", (xt2 115 rfl rfl), by decide⟩, fun z hz => nomatch hz⟩) (by decide) (by decide) (xt2 12 rfl rfl) (by decide) (lv_sub hl [] rfl) (by decide) dL_replyWith_14 dL_replyWith_16 rfl dL_replyWith_17
def lws_state : List Cond := .codeWith yL_state cL_state 5 (some .int) [(0, 10, 13, 21), (0, 10, 17, 13)] :: xT
set_option maxRecDepth 100000 in
theorem wn_state {l : Launch} {D : va_G} {N d x : Nat} {fs : List Value} {σ σ1 : XS} {v : Nat → Int64} {a1 a2 : Int32} {r : Int32} (hc : xcall N d 86 [.ref x, .int a1, .int a2] σ = some (some (.int r), σ1)) (hxn : x < σ.1) (hf : σ.2.2 x = .inl (9, fs)) : lwMet l D d yL_state lws_state (fun w qo => [.ref (w.1 x), .int a1, .int a2, .ref qo]) σ v 0 σ1 (vp_updL v 0 r.toInt64) (0 + (σ1.1 - σ.1)) (0 + (σ1.2.1 - σ.2.1)) := by
  refine lw_enter (by decide +kernel) rfl (fun w qo => Nat.le_of_ble_eq_true rfl) (fun p e s m args below meth c w qo cL A ls F hpt hl => ?_)
  have hl : lv_has ls 5 [(0, .ref (w.1 x)), (1, .int a1), (2, .int a2), (3, .ref qo)] := hl
  obtain ⟨hx, hb, hml, hown, hts, htn, hz, hnc, hr, hlocks, htab, hA⟩ := id F
  refine lv_aload_n hx hb dL_state_0 rfl (lv_at hl 3 rfl) ?_
  refine lv_iconst (v := 0) hx hb dL_state_1 (by decide) ?_
  refine lv_aload_n hx hb dL_state_2 rfl (lv_at hl 0 rfl) ?_
  refine lv_iload_n hx hb dL_state_3 rfl (lv_at hl 1 rfl) ?_
  refine lv_iload_n hx hb dL_state_4 rfl (lv_at hl 2 rfl) ?_
  refine lw_callN (is := [.int a1, .int a2]) (rest := [.int 0, .ref qo]) (w := w) hc hx hb hml hown hts htn hA hpt hxn hf rfl (by decide) (xok_ints [a1, a2]) rfl (xt4 17 rfl rfl) (xt4 18 rfl rfl) (xt4 19 rfl rfl) hl.1 (Nat.le_of_ble_eq_true rfl) dL_state_5 (by show d + 1 ≤ d + 8; omega) (by show (d + 1) * 40 ≤ (d + 2) * 40 + 100; omega) (Nat.le_refl _) (Nat.le_refl _) (fun H' locs' w' hag hpt' => ?_)
  refine lv_i2l hx hb dL_state_8 rfl ?_
  exact lw_tailL F hpt' hag dL_state_9 dL_state_10 (by decide) dL_state_21 dL_state_22
set_option maxRecDepth 100000 in
theorem wx_state_2 {l : Launch} {D : va_G} {N d x : Nat} {fs : List Value} {σ σ1 : XS} {v : Nat → Int64} {a1 a2 : Int32} (hls : l.stackTraces = false) (hc : xcallX N d 86 [.ref x, .int a1, .int a2] σ = some (2, σ1)) (hxn : x < σ.1) (hf : σ.2.2 x = .inl (9, fs)) : lwMet l D d yL_state lws_state (fun w qo => [.ref (w.1 x), .int a1, .int a2, .ref qo]) σ v 1 σ1 v (0 + (σ1.1 - σ.1 + 1)) (0 + (σ1.2.1 - σ.2.1 + 6)) := by
  refine lw_enter (by decide +kernel) rfl (fun w qo => Nat.le_of_ble_eq_true rfl) (fun p e s m args below meth c w qo cL A ls F hpt hl => ?_)
  have hl : lv_has ls 5 [(0, .ref (w.1 x)), (1, .int a1), (2, .int a2), (3, .ref qo)] := hl
  obtain ⟨hx, hb, hml, hown, hts, htn, hz, hnc, hr, hlocks, htab, hA⟩ := id F
  refine lv_aload_n hx hb dL_state_0 rfl (lv_at hl 3 rfl) ?_
  refine lv_iconst (v := 0) hx hb dL_state_1 (by decide) ?_
  refine lv_aload_n hx hb dL_state_2 rfl (lv_at hl 0 rfl) ?_
  refine lv_iload_n hx hb dL_state_3 rfl (lv_at hl 1 rfl) ?_
  refine lv_iload_n hx hb dL_state_4 rfl (lv_at hl 2 rfl) ?_
  refine lw_callX (is := [.int a1, .int a2]) (rest := [.int 0, .ref qo]) (w := w) hls hc hx hb hml hown hts htn hA hz hpt hxn hf rfl (by decide) (xok_ints [a1, a2]) rfl (xt4 17 rfl rfl) (xt4 18 rfl rfl) (xt4 19 rfl rfl) hl.1 (Nat.le_of_ble_eq_true rfl) dL_state_5 (by show d + 7 ≤ d + 8; omega) (by show (d + 1) * 40 + 100 ≤ (d + 2) * 40 + 100; omega) (Nat.le_refl _) (Nat.le_refl _) (fun H' locs' w' q ce hag hpt' h1 h2 h3 => ?_)
  exact lw_caught (E := 2) (nm := "java/lang/IndexOutOfBoundsException") F hpt' hag h1 h2 h3 rfl [] ⟨0, 10, 13, 21⟩ [⟨0, 10, 17, 13⟩] rfl (fun z hz => nomatch hz) (by decide) (by decide) (xt2 115 rfl rfl) (by decide) (lv_sub hl [] rfl) (by decide) dL_state_13 dL_state_15 rfl dL_state_16
set_option maxRecDepth 100000 in
theorem wx_state_0 {l : Launch} {D : va_G} {N d x : Nat} {fs : List Value} {σ σ1 : XS} {v : Nat → Int64} {a1 a2 : Int32} (hls : l.stackTraces = false) (hc : xcallX N d 86 [.ref x, .int a1, .int a2] σ = some (0, σ1)) (hxn : x < σ.1) (hf : σ.2.2 x = .inl (9, fs)) : lwMet l D d yL_state lws_state (fun w qo => [.ref (w.1 x), .int a1, .int a2, .ref qo]) σ v 2 σ1 v (0 + (σ1.1 - σ.1 + 1)) (0 + (σ1.2.1 - σ.2.1 + 6)) := by
  refine lw_enter (by decide +kernel) rfl (fun w qo => Nat.le_of_ble_eq_true rfl) (fun p e s m args below meth c w qo cL A ls F hpt hl => ?_)
  have hl : lv_has ls 5 [(0, .ref (w.1 x)), (1, .int a1), (2, .int a2), (3, .ref qo)] := hl
  obtain ⟨hx, hb, hml, hown, hts, htn, hz, hnc, hr, hlocks, htab, hA⟩ := id F
  refine lv_aload_n hx hb dL_state_0 rfl (lv_at hl 3 rfl) ?_
  refine lv_iconst (v := 0) hx hb dL_state_1 (by decide) ?_
  refine lv_aload_n hx hb dL_state_2 rfl (lv_at hl 0 rfl) ?_
  refine lv_iload_n hx hb dL_state_3 rfl (lv_at hl 1 rfl) ?_
  refine lv_iload_n hx hb dL_state_4 rfl (lv_at hl 2 rfl) ?_
  refine lw_callX (is := [.int a1, .int a2]) (rest := [.int 0, .ref qo]) (w := w) hls hc hx hb hml hown hts htn hA hz hpt hxn hf rfl (by decide) (xok_ints [a1, a2]) rfl (xt4 17 rfl rfl) (xt4 18 rfl rfl) (xt4 19 rfl rfl) hl.1 (Nat.le_of_ble_eq_true rfl) dL_state_5 (by show d + 7 ≤ d + 8; omega) (by show (d + 1) * 40 + 100 ≤ (d + 2) * 40 + 100; omega) (Nat.le_refl _) (Nat.le_refl _) (fun H' locs' w' q ce hag hpt' h1 h2 h3 => ?_)
  exact lw_caught (E := 0) (nm := "java/lang/IllegalArgumentException") F hpt' hag h1 h2 h3 rfl [⟨0, 10, 13, 21⟩] ⟨0, 10, 17, 13⟩ [] rfl (List.forall_mem_cons.mpr ⟨⟨by decide, "java/lang/IndexOutOfBoundsException", (xt2 115 rfl rfl), by decide⟩, fun z hz => nomatch hz⟩) (by decide) (by decide) (xt2 11 rfl rfl) (by decide) (lv_sub hl [] rfl) (by decide) dL_state_17 dL_state_19 rfl dL_state_20
def lws_history : List Cond := .codeWith yL_history cL_history 5 (some .int) [(0, 10, 13, 21)] :: xT
set_option maxRecDepth 100000 in
theorem wn_history {l : Launch} {D : va_G} {N d x : Nat} {fs : List Value} {σ σ1 : XS} {v : Nat → Int64} {a1 a2 : Int32} {r : Int32} (hc : xcall N d 87 [.ref x, .int a1, .int a2] σ = some (some (.int r), σ1)) (hxn : x < σ.1) (hf : σ.2.2 x = .inl (9, fs)) : lwMet l D d yL_history lws_history (fun w qo => [.ref (w.1 x), .int a1, .int a2, .ref qo]) σ v 0 σ1 (vp_updL v 0 r.toInt64) (0 + (σ1.1 - σ.1)) (0 + (σ1.2.1 - σ.2.1)) := by
  refine lw_enter (by decide +kernel) rfl (fun w qo => Nat.le_of_ble_eq_true rfl) (fun p e s m args below meth c w qo cL A ls F hpt hl => ?_)
  have hl : lv_has ls 5 [(0, .ref (w.1 x)), (1, .int a1), (2, .int a2), (3, .ref qo)] := hl
  obtain ⟨hx, hb, hml, hown, hts, htn, hz, hnc, hr, hlocks, htab, hA⟩ := id F
  refine lv_aload_n hx hb dL_history_0 rfl (lv_at hl 3 rfl) ?_
  refine lv_iconst (v := 0) hx hb dL_history_1 (by decide) ?_
  refine lv_aload_n hx hb dL_history_2 rfl (lv_at hl 0 rfl) ?_
  refine lv_iload_n hx hb dL_history_3 rfl (lv_at hl 1 rfl) ?_
  refine lv_iload_n hx hb dL_history_4 rfl (lv_at hl 2 rfl) ?_
  refine lw_callN (is := [.int a1, .int a2]) (rest := [.int 0, .ref qo]) (w := w) hc hx hb hml hown hts htn hA hpt hxn hf rfl (by decide) (xok_ints [a1, a2]) rfl (xt4 39 rfl rfl) (xt4 40 rfl rfl) (xt4 41 rfl rfl) hl.1 (Nat.le_of_ble_eq_true rfl) dL_history_5 (by show d + 1 ≤ d + 8; omega) (by show (d + 1) * 40 ≤ (d + 2) * 40 + 100; omega) (Nat.le_refl _) (Nat.le_refl _) (fun H' locs' w' hag hpt' => ?_)
  refine lv_i2l hx hb dL_history_8 rfl ?_
  exact lw_tailL F hpt' hag dL_history_9 dL_history_10 (by decide) dL_history_17 dL_history_18
set_option maxRecDepth 100000 in
theorem wx_history_2 {l : Launch} {D : va_G} {N d x : Nat} {fs : List Value} {σ σ1 : XS} {v : Nat → Int64} {a1 a2 : Int32} (hls : l.stackTraces = false) (hc : xcallX N d 87 [.ref x, .int a1, .int a2] σ = some (2, σ1)) (hxn : x < σ.1) (hf : σ.2.2 x = .inl (9, fs)) : lwMet l D d yL_history lws_history (fun w qo => [.ref (w.1 x), .int a1, .int a2, .ref qo]) σ v 1 σ1 v (0 + (σ1.1 - σ.1 + 1)) (0 + (σ1.2.1 - σ.2.1 + 6)) := by
  refine lw_enter (by decide +kernel) rfl (fun w qo => Nat.le_of_ble_eq_true rfl) (fun p e s m args below meth c w qo cL A ls F hpt hl => ?_)
  have hl : lv_has ls 5 [(0, .ref (w.1 x)), (1, .int a1), (2, .int a2), (3, .ref qo)] := hl
  obtain ⟨hx, hb, hml, hown, hts, htn, hz, hnc, hr, hlocks, htab, hA⟩ := id F
  refine lv_aload_n hx hb dL_history_0 rfl (lv_at hl 3 rfl) ?_
  refine lv_iconst (v := 0) hx hb dL_history_1 (by decide) ?_
  refine lv_aload_n hx hb dL_history_2 rfl (lv_at hl 0 rfl) ?_
  refine lv_iload_n hx hb dL_history_3 rfl (lv_at hl 1 rfl) ?_
  refine lv_iload_n hx hb dL_history_4 rfl (lv_at hl 2 rfl) ?_
  refine lw_callX (is := [.int a1, .int a2]) (rest := [.int 0, .ref qo]) (w := w) hls hc hx hb hml hown hts htn hA hz hpt hxn hf rfl (by decide) (xok_ints [a1, a2]) rfl (xt4 39 rfl rfl) (xt4 40 rfl rfl) (xt4 41 rfl rfl) hl.1 (Nat.le_of_ble_eq_true rfl) dL_history_5 (by show d + 7 ≤ d + 8; omega) (by show (d + 1) * 40 + 100 ≤ (d + 2) * 40 + 100; omega) (Nat.le_refl _) (Nat.le_refl _) (fun H' locs' w' q ce hag hpt' h1 h2 h3 => ?_)
  exact lw_caught (E := 2) (nm := "java/lang/IndexOutOfBoundsException") F hpt' hag h1 h2 h3 rfl [] ⟨0, 10, 13, 21⟩ [] rfl (fun z hz => nomatch hz) (by decide) (by decide) (xt2 115 rfl rfl) (by decide) (lv_sub hl [] rfl) (by decide) dL_history_13 dL_history_15 rfl dL_history_16
def lws_message : List Cond := .codeWith yL_message cL_message 6 (some .int) [(0, 12, 15, 21), (0, 12, 19, 13)] :: xT
set_option maxRecDepth 100000 in
theorem wn_message {l : Launch} {D : va_G} {N d x : Nat} {fs : List Value} {σ σ1 : XS} {v : Nat → Int64} {a1 a2 a3 : Int32} {r : Int32} (hc : xcall N d 88 [.ref x, .int a1, .int a2, .int a3] σ = some (some (.int r), σ1)) (hxn : x < σ.1) (hf : σ.2.2 x = .inl (9, fs)) : lwMet l D d yL_message lws_message (fun w qo => [.ref (w.1 x), .int a1, .int a2, .int a3, .ref qo]) σ v 0 σ1 (vp_updL v 0 r.toInt64) (0 + (σ1.1 - σ.1)) (0 + (σ1.2.1 - σ.2.1)) := by
  refine lw_enter (by decide +kernel) rfl (fun w qo => Nat.le_of_ble_eq_true rfl) (fun p e s m args below meth c w qo cL A ls F hpt hl => ?_)
  have hl : lv_has ls 6 [(0, .ref (w.1 x)), (1, .int a1), (2, .int a2), (3, .int a3), (4, .ref qo)] := hl
  obtain ⟨hx, hb, hml, hown, hts, htn, hz, hnc, hr, hlocks, htab, hA⟩ := id F
  refine lv_aload hx hb dL_message_0 (lv_at hl 4 rfl) ?_
  refine lv_iconst (v := 0) hx hb dL_message_2 (by decide) ?_
  refine lv_aload_n hx hb dL_message_3 rfl (lv_at hl 0 rfl) ?_
  refine lv_iload_n hx hb dL_message_4 rfl (lv_at hl 1 rfl) ?_
  refine lv_iload_n hx hb dL_message_5 rfl (lv_at hl 2 rfl) ?_
  refine lv_iload_n hx hb dL_message_6 rfl (lv_at hl 3 rfl) ?_
  refine lw_callN (is := [.int a1, .int a2, .int a3]) (rest := [.int 0, .ref qo]) (w := w) hc hx hb hml hown hts htn hA hpt hxn hf rfl (by decide) (xok_ints [a1, a2, a3]) rfl (xt4 50 rfl rfl) (xt4 51 rfl rfl) (xt4 52 rfl rfl) hl.1 (Nat.le_of_ble_eq_true rfl) dL_message_7 (by show d + 1 ≤ d + 8; omega) (by show (d + 1) * 40 ≤ (d + 2) * 40 + 100; omega) (Nat.le_refl _) (Nat.le_refl _) (fun H' locs' w' hag hpt' => ?_)
  refine lv_i2l hx hb dL_message_10 rfl ?_
  exact lw_tailL F hpt' hag dL_message_11 dL_message_12 (by decide) dL_message_23 dL_message_24
set_option maxRecDepth 100000 in
theorem wx_message_2 {l : Launch} {D : va_G} {N d x : Nat} {fs : List Value} {σ σ1 : XS} {v : Nat → Int64} {a1 a2 a3 : Int32} (hls : l.stackTraces = false) (hc : xcallX N d 88 [.ref x, .int a1, .int a2, .int a3] σ = some (2, σ1)) (hxn : x < σ.1) (hf : σ.2.2 x = .inl (9, fs)) : lwMet l D d yL_message lws_message (fun w qo => [.ref (w.1 x), .int a1, .int a2, .int a3, .ref qo]) σ v 1 σ1 v (0 + (σ1.1 - σ.1 + 1)) (0 + (σ1.2.1 - σ.2.1 + 6)) := by
  refine lw_enter (by decide +kernel) rfl (fun w qo => Nat.le_of_ble_eq_true rfl) (fun p e s m args below meth c w qo cL A ls F hpt hl => ?_)
  have hl : lv_has ls 6 [(0, .ref (w.1 x)), (1, .int a1), (2, .int a2), (3, .int a3), (4, .ref qo)] := hl
  obtain ⟨hx, hb, hml, hown, hts, htn, hz, hnc, hr, hlocks, htab, hA⟩ := id F
  refine lv_aload hx hb dL_message_0 (lv_at hl 4 rfl) ?_
  refine lv_iconst (v := 0) hx hb dL_message_2 (by decide) ?_
  refine lv_aload_n hx hb dL_message_3 rfl (lv_at hl 0 rfl) ?_
  refine lv_iload_n hx hb dL_message_4 rfl (lv_at hl 1 rfl) ?_
  refine lv_iload_n hx hb dL_message_5 rfl (lv_at hl 2 rfl) ?_
  refine lv_iload_n hx hb dL_message_6 rfl (lv_at hl 3 rfl) ?_
  refine lw_callX (is := [.int a1, .int a2, .int a3]) (rest := [.int 0, .ref qo]) (w := w) hls hc hx hb hml hown hts htn hA hz hpt hxn hf rfl (by decide) (xok_ints [a1, a2, a3]) rfl (xt4 50 rfl rfl) (xt4 51 rfl rfl) (xt4 52 rfl rfl) hl.1 (Nat.le_of_ble_eq_true rfl) dL_message_7 (by show d + 7 ≤ d + 8; omega) (by show (d + 1) * 40 + 100 ≤ (d + 2) * 40 + 100; omega) (Nat.le_refl _) (Nat.le_refl _) (fun H' locs' w' q ce hag hpt' h1 h2 h3 => ?_)
  exact lw_caught (E := 2) (nm := "java/lang/IndexOutOfBoundsException") F hpt' hag h1 h2 h3 rfl [] ⟨0, 12, 15, 21⟩ [⟨0, 12, 19, 13⟩] rfl (fun z hz => nomatch hz) (by decide) (by decide) (xt2 115 rfl rfl) (by decide) (lv_sub hl [] rfl) (by decide) dL_message_15 dL_message_17 rfl dL_message_18
set_option maxRecDepth 100000 in
theorem wx_message_0 {l : Launch} {D : va_G} {N d x : Nat} {fs : List Value} {σ σ1 : XS} {v : Nat → Int64} {a1 a2 a3 : Int32} (hls : l.stackTraces = false) (hc : xcallX N d 88 [.ref x, .int a1, .int a2, .int a3] σ = some (0, σ1)) (hxn : x < σ.1) (hf : σ.2.2 x = .inl (9, fs)) : lwMet l D d yL_message lws_message (fun w qo => [.ref (w.1 x), .int a1, .int a2, .int a3, .ref qo]) σ v 2 σ1 v (0 + (σ1.1 - σ.1 + 1)) (0 + (σ1.2.1 - σ.2.1 + 6)) := by
  refine lw_enter (by decide +kernel) rfl (fun w qo => Nat.le_of_ble_eq_true rfl) (fun p e s m args below meth c w qo cL A ls F hpt hl => ?_)
  have hl : lv_has ls 6 [(0, .ref (w.1 x)), (1, .int a1), (2, .int a2), (3, .int a3), (4, .ref qo)] := hl
  obtain ⟨hx, hb, hml, hown, hts, htn, hz, hnc, hr, hlocks, htab, hA⟩ := id F
  refine lv_aload hx hb dL_message_0 (lv_at hl 4 rfl) ?_
  refine lv_iconst (v := 0) hx hb dL_message_2 (by decide) ?_
  refine lv_aload_n hx hb dL_message_3 rfl (lv_at hl 0 rfl) ?_
  refine lv_iload_n hx hb dL_message_4 rfl (lv_at hl 1 rfl) ?_
  refine lv_iload_n hx hb dL_message_5 rfl (lv_at hl 2 rfl) ?_
  refine lv_iload_n hx hb dL_message_6 rfl (lv_at hl 3 rfl) ?_
  refine lw_callX (is := [.int a1, .int a2, .int a3]) (rest := [.int 0, .ref qo]) (w := w) hls hc hx hb hml hown hts htn hA hz hpt hxn hf rfl (by decide) (xok_ints [a1, a2, a3]) rfl (xt4 50 rfl rfl) (xt4 51 rfl rfl) (xt4 52 rfl rfl) hl.1 (Nat.le_of_ble_eq_true rfl) dL_message_7 (by show d + 7 ≤ d + 8; omega) (by show (d + 1) * 40 + 100 ≤ (d + 2) * 40 + 100; omega) (Nat.le_refl _) (Nat.le_refl _) (fun H' locs' w' q ce hag hpt' h1 h2 h3 => ?_)
  exact lw_caught (E := 0) (nm := "java/lang/IllegalArgumentException") F hpt' hag h1 h2 h3 rfl [⟨0, 12, 15, 21⟩] ⟨0, 12, 19, 13⟩ [] rfl (List.forall_mem_cons.mpr ⟨⟨by decide, "java/lang/IndexOutOfBoundsException", (xt2 115 rfl rfl), by decide⟩, fun z hz => nomatch hz⟩) (by decide) (by decide) (xt2 11 rfl rfl) (by decide) (lv_sub hl [] rfl) (by decide) dL_message_19 dL_message_21 rfl dL_message_22
def lws_row : List Cond := .codeWith yL_row cL_row 5 (some .int) [(0, 10, 13, 13)] :: xT
set_option maxRecDepth 100000 in
theorem wn_row {l : Launch} {D : va_G} {N d x : Nat} {fs : List Value} {σ σ1 : XS} {v : Nat → Int64} {a1 a2 : Int32} {r : Int32} (hc : xcall N d 89 [.ref x, .int a1, .int a2] σ = some (some (.int r), σ1)) (hxn : x < σ.1) (hf : σ.2.2 x = .inl (9, fs)) : lwMet l D d yL_row lws_row (fun w qo => [.ref (w.1 x), .int a1, .int a2, .ref qo]) σ v 0 σ1 (vp_updL v 0 r.toInt64) (0 + (σ1.1 - σ.1)) (0 + (σ1.2.1 - σ.2.1)) := by
  refine lw_enter (by decide +kernel) rfl (fun w qo => Nat.le_of_ble_eq_true rfl) (fun p e s m args below meth c w qo cL A ls F hpt hl => ?_)
  have hl : lv_has ls 5 [(0, .ref (w.1 x)), (1, .int a1), (2, .int a2), (3, .ref qo)] := hl
  obtain ⟨hx, hb, hml, hown, hts, htn, hz, hnc, hr, hlocks, htab, hA⟩ := id F
  refine lv_aload_n hx hb dL_row_0 rfl (lv_at hl 3 rfl) ?_
  refine lv_iconst (v := 0) hx hb dL_row_1 (by decide) ?_
  refine lv_aload_n hx hb dL_row_2 rfl (lv_at hl 0 rfl) ?_
  refine lv_iload_n hx hb dL_row_3 rfl (lv_at hl 1 rfl) ?_
  refine lv_iload_n hx hb dL_row_4 rfl (lv_at hl 2 rfl) ?_
  refine lw_callN (is := [.int a1, .int a2]) (rest := [.int 0, .ref qo]) (w := w) hc hx hb hml hown hts htn hA hpt hxn hf rfl (by decide) (xok_ints [a1, a2]) rfl (xt4 59 rfl rfl) (xt4 60 rfl rfl) (xt4 61 rfl rfl) hl.1 (Nat.le_of_ble_eq_true rfl) dL_row_5 (by show d + 1 ≤ d + 8; omega) (by show (d + 1) * 40 ≤ (d + 2) * 40 + 100; omega) (Nat.le_refl _) (Nat.le_refl _) (fun H' locs' w' hag hpt' => ?_)
  refine lv_i2l hx hb dL_row_8 rfl ?_
  exact lw_tailL F hpt' hag dL_row_9 dL_row_10 (by decide) dL_row_17 dL_row_18
set_option maxRecDepth 100000 in
theorem wx_row_0 {l : Launch} {D : va_G} {N d x : Nat} {fs : List Value} {σ σ1 : XS} {v : Nat → Int64} {a1 a2 : Int32} (hls : l.stackTraces = false) (hc : xcallX N d 89 [.ref x, .int a1, .int a2] σ = some (0, σ1)) (hxn : x < σ.1) (hf : σ.2.2 x = .inl (9, fs)) : lwMet l D d yL_row lws_row (fun w qo => [.ref (w.1 x), .int a1, .int a2, .ref qo]) σ v 1 σ1 v (0 + (σ1.1 - σ.1 + 1)) (0 + (σ1.2.1 - σ.2.1 + 6)) := by
  refine lw_enter (by decide +kernel) rfl (fun w qo => Nat.le_of_ble_eq_true rfl) (fun p e s m args below meth c w qo cL A ls F hpt hl => ?_)
  have hl : lv_has ls 5 [(0, .ref (w.1 x)), (1, .int a1), (2, .int a2), (3, .ref qo)] := hl
  obtain ⟨hx, hb, hml, hown, hts, htn, hz, hnc, hr, hlocks, htab, hA⟩ := id F
  refine lv_aload_n hx hb dL_row_0 rfl (lv_at hl 3 rfl) ?_
  refine lv_iconst (v := 0) hx hb dL_row_1 (by decide) ?_
  refine lv_aload_n hx hb dL_row_2 rfl (lv_at hl 0 rfl) ?_
  refine lv_iload_n hx hb dL_row_3 rfl (lv_at hl 1 rfl) ?_
  refine lv_iload_n hx hb dL_row_4 rfl (lv_at hl 2 rfl) ?_
  refine lw_callX (is := [.int a1, .int a2]) (rest := [.int 0, .ref qo]) (w := w) hls hc hx hb hml hown hts htn hA hz hpt hxn hf rfl (by decide) (xok_ints [a1, a2]) rfl (xt4 59 rfl rfl) (xt4 60 rfl rfl) (xt4 61 rfl rfl) hl.1 (Nat.le_of_ble_eq_true rfl) dL_row_5 (by show d + 7 ≤ d + 8; omega) (by show (d + 1) * 40 + 100 ≤ (d + 2) * 40 + 100; omega) (Nat.le_refl _) (Nat.le_refl _) (fun H' locs' w' q ce hag hpt' h1 h2 h3 => ?_)
  exact lw_caught (E := 0) (nm := "java/lang/IllegalArgumentException") F hpt' hag h1 h2 h3 rfl [] ⟨0, 10, 13, 13⟩ [] rfl (fun z hz => nomatch hz) (by decide) (by decide) (xt2 11 rfl rfl) (by decide) (lv_sub hl [] rfl) (by decide) dL_row_13 dL_row_15 rfl dL_row_16
def lws_told : List Cond := .codeWith yL_told cL_told 5 (some .int) [(0, 10, 13, 21), (0, 10, 17, 13)] :: xT
set_option maxRecDepth 100000 in
theorem wn_told {l : Launch} {D : va_G} {N d x : Nat} {fs : List Value} {σ σ1 : XS} {v : Nat → Int64} {a1 a2 : Int32} {r : Int32} (hc : xcall N d 90 [.ref x, .int a1, .int a2] σ = some (some (.int r), σ1)) (hxn : x < σ.1) (hf : σ.2.2 x = .inl (9, fs)) : lwMet l D d yL_told lws_told (fun w qo => [.ref (w.1 x), .int a1, .int a2, .ref qo]) σ v 0 σ1 (vp_updL v 0 r.toInt64) (0 + (σ1.1 - σ.1)) (0 + (σ1.2.1 - σ.2.1)) := by
  refine lw_enter (by decide +kernel) rfl (fun w qo => Nat.le_of_ble_eq_true rfl) (fun p e s m args below meth c w qo cL A ls F hpt hl => ?_)
  have hl : lv_has ls 5 [(0, .ref (w.1 x)), (1, .int a1), (2, .int a2), (3, .ref qo)] := hl
  obtain ⟨hx, hb, hml, hown, hts, htn, hz, hnc, hr, hlocks, htab, hA⟩ := id F
  refine lv_aload_n hx hb dL_told_0 rfl (lv_at hl 3 rfl) ?_
  refine lv_iconst (v := 0) hx hb dL_told_1 (by decide) ?_
  refine lv_aload_n hx hb dL_told_2 rfl (lv_at hl 0 rfl) ?_
  refine lv_iload_n hx hb dL_told_3 rfl (lv_at hl 1 rfl) ?_
  refine lv_iload_n hx hb dL_told_4 rfl (lv_at hl 2 rfl) ?_
  refine lw_callN (is := [.int a1, .int a2]) (rest := [.int 0, .ref qo]) (w := w) hc hx hb hml hown hts htn hA hpt hxn hf rfl (by decide) (xok_ints [a1, a2]) rfl (xt4 67 rfl rfl) (xt4 68 rfl rfl) (xt4 69 rfl rfl) hl.1 (Nat.le_of_ble_eq_true rfl) dL_told_5 (by show d + 1 ≤ d + 8; omega) (by show (d + 1) * 40 ≤ (d + 2) * 40 + 100; omega) (Nat.le_refl _) (Nat.le_refl _) (fun H' locs' w' hag hpt' => ?_)
  refine lv_i2l hx hb dL_told_8 rfl ?_
  exact lw_tailL F hpt' hag dL_told_9 dL_told_10 (by decide) dL_told_21 dL_told_22
set_option maxRecDepth 100000 in
theorem wx_told_2 {l : Launch} {D : va_G} {N d x : Nat} {fs : List Value} {σ σ1 : XS} {v : Nat → Int64} {a1 a2 : Int32} (hls : l.stackTraces = false) (hc : xcallX N d 90 [.ref x, .int a1, .int a2] σ = some (2, σ1)) (hxn : x < σ.1) (hf : σ.2.2 x = .inl (9, fs)) : lwMet l D d yL_told lws_told (fun w qo => [.ref (w.1 x), .int a1, .int a2, .ref qo]) σ v 1 σ1 v (0 + (σ1.1 - σ.1 + 1)) (0 + (σ1.2.1 - σ.2.1 + 6)) := by
  refine lw_enter (by decide +kernel) rfl (fun w qo => Nat.le_of_ble_eq_true rfl) (fun p e s m args below meth c w qo cL A ls F hpt hl => ?_)
  have hl : lv_has ls 5 [(0, .ref (w.1 x)), (1, .int a1), (2, .int a2), (3, .ref qo)] := hl
  obtain ⟨hx, hb, hml, hown, hts, htn, hz, hnc, hr, hlocks, htab, hA⟩ := id F
  refine lv_aload_n hx hb dL_told_0 rfl (lv_at hl 3 rfl) ?_
  refine lv_iconst (v := 0) hx hb dL_told_1 (by decide) ?_
  refine lv_aload_n hx hb dL_told_2 rfl (lv_at hl 0 rfl) ?_
  refine lv_iload_n hx hb dL_told_3 rfl (lv_at hl 1 rfl) ?_
  refine lv_iload_n hx hb dL_told_4 rfl (lv_at hl 2 rfl) ?_
  refine lw_callX (is := [.int a1, .int a2]) (rest := [.int 0, .ref qo]) (w := w) hls hc hx hb hml hown hts htn hA hz hpt hxn hf rfl (by decide) (xok_ints [a1, a2]) rfl (xt4 67 rfl rfl) (xt4 68 rfl rfl) (xt4 69 rfl rfl) hl.1 (Nat.le_of_ble_eq_true rfl) dL_told_5 (by show d + 7 ≤ d + 8; omega) (by show (d + 1) * 40 + 100 ≤ (d + 2) * 40 + 100; omega) (Nat.le_refl _) (Nat.le_refl _) (fun H' locs' w' q ce hag hpt' h1 h2 h3 => ?_)
  exact lw_caught (E := 2) (nm := "java/lang/IndexOutOfBoundsException") F hpt' hag h1 h2 h3 rfl [] ⟨0, 10, 13, 21⟩ [⟨0, 10, 17, 13⟩] rfl (fun z hz => nomatch hz) (by decide) (by decide) (xt2 115 rfl rfl) (by decide) (lv_sub hl [] rfl) (by decide) dL_told_13 dL_told_15 rfl dL_told_16
set_option maxRecDepth 100000 in
theorem wx_told_0 {l : Launch} {D : va_G} {N d x : Nat} {fs : List Value} {σ σ1 : XS} {v : Nat → Int64} {a1 a2 : Int32} (hls : l.stackTraces = false) (hc : xcallX N d 90 [.ref x, .int a1, .int a2] σ = some (0, σ1)) (hxn : x < σ.1) (hf : σ.2.2 x = .inl (9, fs)) : lwMet l D d yL_told lws_told (fun w qo => [.ref (w.1 x), .int a1, .int a2, .ref qo]) σ v 2 σ1 v (0 + (σ1.1 - σ.1 + 1)) (0 + (σ1.2.1 - σ.2.1 + 6)) := by
  refine lw_enter (by decide +kernel) rfl (fun w qo => Nat.le_of_ble_eq_true rfl) (fun p e s m args below meth c w qo cL A ls F hpt hl => ?_)
  have hl : lv_has ls 5 [(0, .ref (w.1 x)), (1, .int a1), (2, .int a2), (3, .ref qo)] := hl
  obtain ⟨hx, hb, hml, hown, hts, htn, hz, hnc, hr, hlocks, htab, hA⟩ := id F
  refine lv_aload_n hx hb dL_told_0 rfl (lv_at hl 3 rfl) ?_
  refine lv_iconst (v := 0) hx hb dL_told_1 (by decide) ?_
  refine lv_aload_n hx hb dL_told_2 rfl (lv_at hl 0 rfl) ?_
  refine lv_iload_n hx hb dL_told_3 rfl (lv_at hl 1 rfl) ?_
  refine lv_iload_n hx hb dL_told_4 rfl (lv_at hl 2 rfl) ?_
  refine lw_callX (is := [.int a1, .int a2]) (rest := [.int 0, .ref qo]) (w := w) hls hc hx hb hml hown hts htn hA hz hpt hxn hf rfl (by decide) (xok_ints [a1, a2]) rfl (xt4 67 rfl rfl) (xt4 68 rfl rfl) (xt4 69 rfl rfl) hl.1 (Nat.le_of_ble_eq_true rfl) dL_told_5 (by show d + 7 ≤ d + 8; omega) (by show (d + 1) * 40 + 100 ≤ (d + 2) * 40 + 100; omega) (Nat.le_refl _) (Nat.le_refl _) (fun H' locs' w' q ce hag hpt' h1 h2 h3 => ?_)
  exact lw_caught (E := 0) (nm := "java/lang/IllegalArgumentException") F hpt' hag h1 h2 h3 rfl [⟨0, 10, 13, 21⟩] ⟨0, 10, 17, 13⟩ [] rfl (List.forall_mem_cons.mpr ⟨⟨by decide, "java/lang/IndexOutOfBoundsException", (xt2 115 rfl rfl), by decide⟩, fun z hz => nomatch hz⟩) (by decide) (by decide) (xt2 11 rfl rfl) (by decide) (lv_sub hl [] rfl) (by decide) dL_told_17 dL_told_19 rfl dL_told_20
def lws_result : List Cond := .codeWith yL_result cL_result 5 (some .int) [(0, 10, 13, 21)] :: xT
set_option maxRecDepth 100000 in
theorem wn_result {l : Launch} {D : va_G} {N d x : Nat} {fs : List Value} {σ σ1 : XS} {v : Nat → Int64} {a1 a2 : Int32} {r : Int32} (hc : xcall N d 91 [.ref x, .int a1, .int a2] σ = some (some (.int r), σ1)) (hxn : x < σ.1) (hf : σ.2.2 x = .inl (9, fs)) : lwMet l D d yL_result lws_result (fun w qo => [.ref (w.1 x), .int a1, .int a2, .ref qo]) σ v 0 σ1 (vp_updL v 0 r.toInt64) (0 + (σ1.1 - σ.1)) (0 + (σ1.2.1 - σ.2.1)) := by
  refine lw_enter (by decide +kernel) rfl (fun w qo => Nat.le_of_ble_eq_true rfl) (fun p e s m args below meth c w qo cL A ls F hpt hl => ?_)
  have hl : lv_has ls 5 [(0, .ref (w.1 x)), (1, .int a1), (2, .int a2), (3, .ref qo)] := hl
  obtain ⟨hx, hb, hml, hown, hts, htn, hz, hnc, hr, hlocks, htab, hA⟩ := id F
  refine lv_aload_n hx hb dL_result_0 rfl (lv_at hl 3 rfl) ?_
  refine lv_iconst (v := 0) hx hb dL_result_1 (by decide) ?_
  refine lv_aload_n hx hb dL_result_2 rfl (lv_at hl 0 rfl) ?_
  refine lv_iload_n hx hb dL_result_3 rfl (lv_at hl 1 rfl) ?_
  refine lv_iload_n hx hb dL_result_4 rfl (lv_at hl 2 rfl) ?_
  refine lw_callN (is := [.int a1, .int a2]) (rest := [.int 0, .ref qo]) (w := w) hc hx hb hml hown hts htn hA hpt hxn hf rfl (by decide) (xok_ints [a1, a2]) rfl (xt4 82 rfl rfl) (xt4 83 rfl rfl) (xt4 84 rfl rfl) hl.1 (Nat.le_of_ble_eq_true rfl) dL_result_5 (by show d + 1 ≤ d + 8; omega) (by show (d + 1) * 40 ≤ (d + 2) * 40 + 100; omega) (Nat.le_refl _) (Nat.le_refl _) (fun H' locs' w' hag hpt' => ?_)
  refine lv_i2l hx hb dL_result_8 rfl ?_
  exact lw_tailL F hpt' hag dL_result_9 dL_result_10 (by decide) dL_result_17 dL_result_18
set_option maxRecDepth 100000 in
theorem wx_result_2 {l : Launch} {D : va_G} {N d x : Nat} {fs : List Value} {σ σ1 : XS} {v : Nat → Int64} {a1 a2 : Int32} (hls : l.stackTraces = false) (hc : xcallX N d 91 [.ref x, .int a1, .int a2] σ = some (2, σ1)) (hxn : x < σ.1) (hf : σ.2.2 x = .inl (9, fs)) : lwMet l D d yL_result lws_result (fun w qo => [.ref (w.1 x), .int a1, .int a2, .ref qo]) σ v 1 σ1 v (0 + (σ1.1 - σ.1 + 1)) (0 + (σ1.2.1 - σ.2.1 + 6)) := by
  refine lw_enter (by decide +kernel) rfl (fun w qo => Nat.le_of_ble_eq_true rfl) (fun p e s m args below meth c w qo cL A ls F hpt hl => ?_)
  have hl : lv_has ls 5 [(0, .ref (w.1 x)), (1, .int a1), (2, .int a2), (3, .ref qo)] := hl
  obtain ⟨hx, hb, hml, hown, hts, htn, hz, hnc, hr, hlocks, htab, hA⟩ := id F
  refine lv_aload_n hx hb dL_result_0 rfl (lv_at hl 3 rfl) ?_
  refine lv_iconst (v := 0) hx hb dL_result_1 (by decide) ?_
  refine lv_aload_n hx hb dL_result_2 rfl (lv_at hl 0 rfl) ?_
  refine lv_iload_n hx hb dL_result_3 rfl (lv_at hl 1 rfl) ?_
  refine lv_iload_n hx hb dL_result_4 rfl (lv_at hl 2 rfl) ?_
  refine lw_callX (is := [.int a1, .int a2]) (rest := [.int 0, .ref qo]) (w := w) hls hc hx hb hml hown hts htn hA hz hpt hxn hf rfl (by decide) (xok_ints [a1, a2]) rfl (xt4 82 rfl rfl) (xt4 83 rfl rfl) (xt4 84 rfl rfl) hl.1 (Nat.le_of_ble_eq_true rfl) dL_result_5 (by show d + 7 ≤ d + 8; omega) (by show (d + 1) * 40 + 100 ≤ (d + 2) * 40 + 100; omega) (Nat.le_refl _) (Nat.le_refl _) (fun H' locs' w' q ce hag hpt' h1 h2 h3 => ?_)
  exact lw_caught (E := 2) (nm := "java/lang/IndexOutOfBoundsException") F hpt' hag h1 h2 h3 rfl [] ⟨0, 10, 13, 21⟩ [] rfl (fun z hz => nomatch hz) (by decide) (by decide) (xt2 115 rfl rfl) (by decide) (lv_sub hl [] rfl) (by decide) dL_result_13 dL_result_15 rfl dL_result_16
end
section
/-! THE CLAIM OUT OF ONE WALK OF THE LAW'S BODY. Your part is whole_start (and what it stands on); all else here is the same for every law, but numbers. -/
def R_law : String := "CountedHouseLaw"
def lw_P (b : Addr) (xs : List Int32) (args : Array Value) (s : State) : Prop := args = #[.ref b] ∧ s.IntsAt b xs ∧ xs.length ≤ 3072 ∧ (Jvm.Cond.and given_1 narrow_1).before args s = true
def lw_Q (_ : Array Value) (s : State) (o : Outcome) (t : State) : Prop := o = .returned (some (.int 1)) ∧ Framed s o t [] 601024 7293034
def lw_Z (below : List Frame) (a : Array Value) (s : State) : State → Prop := fun t => ∃ o, t.status = .running ∧ Ended t below o ∧ lw_Q a s o t
/-- the law's own end, with 1 on the stack, nothing written that was there before, its room as the claim has it -/
theorem lw_ret {p : Program} {l : Launch} {e : Env} {s : State} {m : MethodId} {below : List Frame} {meth : Method} {c : Code} {b : Nat} (hx : p.tables.exec = Jvm.exec) (hb : c.code = code) (hr : meth.sig.returnType = ret) (hlocks : meth.locks = false) {pc : Nat} {H : Heap} {ls : Array Slot} (hdg : decode code pc = .ok (.ireturn, 1)) : W p l e room_1 s m #[Value.ref b] below meth c H [] 601024 7293034 (lw_Z below #[Value.ref b] s) (F0 m pc ls [.int 1]) := by
  intro T hT X
  obtain ⟨fs, hret, hrun, hended, hW, hframe⟩ := X.leave (v := some (.int 1)) (hlocks := hlocks) (fun h => by rw [hr] at h; cases h)
  have hmeth' : T.vm.method? m = some meth := X.method'
  refine ⟨T.setFrames fs, ?_, .returned (some (.int 1)), hrun, hended, rfl, ⟨_, rfl⟩, hW, hframe⟩
  jvm_step X.here [X.here.top, hx, hb, hdg, hmeth', hr, ret, narrow_b1]
  (try refine ⟨rfl, ?_⟩); (try refine ⟨rfl, ?_⟩)
  first | (intro acts; rw [hret _ acts rfl rfl rfl]) | rw [hret _ _ rfl rfl rfl]
  exact Steps.refl _
/-- what holds at the law's entry: the machine, the code, the tables' words (any of lw_tbl by 'hts w (by decide +kernel)'), the script of L ints xs at the cell b, what the Statement gives of the start (any of its parts by flat_of_before) -/
def lw_At (p : Program) (s : State) (m : MethodId) (meth : Method) (c : Code) (b L : Nat) (xs : Nat → Int32) : Prop :=
  p.tables.exec = Jvm.exec ∧ c.code = code ∧ meth.sig.returnType = ret ∧ c.maxLocals = 7 ∧ s.vm.findClass R_law = some m.cls ∧ (∀ w ∈ lw_tbl, w.before #[Value.ref b] s = true) ∧ va_X b L xs s s.heap ∧ b < s.heap.size ∧ meth.locks = false ∧ (Jvm.Cond.and given_1 narrow_1).before #[Value.ref b] s = true
end
section
/-! the law's own walk: its facts, its calls, its arguments -/
abbrev lwA (s : State) : Nat → Prop := fun q => s.heap.size ≤ q
def lwH (p : Program) (s : State) (m : MethodId) (meth : Method) (c : Code) (b L : Nat) (xs : Nat → Int32) : Prop := lw_At p s m meth c b L xs ∧ (∀ w ∈ xT, w.before #[Value.ref b] s = true) ∧ (∀ w ∈ xNx, w.before #[Value.ref b] s = true) ∧ xZ (lwA s) s ∧ (∀ q ∈ lwNC, va_Nc q.1 q.2 s)
section LWL
variable {p : Program} {l : Launch} {e : Env} {s : State} {m : MethodId} {below : List Frame} {meth : Method} {c : Code} {Q : State → Prop} {D : va_G} {H : Heap} {locs : List Loc} {ls : Array Slot} {w : XW} {σ σ1 : XS} {qo : Nat} {cL : ClassId} {v v1 : Nat → Int64} {cells slots b L : Nat} {xs : Nat → Int32}
theorem lwPt.pre2 {av : List Value} (G : lwH p s m meth c b L xs) (h : lwPt D (lwA s) s H locs w σ qo cL v) {U : State} (hU : U.heap = H) (hW : s.WarmedH U.vm) : lwPre D w σ qo cL v H.size av av.toArray U := by
  obtain ⟨-, hts, htn, ⟨z1, z2, z3, z4⟩, hnc⟩ := G
  have hF : ∀ q, va_A (lwW w σ qo cL v) H.size q → lwA s q := fun q hq => by
    rcases hq with ⟨k, e, hk⟩ | hq
    · exact h.2.1.2 k (q, e) hk
    · exact Nat.le_trans h.2.2.1.1 hq
  refine ⟨rfl, by rw [hU], ⟨by rw [hU]; exact h.1, h.2.1.weaken (fun _ _ _ _ => trivial), xKn_moved hW.alike h.2.2.2.1, ⟨arrOfT_moved hW.alike h.2.2.2.2.1.1, h.2.2.2.2.1.2.moved hW.alike⟩, h.2.2.2.2.2⟩, fun w hw => xN_warm hW hw (xN_of hw (htn w hw)), ⟨fun w hw => xCs_warm hW hw (z1 w hw), fun q hq => (z2 q hq).imp fun sa h => vk_R.warm hW h, ?_, ?_⟩, fun q hq => va_Nc.moved hW.alike (hnc q hq)⟩
  · rw [hU]; exact (((z3.kept h.2.2.1.2.1).moved hW.alike).narrow hF)
  · rw [hU]; exact (((z4.kept h.2.2.1.2.1).moved hW.alike).narrow hF)
/-- a call of one of the law's small methods -/
theorem lw_callW {d j n pc maxL mc ms : Nat} {y : MethodName} {ws : List Cond} {bytes : ByteArray} {hh : List (Nat × Nat × Nat × Nat)} {av : XW → Nat → List Value} {As rest : List Value} {k : Int32} (hM : lwMet l D d y ws av σ v k σ1 v1 mc ms) (hws : ws = .codeWith y bytes maxL (some .int) hh :: xT) (G : lwH p s m meth c b L xs) (hpt : lwPt D (lwA s) s H locs w σ qo cL v) (hav : av w qo = As)
    (c0 : Cond.codeWith y bytes maxL (some .int) hh ∈ xT) (c1 : Cond.methodLink lwRL j y ∈ xT) (c2 : Cond.static y ∈ xT) (c3 : Cond.initialized y.cls ∈ xT) (hy : y.cls ≠ "java/lang/invoke/MethodHandle" ∧ y.cls ≠ "java/lang/invoke/VarHandle" ∧ (parseMethodDescriptor y.desc).map (fun d => d.parameters.length) = some n) (hlen : As.length = n) (hmL : maxL ≤ 20) (hsize : ls.size = 7) (hcat : (rest.map fun v => v.category).sum ≤ 8) (hd : decode code pc = .ok (.invokestatic j, 3))
    (hdd : d ≤ 1000) (hRc : cells + mc ≤ room_1.cells) (hRs : slots + ms ≤ room_1.slots)
    (hk : ∀ (H' : Heap) (locs' : List Loc) (w' : XW), xAg σ.1 w.1 w.2 w' → lwPt D (lwA s) s H' locs' w' σ1 qo cL v1 → W p l e room_1 s m #[Value.ref b] below meth c H' locs' (cells + mc) (slots + ms) Q (F0 m (pc + 3) ls (.int k :: rest))) :
    W p l e room_1 s m #[Value.ref b] below meth c H locs cells slots Q (F0 m pc ls (As.reverse ++ rest)) := by
  obtain ⟨⟨hx, hb, hr, hml, hown, hts0, hX, hbl, hlocks, hgv⟩, hts, htn, hz, hnc⟩ := id G
  subst hav
  subst hws
  have hF : ∀ q, va_A (lwW w σ qo cL v) H.size q → lwA s q := fun q hq => by
    rcases hq with ⟨k, e, hk⟩ | hq
    · exact hpt.2.1.2 k (q, e) hk
    · exact Nat.le_trans hpt.2.2.1.1 hq
  have hroom : (lwRoom d mc ms).frames + 1 ≤ room_1.frames ∧ 8 + (maxL + 11) + (lwRoom d mc ms).locals ≤ room_1.locals := by
    refine ⟨?_, ?_⟩
    · show d + 8 + 1 ≤ 2048
      omega
    · show 8 + (maxL + 11) + ((d + 2) * 40 + 100) ≤ 84000
      omega
  have hrun := vx_runSW (p := p) (l := l) (e := e) (R := room_1) (s := s) (m := m) (args := #[Value.ref b]) (below := below) (meth := meth) (c := c) (H := H) (locs := locs) (cells := cells) (slots := slots) (own := lwRL) (index := j) (As := av w qo) (rest := rest) (g := F0 m pc ls ((av w qo).reverse ++ rest)) ⟨hx, hb, hml, hown, hts⟩ (hM w qo cL H.size) (vx_cwSW n hts (xgoodT (fun w hw => by
      rcases List.mem_append.mp hw with hw | hw
      · rcases List.mem_cons.mp hw with rfl | hw
        · exact c1
        · rcases List.mem_cons.mp hw with rfl | hw
          · exact c2
          · rcases List.mem_cons.mp hw with rfl | hw
            · exact c3
            · cases hw
      · rcases List.mem_cons.mp hw with rfl | hw
        · exact c0
        · exact hw)) rfl rfl rfl hy hroom) ⟨lwPre_blind, fun U hU hW => hpt.pre2 G hU hW⟩ rfl hlen hsize rfl (lv_room hcat) hd ⟨hRc, hRs⟩
  refine va_calli (a := (av w qo).toArray) hrun hpt.2.2.1 (fun q _ h => hF q h) hF (fun r w1 t H1 locs1 ht hvm hw hB hz1 hk1 hS => ?_)
  obtain ⟨rfl, hw⟩ := hw
  refine hk H1 locs1 w1 hw ⟨by rw [← ht]; exact hB.1, hB.2.1.weaken (fun k q _ h => hF q.1 h), hS, xKn_moved hvm.symm hB.2.2.1, ⟨arrOfT_moved hvm.symm hB.2.2.2.1.1, hB.2.2.2.1.2.moved hvm.symm⟩, hB.2.2.2.2⟩
/-- script[i + k] -/
theorem lw_arg {pc i k : Nat} {kz : Int} {rest : List Value} {lv : List (Nat × Value)} (G : lwH p s m meth c b L xs) (hL : L ≤ 3072) (hpt : lwPt D (lwA s) s H locs w σ qo cL v) (hl : lv_has ls 7 lv) (h0 : (0, Value.ref b) ∈ lv) (h4 : (4, Value.int (nI i)) ∈ lv) (hk : Int32.ofInt kz = nI k) (hi : i + k < L) (d0 : decode code pc = .ok (.aload_n 0, 1)) (d1 : decode code (pc + 1) = .ok (.iload 4, 2)) (d2 : decode code (pc + 3) = .ok (.iconst kz, 1)) (d3 : decode code (pc + 4) = .ok (.iadd, 1)) (d4 : decode code (pc + 5) = .ok (.iaload, 1))
    (kk : W p l e room_1 s m #[Value.ref b] below meth c H locs cells slots Q (F0 m (pc + 6) ls (.int (xs (i + k)) :: rest))) : W p l e room_1 s m #[Value.ref b] below meth c H locs cells slots Q (F0 m pc ls rest) := by
  obtain ⟨⟨hx, hb, hr, hml, hown, hts0, hX, hbl, hlocks, hgv⟩, hts, htn, hz, hnc⟩ := id G
  refine lv_aload_n hx hb d0 rfl (hl.2.2 _ h0) ?_
  refine lv_iload hx hb d1 (hl.2.2 _ h4) ?_
  refine lv_iconst hx hb d2 hk ?_
  refine lv_iadd hx hb d3 ?_
  rw [nI_add]
  refine va_sld (A := lwA s) hx hb hX hbl (Nat.not_le.mpr hbl) hpt.2.2.1 (vp_in_nI hi (by omega)) d4 ?_
  rw [nI_clamp (by omega)]
  exact kk
theorem lw_callM {N d u a ci bb pc j : Nat} {is rest : List Value} {fs : List Value} {rv : Option Value} (hcall : xcall N d u (.ref bb :: is) σ = some (rv, σ1)) (G : lwH p s m meth c b L xs) (hpt : lwPt D (lwA s) s H locs w σ qo cL v) (ha : w.1 bb = a) (hbn : bb < σ.1) (hf : σ.2.2 bb = .inl (ci, fs)) (hci : (xM u).1 = ci) (hu : u < 149) (his : ∀ v ∈ is, xok σ.1 v) (hlen : is.length = xA u)
    (c1 : Cond.methodLink lwRL j (xM u).2.1 ∈ xT) (c2 : Cond.instanceMethod (xM u).2.1 ∈ xT) (c3 : Cond.selects (xM u).2.1.cls (xM u).2.1 (xM u).2.1 ∈ xT) (hsize : ls.size = 7) (hcat : (rest.map fun v => v.category).sum ≤ 8) (hd : decode code pc = .ok (.invokevirtual j, 3)) (hdd : d ≤ 1000) (hRc : cells + (σ1.1 - σ.1) ≤ room_1.cells) (hRs : slots + (σ1.2.1 - σ.2.1) ≤ room_1.slots)
    (hk : ∀ (H' : Heap) (locs' : List Loc) (w' : XW), xAg σ.1 w.1 w.2 w' → lwPt D (lwA s) s H' locs' w' σ1 qo cL v → W p l e room_1 s m #[Value.ref b] below meth c H' locs' (cells + (σ1.1 - σ.1)) (slots + (σ1.2.1 - σ.2.1)) Q (F0 m (pc + 3) ls ((rv.toList.map (xcv w'.1)) ++ rest))) :
    W p l e room_1 s m #[Value.ref b] below meth c H locs cells slots Q (F0 m pc ls ((is.map (xcv w.1)).reverse ++ .ref a :: rest)) := by
  obtain ⟨⟨hx, hb, hr, hml, hown, hts0, hX, hbl, hlocks, hgv⟩, hts, htn, hz, hnc⟩ := id G
  subst ha
  exact lw_callN hcall hx hb hml hown hts htn (fun q h => h) hpt hbn hf hci hu his hlen c1 c2 c3 hsize hcat hd (by show d + 1 ≤ 2048; omega) (by show (d + 1) * 40 ≤ 84000; omega) hRc hRs hk
theorem lw_laload {pc : Nat} {rest : List Value} (G : lwH p s m meth c b L xs) (hpt : lwPt D (lwA s) s H locs w σ qo cL v) (hd : decode code pc = .ok (.laload, 1)) (kk : W p l e room_1 s m #[Value.ref b] below meth c H locs cells slots Q (F0 m (pc + 1) ls (.long (v 0) :: rest))) : W p l e room_1 s m #[Value.ref b] below meth c H locs cells slots Q (F0 m pc ls (.int 0 :: .ref qo :: rest)) := by
  obtain ⟨⟨hx, hb, hr, hml, hown, hts0, hX, hbl, hlocks, hgv⟩, hts, htn, hz, hnc⟩ := id G
  have hK : va_K D vwCl [(cL, .long)] s := ⟨hpt.2.2.2.1.1, fun k q hq => by
    match k, hq with
    | 0, hq => cases hq; exact hpt.2.2.2.2.1
    | k + 1, hq => simp at hq⟩
  exact va_lald hx hb hK hpt.1 σ.1 0 hpt.out rfl (by unfold vp_in; decide) hd kk
theorem lg_cmp_self (x : Int64) : lg_cmp x x = 0 := by unfold lg_cmp; simp
end LWL
/-- the two objects stand -/
def lwOk (x mm : Nat) (σ : XS) : Prop := (x < σ.1 ∧ ∃ fs, σ.2.2 x = .inl (9, fs)) ∧ mm < σ.1 ∧ ∃ fs, σ.2.2 mm = .inl (10, fs)
/-- the class's call and the reference's agree -/
def lwI (d x mm uc um : Nat) (is : List Value) (codes : List (Nat × Int32)) (Inv : XS → Prop) (σ : XS) : Prop :=
  (∃ (N1 N2 N3 : Nat) (r : Int32) (σ1 σ2 : XS), xcall N1 d uc (.ref x :: is) σ = some (some (.int r), σ1) ∧ lwOk x mm σ1 ∧ xcall N2 d um (.ref mm :: is) σ1 = some (some (.int r), σ2) ∧ lwOk x mm σ2 ∧ xcall N3 d 104 [.ref mm] σ2 = some (some (.int 0), σ2) ∧ Inv σ2) ∨
  (∃ (N1 N2 N3 E : Nat) (k b : Int32) (σ1 σ2 : XS), xcallX N1 d uc (.ref x :: is) σ = some (E, σ1) ∧ (E, k) ∈ codes ∧ lwOk x mm σ1 ∧ xcall N2 d um (.ref mm :: is) σ1 = some (some (.int b), σ2) ∧ lwOk x mm σ2 ∧ xcall N3 d 104 [.ref mm] σ2 = some (some (.int k), σ2) ∧ Inv σ2)
def lwV (d x mm uc um : Nat) (is : List Value) (codes : List (Nat × Int32)) (Inv : XS → Prop) (σ : XS) : Prop :=
  (∃ (N1 N2 N3 : Nat) (σ1 σ2 : XS), xcall N1 d uc (.ref x :: is) σ = some (none, σ1) ∧ lwOk x mm σ1 ∧ xcall N2 d um (.ref mm :: is) σ1 = some (none, σ2) ∧ lwOk x mm σ2 ∧ xcall N3 d 104 [.ref mm] σ2 = some (some (.int 0), σ2) ∧ Inv σ2) ∨
  (∃ (N1 N2 N3 E : Nat) (k : Int32) (σ1 σ2 : XS), xcallX N1 d uc (.ref x :: is) σ = some (E, σ1) ∧ (E, k) ∈ codes ∧ lwOk x mm σ1 ∧ xcall N2 d um (.ref mm :: is) σ1 = some (none, σ2) ∧ lwOk x mm σ2 ∧ xcall N3 d 104 [.ref mm] σ2 = some (some (.int k), σ2) ∧ Inv σ2)
end
section
/-! the law's sixteen cases -/
theorem lw_num {p : Program} {l : Launch} {e : Env} {R : Room} {s : State} {m : MethodId} {args : Array Value} {below : List Frame} {meth : Method} {c : Code} {H : Heap} {locs : List Loc} {a a' b b' : Nat} {Q : State → Prop} {g : JFrame} (h1 : a = a') (h2 : b = b') (h : W p l e R s m args below meth c H locs a' b' Q g) : W p l e R s m args below meth c H locs a b Q g := by rw [h1, h2]; exact h
set_option maxHeartbeats 2000000 in
set_option maxRecDepth 100000 in
theorem lc_request {p : Program} {l : Launch} {e : Env} {s : State} {m : MethodId} {below : List Frame} {meth : Method} {c : Code} {Q : State → Prop} {D : va_G} {H : Heap} {locs : List Loc} {ls : Array Slot} {w : XW} {σ : XS} {qo ax am : Nat} {cL : ClassId} {v : Nat → Int64} {b L d x mm i t : Nat} {xs : Nat → Int32} {Inv : XS → Prop} (hls : l.stackTraces = false) (G : lwH p s m meth c b L xs) (hL : L ≤ 3072) (hi : i + 6 ≤ L) (hop : lwI d x mm 76 105 [.int (xs (i + 1)), .int (xs (i + 2)), .int (xs (i + 3)), .int (xs (i + 4))] [(0, 1), (1, 2)] Inv σ) (hok : lwOk x mm σ) (hbd : ∀ σ, Inv σ → σ.1 ≤ 2000 ∧ σ.2.1 ≤ 100000) (ht : t ≤ 3072) (hdd : d ≤ 1000) (hpt : lwPt D (lwA s) s H locs w σ qo cL v) (hax : w.1 x = ax) (ham : w.1 mm = am) (hl : lv_has ls 7 [(0, .ref b), (1, .ref ax), (2, .ref am), (3, .ref qo), (4, .int (nI i))])
    (hk : ∀ (σ' : XS) (w' : XW) (v' : Nat → Int64) (H' : Heap) (locs' : List Loc) (ls' : Array Slot) (t' : Nat), Inv σ' → w'.1 x = ax → w'.1 mm = am → lwPt D (lwA s) s H' locs' w' σ' qo cL v' → lv_has ls' 7 [(0, .ref b), (1, .ref ax), (2, .ref am), (3, .ref qo), (4, .int (nI i))] → t' ≤ t + 1 → W p l e room_1 s m #[Value.ref b] below meth c H' locs' (σ'.1 + 1 + t') (σ'.2.1 + 1 + 6 * t') Q (F0 m 1247 ls' [])) :
    W p l e room_1 s m #[Value.ref b] below meth c H locs (σ.1 + 1 + t) (σ.2.1 + 1 + 6 * t) Q (F0 m 120 ls []) := by
  obtain ⟨⟨hx, hb, hr, hml, hown, hts0, hX, hbl, hlocks, hgv⟩, hts, htn, hz, hnc⟩ := id G
  obtain ⟨fs0, hf0⟩ := hok.1.2
  rcases hop with ⟨N1, N2, N3, r, σ1, σ2, h1, o1, h2, o2, h3, hI⟩ | ⟨N1, N2, N3, E, k, b9, σ1, σ2, h1, hek, o1, h2, o2, h3, hI⟩
  · have q1 := xcall_mono _ _ _ _ _ _ h1
    have q2 := xcall_mono _ _ _ _ _ _ h2
    have q3 := hbd σ2 hI
    obtain ⟨fs1, hf1⟩ := o1.2.2
    obtain ⟨fs2, hf2⟩ := o2.2.2
    refine lv_aload_n hx hb dL_law_120 rfl (lv_at hl 1 rfl) ?_
    refine lw_arg (k := 1) G hL hpt hl (List.mem_of_getElem? (i := 0) rfl) (List.mem_of_getElem? (i := 4) rfl) (by decide) (by omega) dL_law_121 dL_law_122 dL_law_124 dL_law_125 dL_law_126 ?_
    refine lw_arg (k := 2) G hL hpt hl (List.mem_of_getElem? (i := 0) rfl) (List.mem_of_getElem? (i := 4) rfl) (by decide) (by omega) dL_law_127 dL_law_128 dL_law_130 dL_law_131 dL_law_132 ?_
    refine lw_arg (k := 3) G hL hpt hl (List.mem_of_getElem? (i := 0) rfl) (List.mem_of_getElem? (i := 4) rfl) (by decide) (by omega) dL_law_133 dL_law_134 dL_law_136 dL_law_137 dL_law_138 ?_
    refine lw_arg (k := 4) G hL hpt hl (List.mem_of_getElem? (i := 0) rfl) (List.mem_of_getElem? (i := 4) rfl) (by decide) (by omega) dL_law_139 dL_law_140 dL_law_142 dL_law_143 dL_law_144 ?_
    refine lv_aload_n hx hb dL_law_145 rfl (lv_at hl 3 rfl) ?_
    refine lw_callW (n := 6) (As := [.ref ax, .int (xs (i + 1)), .int (xs (i + 2)), .int (xs (i + 3)), .int (xs (i + 4)), .ref qo]) (rest := []) (wn_request (v := v) h1 hok.1.1 hf0) rfl G hpt (by rw [hax]) (xt2 10 rfl rfl) (xt2 8 rfl rfl) (xt2 9 rfl rfl) (xt1 0 rfl rfl) (by decide +kernel) rfl (by decide) hl.1 (Nat.le_of_ble_eq_true rfl) dL_law_146 hdd (by show _ ≤ 601024; omega) (by show _ ≤ 7293034; omega) (fun H1 locs1 w1 hag hpt => ?_)
    have hax1 : w1.1 x = ax := (hag x hok.1.1).1.trans hax
    have ham1 : w1.1 mm = am := (hag mm hok.2.1).1.trans ham
    refine lv_istore (lv' := (5, .int 0) :: [(0, .ref b), (1, .ref ax), (2, .ref am), (3, .ref qo), (4, .int (nI i))]) hx hb dL_law_149 hl (by decide) rfl (fun ls1 hl => ?_)
    refine lv_aload_n hx hb dL_law_151 rfl (lv_at hl 3 rfl) ?_
    refine lw_arg (k := 1) G hL hpt hl (List.mem_of_getElem? (i := 1) rfl) (List.mem_of_getElem? (i := 5) rfl) (by decide) (by omega) dL_law_152 dL_law_153 dL_law_155 dL_law_156 dL_law_157 ?_
    refine lw_arg (k := 2) G hL hpt hl (List.mem_of_getElem? (i := 1) rfl) (List.mem_of_getElem? (i := 5) rfl) (by decide) (by omega) dL_law_158 dL_law_159 dL_law_161 dL_law_162 dL_law_163 ?_
    refine lw_arg (k := 3) G hL hpt hl (List.mem_of_getElem? (i := 1) rfl) (List.mem_of_getElem? (i := 5) rfl) (by decide) (by omega) dL_law_164 dL_law_165 dL_law_167 dL_law_168 dL_law_169 ?_
    refine lw_arg (k := 4) G hL hpt hl (List.mem_of_getElem? (i := 1) rfl) (List.mem_of_getElem? (i := 5) rfl) (by decide) (by omega) dL_law_170 dL_law_171 dL_law_173 dL_law_174 dL_law_175 ?_
    refine lw_callM (is := [.int (xs (i + 1)), .int (xs (i + 2)), .int (xs (i + 3)), .int (xs (i + 4))]) (rest := []) h2 G hpt ham1 o1.2.1 hf1 rfl (by decide) (xok_ints [(xs (i + 1)), (xs (i + 2)), (xs (i + 3)), (xs (i + 4))]) rfl (xt4 220 rfl rfl) (xt4 221 rfl rfl) (xt4 222 rfl rfl) hl.1 (Nat.le_of_ble_eq_true rfl) dL_law_176 hdd (by show _ ≤ 601024; omega) (by show _ ≤ 7293034; omega) (fun H2 locs2 w2 hag2 hpt => ?_)
    have hax2 : w2.1 x = ax := (hag2 x o1.1.1).1.trans hax1
    have ham2 : w2.1 mm = am := (hag2 mm o1.2.1).1.trans ham1
    refine lv_istore (lv' := (6, .int r) :: (5, .int 0) :: [(0, .ref b), (1, .ref ax), (2, .ref am), (3, .ref qo), (4, .int (nI i))]) hx hb dL_law_179 hl (by decide) rfl (fun ls2 hl => ?_)
    refine lv_aload_n hx hb dL_law_181 rfl (lv_at hl 4 rfl) ?_
    refine lw_callM (is := []) (rest := []) h3 G hpt ham2 o2.2.1 hf2 rfl (by decide) (xok_ints []) rfl (xt4 216 rfl rfl) (xt4 217 rfl rfl) (xt4 218 rfl rfl) hl.1 (Nat.le_of_ble_eq_true rfl) dL_law_182 hdd (by show _ ≤ 601024; omega) (by show _ ≤ 7293034; omega) (fun H3 locs3 w3 hag3 hpt => ?_)
    have hax3 : w3.1 x = ax := (hag3 x o2.1.1).1.trans hax2
    have ham3 : w3.1 mm = am := (hag3 mm o2.2.1).1.trans ham2
    refine lv_iload hx hb dL_law_185 (lv_at hl 1 rfl) ?_
    refine lv_icmp_eq (tgt := 192) hx hb dL_law_187 (by decide) (fun _ => ?_) (fun hne => absurd rfl hne)
    refine lv_iload hx hb dL_law_192 (lv_at hl 1 rfl) ?_
    refine lv_if_ne (tgt := 209) hx hb dL_law_194 (by decide) (fun hne => absurd rfl hne) (fun _ => ?_)
    refine lv_aload_n hx hb dL_law_197 rfl (lv_at hl 5 rfl) ?_
    refine lv_iconst (v := 0) hx hb dL_law_198 (by decide) ?_
    refine lw_laload G hpt dL_law_199 ?_
    rw [pk_uLs]
    refine lv_iload hx hb dL_law_200 (lv_at hl 0 rfl) ?_
    refine lv_i2l hx hb dL_law_202 rfl ?_
    refine W.lcmp hx hb dL_law_203 ?_
    rw [lg_cmp_self]
    refine lv_if_eq (tgt := 209) hx hb dL_law_204 (by decide) (fun _ => ?_) (fun hne => absurd rfl hne)
    refine lv_goto (tgt := 1247) hx hb dL_law_209 (by decide) ?_
    exact lw_num (by omega) (by omega) (hk σ2 w3 _ H3 locs3 _ t hI hax3 ham3 hpt (lv_sub hl [2, 3, 4, 5, 6] rfl) (by omega))
  · have q1 := xcallX_mono _ _ _ _ _ _ h1
    have q2 := xcall_mono _ _ _ _ _ _ h2
    have q3 := hbd σ2 hI
    obtain ⟨fs1, hf1⟩ := o1.2.2
    obtain ⟨fs2, hf2⟩ := o2.2.2
    rcases List.mem_cons.mp hek with hek | hek
    · cases hek
      refine lv_aload_n hx hb dL_law_120 rfl (lv_at hl 1 rfl) ?_
      refine lw_arg (k := 1) G hL hpt hl (List.mem_of_getElem? (i := 0) rfl) (List.mem_of_getElem? (i := 4) rfl) (by decide) (by omega) dL_law_121 dL_law_122 dL_law_124 dL_law_125 dL_law_126 ?_
      refine lw_arg (k := 2) G hL hpt hl (List.mem_of_getElem? (i := 0) rfl) (List.mem_of_getElem? (i := 4) rfl) (by decide) (by omega) dL_law_127 dL_law_128 dL_law_130 dL_law_131 dL_law_132 ?_
      refine lw_arg (k := 3) G hL hpt hl (List.mem_of_getElem? (i := 0) rfl) (List.mem_of_getElem? (i := 4) rfl) (by decide) (by omega) dL_law_133 dL_law_134 dL_law_136 dL_law_137 dL_law_138 ?_
      refine lw_arg (k := 4) G hL hpt hl (List.mem_of_getElem? (i := 0) rfl) (List.mem_of_getElem? (i := 4) rfl) (by decide) (by omega) dL_law_139 dL_law_140 dL_law_142 dL_law_143 dL_law_144 ?_
      refine lv_aload_n hx hb dL_law_145 rfl (lv_at hl 3 rfl) ?_
      refine lw_callW (n := 6) (As := [.ref ax, .int (xs (i + 1)), .int (xs (i + 2)), .int (xs (i + 3)), .int (xs (i + 4)), .ref qo]) (rest := []) (wx_request_0 (v := v) hls h1 hok.1.1 hf0) rfl G hpt (by rw [hax]) (xt2 10 rfl rfl) (xt2 8 rfl rfl) (xt2 9 rfl rfl) (xt1 0 rfl rfl) (by decide +kernel) rfl (by decide) hl.1 (Nat.le_of_ble_eq_true rfl) dL_law_146 hdd (by show _ ≤ 601024; omega) (by show _ ≤ 7293034; omega) (fun H1 locs1 w1 hag hpt => ?_)
      have hax1 : w1.1 x = ax := (hag x hok.1.1).1.trans hax
      have ham1 : w1.1 mm = am := (hag mm hok.2.1).1.trans ham
      refine lv_istore (lv' := (5, .int 1) :: [(0, .ref b), (1, .ref ax), (2, .ref am), (3, .ref qo), (4, .int (nI i))]) hx hb dL_law_149 hl (by decide) rfl (fun ls1 hl => ?_)
      refine lv_aload_n hx hb dL_law_151 rfl (lv_at hl 3 rfl) ?_
      refine lw_arg (k := 1) G hL hpt hl (List.mem_of_getElem? (i := 1) rfl) (List.mem_of_getElem? (i := 5) rfl) (by decide) (by omega) dL_law_152 dL_law_153 dL_law_155 dL_law_156 dL_law_157 ?_
      refine lw_arg (k := 2) G hL hpt hl (List.mem_of_getElem? (i := 1) rfl) (List.mem_of_getElem? (i := 5) rfl) (by decide) (by omega) dL_law_158 dL_law_159 dL_law_161 dL_law_162 dL_law_163 ?_
      refine lw_arg (k := 3) G hL hpt hl (List.mem_of_getElem? (i := 1) rfl) (List.mem_of_getElem? (i := 5) rfl) (by decide) (by omega) dL_law_164 dL_law_165 dL_law_167 dL_law_168 dL_law_169 ?_
      refine lw_arg (k := 4) G hL hpt hl (List.mem_of_getElem? (i := 1) rfl) (List.mem_of_getElem? (i := 5) rfl) (by decide) (by omega) dL_law_170 dL_law_171 dL_law_173 dL_law_174 dL_law_175 ?_
      refine lw_callM (is := [.int (xs (i + 1)), .int (xs (i + 2)), .int (xs (i + 3)), .int (xs (i + 4))]) (rest := []) h2 G hpt ham1 o1.2.1 hf1 rfl (by decide) (xok_ints [(xs (i + 1)), (xs (i + 2)), (xs (i + 3)), (xs (i + 4))]) rfl (xt4 220 rfl rfl) (xt4 221 rfl rfl) (xt4 222 rfl rfl) hl.1 (Nat.le_of_ble_eq_true rfl) dL_law_176 hdd (by show _ ≤ 601024; omega) (by show _ ≤ 7293034; omega) (fun H2 locs2 w2 hag2 hpt => ?_)
      have hax2 : w2.1 x = ax := (hag2 x o1.1.1).1.trans hax1
      have ham2 : w2.1 mm = am := (hag2 mm o1.2.1).1.trans ham1
      refine lv_istore (lv' := (6, .int b9) :: (5, .int 1) :: [(0, .ref b), (1, .ref ax), (2, .ref am), (3, .ref qo), (4, .int (nI i))]) hx hb dL_law_179 hl (by decide) rfl (fun ls2 hl => ?_)
      refine lv_aload_n hx hb dL_law_181 rfl (lv_at hl 4 rfl) ?_
      refine lw_callM (is := []) (rest := []) h3 G hpt ham2 o2.2.1 hf2 rfl (by decide) (xok_ints []) rfl (xt4 216 rfl rfl) (xt4 217 rfl rfl) (xt4 218 rfl rfl) hl.1 (Nat.le_of_ble_eq_true rfl) dL_law_182 hdd (by show _ ≤ 601024; omega) (by show _ ≤ 7293034; omega) (fun H3 locs3 w3 hag3 hpt => ?_)
      have hax3 : w3.1 x = ax := (hag3 x o2.1.1).1.trans hax2
      have ham3 : w3.1 mm = am := (hag3 mm o2.2.1).1.trans ham2
      refine lv_iload hx hb dL_law_185 (lv_at hl 1 rfl) ?_
      refine lv_icmp_eq (tgt := 192) hx hb dL_law_187 (by decide) (fun _ => ?_) (fun hne => absurd rfl hne)
      refine lv_iload hx hb dL_law_192 (lv_at hl 1 rfl) ?_
      refine lv_if_ne (tgt := 209) hx hb dL_law_194 (by decide) (fun _ => ?_) (fun hz0 => absurd hz0 (by decide))
      refine lv_goto (tgt := 1247) hx hb dL_law_209 (by decide) ?_
      exact lw_num (by omega) (by omega) (hk σ2 w3 _ H3 locs3 _ (t + 1) hI hax3 ham3 hpt (lv_sub hl [2, 3, 4, 5, 6] rfl) (by omega))
    rcases List.mem_cons.mp hek with hek | hek
    · cases hek
      refine lv_aload_n hx hb dL_law_120 rfl (lv_at hl 1 rfl) ?_
      refine lw_arg (k := 1) G hL hpt hl (List.mem_of_getElem? (i := 0) rfl) (List.mem_of_getElem? (i := 4) rfl) (by decide) (by omega) dL_law_121 dL_law_122 dL_law_124 dL_law_125 dL_law_126 ?_
      refine lw_arg (k := 2) G hL hpt hl (List.mem_of_getElem? (i := 0) rfl) (List.mem_of_getElem? (i := 4) rfl) (by decide) (by omega) dL_law_127 dL_law_128 dL_law_130 dL_law_131 dL_law_132 ?_
      refine lw_arg (k := 3) G hL hpt hl (List.mem_of_getElem? (i := 0) rfl) (List.mem_of_getElem? (i := 4) rfl) (by decide) (by omega) dL_law_133 dL_law_134 dL_law_136 dL_law_137 dL_law_138 ?_
      refine lw_arg (k := 4) G hL hpt hl (List.mem_of_getElem? (i := 0) rfl) (List.mem_of_getElem? (i := 4) rfl) (by decide) (by omega) dL_law_139 dL_law_140 dL_law_142 dL_law_143 dL_law_144 ?_
      refine lv_aload_n hx hb dL_law_145 rfl (lv_at hl 3 rfl) ?_
      refine lw_callW (n := 6) (As := [.ref ax, .int (xs (i + 1)), .int (xs (i + 2)), .int (xs (i + 3)), .int (xs (i + 4)), .ref qo]) (rest := []) (wx_request_1 (v := v) hls h1 hok.1.1 hf0) rfl G hpt (by rw [hax]) (xt2 10 rfl rfl) (xt2 8 rfl rfl) (xt2 9 rfl rfl) (xt1 0 rfl rfl) (by decide +kernel) rfl (by decide) hl.1 (Nat.le_of_ble_eq_true rfl) dL_law_146 hdd (by show _ ≤ 601024; omega) (by show _ ≤ 7293034; omega) (fun H1 locs1 w1 hag hpt => ?_)
      have hax1 : w1.1 x = ax := (hag x hok.1.1).1.trans hax
      have ham1 : w1.1 mm = am := (hag mm hok.2.1).1.trans ham
      refine lv_istore (lv' := (5, .int 2) :: [(0, .ref b), (1, .ref ax), (2, .ref am), (3, .ref qo), (4, .int (nI i))]) hx hb dL_law_149 hl (by decide) rfl (fun ls1 hl => ?_)
      refine lv_aload_n hx hb dL_law_151 rfl (lv_at hl 3 rfl) ?_
      refine lw_arg (k := 1) G hL hpt hl (List.mem_of_getElem? (i := 1) rfl) (List.mem_of_getElem? (i := 5) rfl) (by decide) (by omega) dL_law_152 dL_law_153 dL_law_155 dL_law_156 dL_law_157 ?_
      refine lw_arg (k := 2) G hL hpt hl (List.mem_of_getElem? (i := 1) rfl) (List.mem_of_getElem? (i := 5) rfl) (by decide) (by omega) dL_law_158 dL_law_159 dL_law_161 dL_law_162 dL_law_163 ?_
      refine lw_arg (k := 3) G hL hpt hl (List.mem_of_getElem? (i := 1) rfl) (List.mem_of_getElem? (i := 5) rfl) (by decide) (by omega) dL_law_164 dL_law_165 dL_law_167 dL_law_168 dL_law_169 ?_
      refine lw_arg (k := 4) G hL hpt hl (List.mem_of_getElem? (i := 1) rfl) (List.mem_of_getElem? (i := 5) rfl) (by decide) (by omega) dL_law_170 dL_law_171 dL_law_173 dL_law_174 dL_law_175 ?_
      refine lw_callM (is := [.int (xs (i + 1)), .int (xs (i + 2)), .int (xs (i + 3)), .int (xs (i + 4))]) (rest := []) h2 G hpt ham1 o1.2.1 hf1 rfl (by decide) (xok_ints [(xs (i + 1)), (xs (i + 2)), (xs (i + 3)), (xs (i + 4))]) rfl (xt4 220 rfl rfl) (xt4 221 rfl rfl) (xt4 222 rfl rfl) hl.1 (Nat.le_of_ble_eq_true rfl) dL_law_176 hdd (by show _ ≤ 601024; omega) (by show _ ≤ 7293034; omega) (fun H2 locs2 w2 hag2 hpt => ?_)
      have hax2 : w2.1 x = ax := (hag2 x o1.1.1).1.trans hax1
      have ham2 : w2.1 mm = am := (hag2 mm o1.2.1).1.trans ham1
      refine lv_istore (lv' := (6, .int b9) :: (5, .int 2) :: [(0, .ref b), (1, .ref ax), (2, .ref am), (3, .ref qo), (4, .int (nI i))]) hx hb dL_law_179 hl (by decide) rfl (fun ls2 hl => ?_)
      refine lv_aload_n hx hb dL_law_181 rfl (lv_at hl 4 rfl) ?_
      refine lw_callM (is := []) (rest := []) h3 G hpt ham2 o2.2.1 hf2 rfl (by decide) (xok_ints []) rfl (xt4 216 rfl rfl) (xt4 217 rfl rfl) (xt4 218 rfl rfl) hl.1 (Nat.le_of_ble_eq_true rfl) dL_law_182 hdd (by show _ ≤ 601024; omega) (by show _ ≤ 7293034; omega) (fun H3 locs3 w3 hag3 hpt => ?_)
      have hax3 : w3.1 x = ax := (hag3 x o2.1.1).1.trans hax2
      have ham3 : w3.1 mm = am := (hag3 mm o2.2.1).1.trans ham2
      refine lv_iload hx hb dL_law_185 (lv_at hl 1 rfl) ?_
      refine lv_icmp_eq (tgt := 192) hx hb dL_law_187 (by decide) (fun _ => ?_) (fun hne => absurd rfl hne)
      refine lv_iload hx hb dL_law_192 (lv_at hl 1 rfl) ?_
      refine lv_if_ne (tgt := 209) hx hb dL_law_194 (by decide) (fun _ => ?_) (fun hz0 => absurd hz0 (by decide))
      refine lv_goto (tgt := 1247) hx hb dL_law_209 (by decide) ?_
      exact lw_num (by omega) (by omega) (hk σ2 w3 _ H3 locs3 _ (t + 1) hI hax3 ham3 hpt (lv_sub hl [2, 3, 4, 5, 6] rfl) (by omega))
    cases hek
set_option maxHeartbeats 2000000 in
set_option maxRecDepth 100000 in
theorem lc_bring {p : Program} {l : Launch} {e : Env} {s : State} {m : MethodId} {below : List Frame} {meth : Method} {c : Code} {Q : State → Prop} {D : va_G} {H : Heap} {locs : List Loc} {ls : Array Slot} {w : XW} {σ : XS} {qo ax am : Nat} {cL : ClassId} {v : Nat → Int64} {b L d x mm i t : Nat} {xs : Nat → Int32} {Inv : XS → Prop} (hls : l.stackTraces = false) (G : lwH p s m meth c b L xs) (hL : L ≤ 3072) (hi : i + 6 ≤ L) (hop : lwI d x mm 77 133 [.int (xs (i + 1)), .int (xs (i + 2))] [(2, 1)] Inv σ) (hok : lwOk x mm σ) (hbd : ∀ σ, Inv σ → σ.1 ≤ 2000 ∧ σ.2.1 ≤ 100000) (ht : t ≤ 3072) (hdd : d ≤ 1000) (hpt : lwPt D (lwA s) s H locs w σ qo cL v) (hax : w.1 x = ax) (ham : w.1 mm = am) (hl : lv_has ls 7 [(0, .ref b), (1, .ref ax), (2, .ref am), (3, .ref qo), (4, .int (nI i))])
    (hk : ∀ (σ' : XS) (w' : XW) (v' : Nat → Int64) (H' : Heap) (locs' : List Loc) (ls' : Array Slot) (t' : Nat), Inv σ' → w'.1 x = ax → w'.1 mm = am → lwPt D (lwA s) s H' locs' w' σ' qo cL v' → lv_has ls' 7 [(0, .ref b), (1, .ref ax), (2, .ref am), (3, .ref qo), (4, .int (nI i))] → t' ≤ t + 1 → W p l e room_1 s m #[Value.ref b] below meth c H' locs' (σ'.1 + 1 + t') (σ'.2.1 + 1 + 6 * t') Q (F0 m 1247 ls' [])) :
    W p l e room_1 s m #[Value.ref b] below meth c H locs (σ.1 + 1 + t) (σ.2.1 + 1 + 6 * t) Q (F0 m 212 ls []) := by
  obtain ⟨⟨hx, hb, hr, hml, hown, hts0, hX, hbl, hlocks, hgv⟩, hts, htn, hz, hnc⟩ := id G
  obtain ⟨fs0, hf0⟩ := hok.1.2
  rcases hop with ⟨N1, N2, N3, r, σ1, σ2, h1, o1, h2, o2, h3, hI⟩ | ⟨N1, N2, N3, E, k, b9, σ1, σ2, h1, hek, o1, h2, o2, h3, hI⟩
  · have q1 := xcall_mono _ _ _ _ _ _ h1
    have q2 := xcall_mono _ _ _ _ _ _ h2
    have q3 := hbd σ2 hI
    obtain ⟨fs1, hf1⟩ := o1.2.2
    obtain ⟨fs2, hf2⟩ := o2.2.2
    refine lv_aload_n hx hb dL_law_212 rfl (lv_at hl 1 rfl) ?_
    refine lw_arg (k := 1) G hL hpt hl (List.mem_of_getElem? (i := 0) rfl) (List.mem_of_getElem? (i := 4) rfl) (by decide) (by omega) dL_law_213 dL_law_214 dL_law_216 dL_law_217 dL_law_218 ?_
    refine lw_arg (k := 2) G hL hpt hl (List.mem_of_getElem? (i := 0) rfl) (List.mem_of_getElem? (i := 4) rfl) (by decide) (by omega) dL_law_219 dL_law_220 dL_law_222 dL_law_223 dL_law_224 ?_
    refine lv_aload_n hx hb dL_law_225 rfl (lv_at hl 3 rfl) ?_
    refine lw_callW (n := 4) (As := [.ref ax, .int (xs (i + 1)), .int (xs (i + 2)), .ref qo]) (rest := []) (wn_bring (v := v) h1 hok.1.1 hf0) rfl G hpt (by rw [hax]) (xt2 114 rfl rfl) (xt2 112 rfl rfl) (xt2 113 rfl rfl) (xt1 0 rfl rfl) (by decide +kernel) rfl (by decide) hl.1 (Nat.le_of_ble_eq_true rfl) dL_law_226 hdd (by show _ ≤ 601024; omega) (by show _ ≤ 7293034; omega) (fun H1 locs1 w1 hag hpt => ?_)
    have hax1 : w1.1 x = ax := (hag x hok.1.1).1.trans hax
    have ham1 : w1.1 mm = am := (hag mm hok.2.1).1.trans ham
    refine lv_istore (lv' := (5, .int 0) :: [(0, .ref b), (1, .ref ax), (2, .ref am), (3, .ref qo), (4, .int (nI i))]) hx hb dL_law_229 hl (by decide) rfl (fun ls1 hl => ?_)
    refine lv_aload_n hx hb dL_law_231 rfl (lv_at hl 3 rfl) ?_
    refine lw_arg (k := 1) G hL hpt hl (List.mem_of_getElem? (i := 1) rfl) (List.mem_of_getElem? (i := 5) rfl) (by decide) (by omega) dL_law_232 dL_law_233 dL_law_235 dL_law_236 dL_law_237 ?_
    refine lw_arg (k := 2) G hL hpt hl (List.mem_of_getElem? (i := 1) rfl) (List.mem_of_getElem? (i := 5) rfl) (by decide) (by omega) dL_law_238 dL_law_239 dL_law_241 dL_law_242 dL_law_243 ?_
    refine lw_callM (is := [.int (xs (i + 1)), .int (xs (i + 2))]) (rest := []) h2 G hpt ham1 o1.2.1 hf1 rfl (by decide) (xok_ints [(xs (i + 1)), (xs (i + 2))]) rfl (xt4 224 rfl rfl) (xt4 225 rfl rfl) (xt4 226 rfl rfl) hl.1 (Nat.le_of_ble_eq_true rfl) dL_law_244 hdd (by show _ ≤ 601024; omega) (by show _ ≤ 7293034; omega) (fun H2 locs2 w2 hag2 hpt => ?_)
    have hax2 : w2.1 x = ax := (hag2 x o1.1.1).1.trans hax1
    have ham2 : w2.1 mm = am := (hag2 mm o1.2.1).1.trans ham1
    refine lv_istore (lv' := (6, .int r) :: (5, .int 0) :: [(0, .ref b), (1, .ref ax), (2, .ref am), (3, .ref qo), (4, .int (nI i))]) hx hb dL_law_247 hl (by decide) rfl (fun ls2 hl => ?_)
    refine lv_aload_n hx hb dL_law_249 rfl (lv_at hl 4 rfl) ?_
    refine lw_callM (is := []) (rest := []) h3 G hpt ham2 o2.2.1 hf2 rfl (by decide) (xok_ints []) rfl (xt4 216 rfl rfl) (xt4 217 rfl rfl) (xt4 218 rfl rfl) hl.1 (Nat.le_of_ble_eq_true rfl) dL_law_250 hdd (by show _ ≤ 601024; omega) (by show _ ≤ 7293034; omega) (fun H3 locs3 w3 hag3 hpt => ?_)
    have hax3 : w3.1 x = ax := (hag3 x o2.1.1).1.trans hax2
    have ham3 : w3.1 mm = am := (hag3 mm o2.2.1).1.trans ham2
    refine lv_iload hx hb dL_law_253 (lv_at hl 1 rfl) ?_
    refine lv_icmp_eq (tgt := 260) hx hb dL_law_255 (by decide) (fun _ => ?_) (fun hne => absurd rfl hne)
    refine lv_iload hx hb dL_law_260 (lv_at hl 1 rfl) ?_
    refine lv_if_ne (tgt := 277) hx hb dL_law_262 (by decide) (fun hne => absurd rfl hne) (fun _ => ?_)
    refine lv_aload_n hx hb dL_law_265 rfl (lv_at hl 5 rfl) ?_
    refine lv_iconst (v := 0) hx hb dL_law_266 (by decide) ?_
    refine lw_laload G hpt dL_law_267 ?_
    rw [pk_uLs]
    refine lv_iload hx hb dL_law_268 (lv_at hl 0 rfl) ?_
    refine lv_i2l hx hb dL_law_270 rfl ?_
    refine W.lcmp hx hb dL_law_271 ?_
    rw [lg_cmp_self]
    refine lv_if_eq (tgt := 277) hx hb dL_law_272 (by decide) (fun _ => ?_) (fun hne => absurd rfl hne)
    refine lv_goto (tgt := 1247) hx hb dL_law_277 (by decide) ?_
    exact lw_num (by omega) (by omega) (hk σ2 w3 _ H3 locs3 _ t hI hax3 ham3 hpt (lv_sub hl [2, 3, 4, 5, 6] rfl) (by omega))
  · have q1 := xcallX_mono _ _ _ _ _ _ h1
    have q2 := xcall_mono _ _ _ _ _ _ h2
    have q3 := hbd σ2 hI
    obtain ⟨fs1, hf1⟩ := o1.2.2
    obtain ⟨fs2, hf2⟩ := o2.2.2
    rcases List.mem_cons.mp hek with hek | hek
    · cases hek
      refine lv_aload_n hx hb dL_law_212 rfl (lv_at hl 1 rfl) ?_
      refine lw_arg (k := 1) G hL hpt hl (List.mem_of_getElem? (i := 0) rfl) (List.mem_of_getElem? (i := 4) rfl) (by decide) (by omega) dL_law_213 dL_law_214 dL_law_216 dL_law_217 dL_law_218 ?_
      refine lw_arg (k := 2) G hL hpt hl (List.mem_of_getElem? (i := 0) rfl) (List.mem_of_getElem? (i := 4) rfl) (by decide) (by omega) dL_law_219 dL_law_220 dL_law_222 dL_law_223 dL_law_224 ?_
      refine lv_aload_n hx hb dL_law_225 rfl (lv_at hl 3 rfl) ?_
      refine lw_callW (n := 4) (As := [.ref ax, .int (xs (i + 1)), .int (xs (i + 2)), .ref qo]) (rest := []) (wx_bring_2 (v := v) hls h1 hok.1.1 hf0) rfl G hpt (by rw [hax]) (xt2 114 rfl rfl) (xt2 112 rfl rfl) (xt2 113 rfl rfl) (xt1 0 rfl rfl) (by decide +kernel) rfl (by decide) hl.1 (Nat.le_of_ble_eq_true rfl) dL_law_226 hdd (by show _ ≤ 601024; omega) (by show _ ≤ 7293034; omega) (fun H1 locs1 w1 hag hpt => ?_)
      have hax1 : w1.1 x = ax := (hag x hok.1.1).1.trans hax
      have ham1 : w1.1 mm = am := (hag mm hok.2.1).1.trans ham
      refine lv_istore (lv' := (5, .int 1) :: [(0, .ref b), (1, .ref ax), (2, .ref am), (3, .ref qo), (4, .int (nI i))]) hx hb dL_law_229 hl (by decide) rfl (fun ls1 hl => ?_)
      refine lv_aload_n hx hb dL_law_231 rfl (lv_at hl 3 rfl) ?_
      refine lw_arg (k := 1) G hL hpt hl (List.mem_of_getElem? (i := 1) rfl) (List.mem_of_getElem? (i := 5) rfl) (by decide) (by omega) dL_law_232 dL_law_233 dL_law_235 dL_law_236 dL_law_237 ?_
      refine lw_arg (k := 2) G hL hpt hl (List.mem_of_getElem? (i := 1) rfl) (List.mem_of_getElem? (i := 5) rfl) (by decide) (by omega) dL_law_238 dL_law_239 dL_law_241 dL_law_242 dL_law_243 ?_
      refine lw_callM (is := [.int (xs (i + 1)), .int (xs (i + 2))]) (rest := []) h2 G hpt ham1 o1.2.1 hf1 rfl (by decide) (xok_ints [(xs (i + 1)), (xs (i + 2))]) rfl (xt4 224 rfl rfl) (xt4 225 rfl rfl) (xt4 226 rfl rfl) hl.1 (Nat.le_of_ble_eq_true rfl) dL_law_244 hdd (by show _ ≤ 601024; omega) (by show _ ≤ 7293034; omega) (fun H2 locs2 w2 hag2 hpt => ?_)
      have hax2 : w2.1 x = ax := (hag2 x o1.1.1).1.trans hax1
      have ham2 : w2.1 mm = am := (hag2 mm o1.2.1).1.trans ham1
      refine lv_istore (lv' := (6, .int b9) :: (5, .int 1) :: [(0, .ref b), (1, .ref ax), (2, .ref am), (3, .ref qo), (4, .int (nI i))]) hx hb dL_law_247 hl (by decide) rfl (fun ls2 hl => ?_)
      refine lv_aload_n hx hb dL_law_249 rfl (lv_at hl 4 rfl) ?_
      refine lw_callM (is := []) (rest := []) h3 G hpt ham2 o2.2.1 hf2 rfl (by decide) (xok_ints []) rfl (xt4 216 rfl rfl) (xt4 217 rfl rfl) (xt4 218 rfl rfl) hl.1 (Nat.le_of_ble_eq_true rfl) dL_law_250 hdd (by show _ ≤ 601024; omega) (by show _ ≤ 7293034; omega) (fun H3 locs3 w3 hag3 hpt => ?_)
      have hax3 : w3.1 x = ax := (hag3 x o2.1.1).1.trans hax2
      have ham3 : w3.1 mm = am := (hag3 mm o2.2.1).1.trans ham2
      refine lv_iload hx hb dL_law_253 (lv_at hl 1 rfl) ?_
      refine lv_icmp_eq (tgt := 260) hx hb dL_law_255 (by decide) (fun _ => ?_) (fun hne => absurd rfl hne)
      refine lv_iload hx hb dL_law_260 (lv_at hl 1 rfl) ?_
      refine lv_if_ne (tgt := 277) hx hb dL_law_262 (by decide) (fun _ => ?_) (fun hz0 => absurd hz0 (by decide))
      refine lv_goto (tgt := 1247) hx hb dL_law_277 (by decide) ?_
      exact lw_num (by omega) (by omega) (hk σ2 w3 _ H3 locs3 _ (t + 1) hI hax3 ham3 hpt (lv_sub hl [2, 3, 4, 5, 6] rfl) (by omega))
    cases hek
set_option maxHeartbeats 2000000 in
set_option maxRecDepth 100000 in
theorem lc_send {p : Program} {l : Launch} {e : Env} {s : State} {m : MethodId} {below : List Frame} {meth : Method} {c : Code} {Q : State → Prop} {D : va_G} {H : Heap} {locs : List Loc} {ls : Array Slot} {w : XW} {σ : XS} {qo ax am : Nat} {cL : ClassId} {v : Nat → Int64} {b L d x mm i t : Nat} {xs : Nat → Int32} {Inv : XS → Prop} (hls : l.stackTraces = false) (G : lwH p s m meth c b L xs) (hL : L ≤ 3072) (hi : i + 6 ≤ L) (hop : lwI d x mm 78 134 [.int (xs (i + 1)), .int (xs (i + 2)), .int (xs (i + 3))] [(2, 1), (0, 2)] Inv σ) (hok : lwOk x mm σ) (hbd : ∀ σ, Inv σ → σ.1 ≤ 2000 ∧ σ.2.1 ≤ 100000) (ht : t ≤ 3072) (hdd : d ≤ 1000) (hpt : lwPt D (lwA s) s H locs w σ qo cL v) (hax : w.1 x = ax) (ham : w.1 mm = am) (hl : lv_has ls 7 [(0, .ref b), (1, .ref ax), (2, .ref am), (3, .ref qo), (4, .int (nI i))])
    (hk : ∀ (σ' : XS) (w' : XW) (v' : Nat → Int64) (H' : Heap) (locs' : List Loc) (ls' : Array Slot) (t' : Nat), Inv σ' → w'.1 x = ax → w'.1 mm = am → lwPt D (lwA s) s H' locs' w' σ' qo cL v' → lv_has ls' 7 [(0, .ref b), (1, .ref ax), (2, .ref am), (3, .ref qo), (4, .int (nI i))] → t' ≤ t + 1 → W p l e room_1 s m #[Value.ref b] below meth c H' locs' (σ'.1 + 1 + t') (σ'.2.1 + 1 + 6 * t') Q (F0 m 1247 ls' [])) :
    W p l e room_1 s m #[Value.ref b] below meth c H locs (σ.1 + 1 + t) (σ.2.1 + 1 + 6 * t) Q (F0 m 280 ls []) := by
  obtain ⟨⟨hx, hb, hr, hml, hown, hts0, hX, hbl, hlocks, hgv⟩, hts, htn, hz, hnc⟩ := id G
  obtain ⟨fs0, hf0⟩ := hok.1.2
  rcases hop with ⟨N1, N2, N3, r, σ1, σ2, h1, o1, h2, o2, h3, hI⟩ | ⟨N1, N2, N3, E, k, b9, σ1, σ2, h1, hek, o1, h2, o2, h3, hI⟩
  · have q1 := xcall_mono _ _ _ _ _ _ h1
    have q2 := xcall_mono _ _ _ _ _ _ h2
    have q3 := hbd σ2 hI
    obtain ⟨fs1, hf1⟩ := o1.2.2
    obtain ⟨fs2, hf2⟩ := o2.2.2
    refine lv_aload_n hx hb dL_law_280 rfl (lv_at hl 1 rfl) ?_
    refine lw_arg (k := 1) G hL hpt hl (List.mem_of_getElem? (i := 0) rfl) (List.mem_of_getElem? (i := 4) rfl) (by decide) (by omega) dL_law_281 dL_law_282 dL_law_284 dL_law_285 dL_law_286 ?_
    refine lw_arg (k := 2) G hL hpt hl (List.mem_of_getElem? (i := 0) rfl) (List.mem_of_getElem? (i := 4) rfl) (by decide) (by omega) dL_law_287 dL_law_288 dL_law_290 dL_law_291 dL_law_292 ?_
    refine lw_arg (k := 3) G hL hpt hl (List.mem_of_getElem? (i := 0) rfl) (List.mem_of_getElem? (i := 4) rfl) (by decide) (by omega) dL_law_293 dL_law_294 dL_law_296 dL_law_297 dL_law_298 ?_
    refine lv_aload_n hx hb dL_law_299 rfl (lv_at hl 3 rfl) ?_
    refine lw_callW (n := 5) (As := [.ref ax, .int (xs (i + 1)), .int (xs (i + 2)), .int (xs (i + 3)), .ref qo]) (rest := []) (wn_send (v := v) h1 hok.1.1 hf0) rfl G hpt (by rw [hax]) (xt3 108 rfl rfl) (xt3 106 rfl rfl) (xt3 107 rfl rfl) (xt1 0 rfl rfl) (by decide +kernel) rfl (by decide) hl.1 (Nat.le_of_ble_eq_true rfl) dL_law_300 hdd (by show _ ≤ 601024; omega) (by show _ ≤ 7293034; omega) (fun H1 locs1 w1 hag hpt => ?_)
    have hax1 : w1.1 x = ax := (hag x hok.1.1).1.trans hax
    have ham1 : w1.1 mm = am := (hag mm hok.2.1).1.trans ham
    refine lv_istore (lv' := (5, .int 0) :: [(0, .ref b), (1, .ref ax), (2, .ref am), (3, .ref qo), (4, .int (nI i))]) hx hb dL_law_303 hl (by decide) rfl (fun ls1 hl => ?_)
    refine lv_aload_n hx hb dL_law_305 rfl (lv_at hl 3 rfl) ?_
    refine lw_arg (k := 1) G hL hpt hl (List.mem_of_getElem? (i := 1) rfl) (List.mem_of_getElem? (i := 5) rfl) (by decide) (by omega) dL_law_306 dL_law_307 dL_law_309 dL_law_310 dL_law_311 ?_
    refine lw_arg (k := 2) G hL hpt hl (List.mem_of_getElem? (i := 1) rfl) (List.mem_of_getElem? (i := 5) rfl) (by decide) (by omega) dL_law_312 dL_law_313 dL_law_315 dL_law_316 dL_law_317 ?_
    refine lw_arg (k := 3) G hL hpt hl (List.mem_of_getElem? (i := 1) rfl) (List.mem_of_getElem? (i := 5) rfl) (by decide) (by omega) dL_law_318 dL_law_319 dL_law_321 dL_law_322 dL_law_323 ?_
    refine lw_callM (is := [.int (xs (i + 1)), .int (xs (i + 2)), .int (xs (i + 3))]) (rest := []) h2 G hpt ham1 o1.2.1 hf1 rfl (by decide) (xok_ints [(xs (i + 1)), (xs (i + 2)), (xs (i + 3))]) rfl (xt5 94 rfl rfl) (xt5 95 rfl rfl) (xt5 96 rfl rfl) hl.1 (Nat.le_of_ble_eq_true rfl) dL_law_324 hdd (by show _ ≤ 601024; omega) (by show _ ≤ 7293034; omega) (fun H2 locs2 w2 hag2 hpt => ?_)
    have hax2 : w2.1 x = ax := (hag2 x o1.1.1).1.trans hax1
    have ham2 : w2.1 mm = am := (hag2 mm o1.2.1).1.trans ham1
    refine lv_istore (lv' := (6, .int r) :: (5, .int 0) :: [(0, .ref b), (1, .ref ax), (2, .ref am), (3, .ref qo), (4, .int (nI i))]) hx hb dL_law_327 hl (by decide) rfl (fun ls2 hl => ?_)
    refine lv_aload_n hx hb dL_law_329 rfl (lv_at hl 4 rfl) ?_
    refine lw_callM (is := []) (rest := []) h3 G hpt ham2 o2.2.1 hf2 rfl (by decide) (xok_ints []) rfl (xt4 216 rfl rfl) (xt4 217 rfl rfl) (xt4 218 rfl rfl) hl.1 (Nat.le_of_ble_eq_true rfl) dL_law_330 hdd (by show _ ≤ 601024; omega) (by show _ ≤ 7293034; omega) (fun H3 locs3 w3 hag3 hpt => ?_)
    have hax3 : w3.1 x = ax := (hag3 x o2.1.1).1.trans hax2
    have ham3 : w3.1 mm = am := (hag3 mm o2.2.1).1.trans ham2
    refine lv_iload hx hb dL_law_333 (lv_at hl 1 rfl) ?_
    refine lv_icmp_eq (tgt := 340) hx hb dL_law_335 (by decide) (fun _ => ?_) (fun hne => absurd rfl hne)
    refine lv_iload hx hb dL_law_340 (lv_at hl 1 rfl) ?_
    refine lv_if_ne (tgt := 357) hx hb dL_law_342 (by decide) (fun hne => absurd rfl hne) (fun _ => ?_)
    refine lv_aload_n hx hb dL_law_345 rfl (lv_at hl 5 rfl) ?_
    refine lv_iconst (v := 0) hx hb dL_law_346 (by decide) ?_
    refine lw_laload G hpt dL_law_347 ?_
    rw [pk_uLs]
    refine lv_iload hx hb dL_law_348 (lv_at hl 0 rfl) ?_
    refine lv_i2l hx hb dL_law_350 rfl ?_
    refine W.lcmp hx hb dL_law_351 ?_
    rw [lg_cmp_self]
    refine lv_if_eq (tgt := 357) hx hb dL_law_352 (by decide) (fun _ => ?_) (fun hne => absurd rfl hne)
    refine lv_goto (tgt := 1247) hx hb dL_law_357 (by decide) ?_
    exact lw_num (by omega) (by omega) (hk σ2 w3 _ H3 locs3 _ t hI hax3 ham3 hpt (lv_sub hl [2, 3, 4, 5, 6] rfl) (by omega))
  · have q1 := xcallX_mono _ _ _ _ _ _ h1
    have q2 := xcall_mono _ _ _ _ _ _ h2
    have q3 := hbd σ2 hI
    obtain ⟨fs1, hf1⟩ := o1.2.2
    obtain ⟨fs2, hf2⟩ := o2.2.2
    rcases List.mem_cons.mp hek with hek | hek
    · cases hek
      refine lv_aload_n hx hb dL_law_280 rfl (lv_at hl 1 rfl) ?_
      refine lw_arg (k := 1) G hL hpt hl (List.mem_of_getElem? (i := 0) rfl) (List.mem_of_getElem? (i := 4) rfl) (by decide) (by omega) dL_law_281 dL_law_282 dL_law_284 dL_law_285 dL_law_286 ?_
      refine lw_arg (k := 2) G hL hpt hl (List.mem_of_getElem? (i := 0) rfl) (List.mem_of_getElem? (i := 4) rfl) (by decide) (by omega) dL_law_287 dL_law_288 dL_law_290 dL_law_291 dL_law_292 ?_
      refine lw_arg (k := 3) G hL hpt hl (List.mem_of_getElem? (i := 0) rfl) (List.mem_of_getElem? (i := 4) rfl) (by decide) (by omega) dL_law_293 dL_law_294 dL_law_296 dL_law_297 dL_law_298 ?_
      refine lv_aload_n hx hb dL_law_299 rfl (lv_at hl 3 rfl) ?_
      refine lw_callW (n := 5) (As := [.ref ax, .int (xs (i + 1)), .int (xs (i + 2)), .int (xs (i + 3)), .ref qo]) (rest := []) (wx_send_2 (v := v) hls h1 hok.1.1 hf0) rfl G hpt (by rw [hax]) (xt3 108 rfl rfl) (xt3 106 rfl rfl) (xt3 107 rfl rfl) (xt1 0 rfl rfl) (by decide +kernel) rfl (by decide) hl.1 (Nat.le_of_ble_eq_true rfl) dL_law_300 hdd (by show _ ≤ 601024; omega) (by show _ ≤ 7293034; omega) (fun H1 locs1 w1 hag hpt => ?_)
      have hax1 : w1.1 x = ax := (hag x hok.1.1).1.trans hax
      have ham1 : w1.1 mm = am := (hag mm hok.2.1).1.trans ham
      refine lv_istore (lv' := (5, .int 1) :: [(0, .ref b), (1, .ref ax), (2, .ref am), (3, .ref qo), (4, .int (nI i))]) hx hb dL_law_303 hl (by decide) rfl (fun ls1 hl => ?_)
      refine lv_aload_n hx hb dL_law_305 rfl (lv_at hl 3 rfl) ?_
      refine lw_arg (k := 1) G hL hpt hl (List.mem_of_getElem? (i := 1) rfl) (List.mem_of_getElem? (i := 5) rfl) (by decide) (by omega) dL_law_306 dL_law_307 dL_law_309 dL_law_310 dL_law_311 ?_
      refine lw_arg (k := 2) G hL hpt hl (List.mem_of_getElem? (i := 1) rfl) (List.mem_of_getElem? (i := 5) rfl) (by decide) (by omega) dL_law_312 dL_law_313 dL_law_315 dL_law_316 dL_law_317 ?_
      refine lw_arg (k := 3) G hL hpt hl (List.mem_of_getElem? (i := 1) rfl) (List.mem_of_getElem? (i := 5) rfl) (by decide) (by omega) dL_law_318 dL_law_319 dL_law_321 dL_law_322 dL_law_323 ?_
      refine lw_callM (is := [.int (xs (i + 1)), .int (xs (i + 2)), .int (xs (i + 3))]) (rest := []) h2 G hpt ham1 o1.2.1 hf1 rfl (by decide) (xok_ints [(xs (i + 1)), (xs (i + 2)), (xs (i + 3))]) rfl (xt5 94 rfl rfl) (xt5 95 rfl rfl) (xt5 96 rfl rfl) hl.1 (Nat.le_of_ble_eq_true rfl) dL_law_324 hdd (by show _ ≤ 601024; omega) (by show _ ≤ 7293034; omega) (fun H2 locs2 w2 hag2 hpt => ?_)
      have hax2 : w2.1 x = ax := (hag2 x o1.1.1).1.trans hax1
      have ham2 : w2.1 mm = am := (hag2 mm o1.2.1).1.trans ham1
      refine lv_istore (lv' := (6, .int b9) :: (5, .int 1) :: [(0, .ref b), (1, .ref ax), (2, .ref am), (3, .ref qo), (4, .int (nI i))]) hx hb dL_law_327 hl (by decide) rfl (fun ls2 hl => ?_)
      refine lv_aload_n hx hb dL_law_329 rfl (lv_at hl 4 rfl) ?_
      refine lw_callM (is := []) (rest := []) h3 G hpt ham2 o2.2.1 hf2 rfl (by decide) (xok_ints []) rfl (xt4 216 rfl rfl) (xt4 217 rfl rfl) (xt4 218 rfl rfl) hl.1 (Nat.le_of_ble_eq_true rfl) dL_law_330 hdd (by show _ ≤ 601024; omega) (by show _ ≤ 7293034; omega) (fun H3 locs3 w3 hag3 hpt => ?_)
      have hax3 : w3.1 x = ax := (hag3 x o2.1.1).1.trans hax2
      have ham3 : w3.1 mm = am := (hag3 mm o2.2.1).1.trans ham2
      refine lv_iload hx hb dL_law_333 (lv_at hl 1 rfl) ?_
      refine lv_icmp_eq (tgt := 340) hx hb dL_law_335 (by decide) (fun _ => ?_) (fun hne => absurd rfl hne)
      refine lv_iload hx hb dL_law_340 (lv_at hl 1 rfl) ?_
      refine lv_if_ne (tgt := 357) hx hb dL_law_342 (by decide) (fun _ => ?_) (fun hz0 => absurd hz0 (by decide))
      refine lv_goto (tgt := 1247) hx hb dL_law_357 (by decide) ?_
      exact lw_num (by omega) (by omega) (hk σ2 w3 _ H3 locs3 _ (t + 1) hI hax3 ham3 hpt (lv_sub hl [2, 3, 4, 5, 6] rfl) (by omega))
    rcases List.mem_cons.mp hek with hek | hek
    · cases hek
      refine lv_aload_n hx hb dL_law_280 rfl (lv_at hl 1 rfl) ?_
      refine lw_arg (k := 1) G hL hpt hl (List.mem_of_getElem? (i := 0) rfl) (List.mem_of_getElem? (i := 4) rfl) (by decide) (by omega) dL_law_281 dL_law_282 dL_law_284 dL_law_285 dL_law_286 ?_
      refine lw_arg (k := 2) G hL hpt hl (List.mem_of_getElem? (i := 0) rfl) (List.mem_of_getElem? (i := 4) rfl) (by decide) (by omega) dL_law_287 dL_law_288 dL_law_290 dL_law_291 dL_law_292 ?_
      refine lw_arg (k := 3) G hL hpt hl (List.mem_of_getElem? (i := 0) rfl) (List.mem_of_getElem? (i := 4) rfl) (by decide) (by omega) dL_law_293 dL_law_294 dL_law_296 dL_law_297 dL_law_298 ?_
      refine lv_aload_n hx hb dL_law_299 rfl (lv_at hl 3 rfl) ?_
      refine lw_callW (n := 5) (As := [.ref ax, .int (xs (i + 1)), .int (xs (i + 2)), .int (xs (i + 3)), .ref qo]) (rest := []) (wx_send_0 (v := v) hls h1 hok.1.1 hf0) rfl G hpt (by rw [hax]) (xt3 108 rfl rfl) (xt3 106 rfl rfl) (xt3 107 rfl rfl) (xt1 0 rfl rfl) (by decide +kernel) rfl (by decide) hl.1 (Nat.le_of_ble_eq_true rfl) dL_law_300 hdd (by show _ ≤ 601024; omega) (by show _ ≤ 7293034; omega) (fun H1 locs1 w1 hag hpt => ?_)
      have hax1 : w1.1 x = ax := (hag x hok.1.1).1.trans hax
      have ham1 : w1.1 mm = am := (hag mm hok.2.1).1.trans ham
      refine lv_istore (lv' := (5, .int 2) :: [(0, .ref b), (1, .ref ax), (2, .ref am), (3, .ref qo), (4, .int (nI i))]) hx hb dL_law_303 hl (by decide) rfl (fun ls1 hl => ?_)
      refine lv_aload_n hx hb dL_law_305 rfl (lv_at hl 3 rfl) ?_
      refine lw_arg (k := 1) G hL hpt hl (List.mem_of_getElem? (i := 1) rfl) (List.mem_of_getElem? (i := 5) rfl) (by decide) (by omega) dL_law_306 dL_law_307 dL_law_309 dL_law_310 dL_law_311 ?_
      refine lw_arg (k := 2) G hL hpt hl (List.mem_of_getElem? (i := 1) rfl) (List.mem_of_getElem? (i := 5) rfl) (by decide) (by omega) dL_law_312 dL_law_313 dL_law_315 dL_law_316 dL_law_317 ?_
      refine lw_arg (k := 3) G hL hpt hl (List.mem_of_getElem? (i := 1) rfl) (List.mem_of_getElem? (i := 5) rfl) (by decide) (by omega) dL_law_318 dL_law_319 dL_law_321 dL_law_322 dL_law_323 ?_
      refine lw_callM (is := [.int (xs (i + 1)), .int (xs (i + 2)), .int (xs (i + 3))]) (rest := []) h2 G hpt ham1 o1.2.1 hf1 rfl (by decide) (xok_ints [(xs (i + 1)), (xs (i + 2)), (xs (i + 3))]) rfl (xt5 94 rfl rfl) (xt5 95 rfl rfl) (xt5 96 rfl rfl) hl.1 (Nat.le_of_ble_eq_true rfl) dL_law_324 hdd (by show _ ≤ 601024; omega) (by show _ ≤ 7293034; omega) (fun H2 locs2 w2 hag2 hpt => ?_)
      have hax2 : w2.1 x = ax := (hag2 x o1.1.1).1.trans hax1
      have ham2 : w2.1 mm = am := (hag2 mm o1.2.1).1.trans ham1
      refine lv_istore (lv' := (6, .int b9) :: (5, .int 2) :: [(0, .ref b), (1, .ref ax), (2, .ref am), (3, .ref qo), (4, .int (nI i))]) hx hb dL_law_327 hl (by decide) rfl (fun ls2 hl => ?_)
      refine lv_aload_n hx hb dL_law_329 rfl (lv_at hl 4 rfl) ?_
      refine lw_callM (is := []) (rest := []) h3 G hpt ham2 o2.2.1 hf2 rfl (by decide) (xok_ints []) rfl (xt4 216 rfl rfl) (xt4 217 rfl rfl) (xt4 218 rfl rfl) hl.1 (Nat.le_of_ble_eq_true rfl) dL_law_330 hdd (by show _ ≤ 601024; omega) (by show _ ≤ 7293034; omega) (fun H3 locs3 w3 hag3 hpt => ?_)
      have hax3 : w3.1 x = ax := (hag3 x o2.1.1).1.trans hax2
      have ham3 : w3.1 mm = am := (hag3 mm o2.2.1).1.trans ham2
      refine lv_iload hx hb dL_law_333 (lv_at hl 1 rfl) ?_
      refine lv_icmp_eq (tgt := 340) hx hb dL_law_335 (by decide) (fun _ => ?_) (fun hne => absurd rfl hne)
      refine lv_iload hx hb dL_law_340 (lv_at hl 1 rfl) ?_
      refine lv_if_ne (tgt := 357) hx hb dL_law_342 (by decide) (fun _ => ?_) (fun hz0 => absurd hz0 (by decide))
      refine lv_goto (tgt := 1247) hx hb dL_law_357 (by decide) ?_
      exact lw_num (by omega) (by omega) (hk σ2 w3 _ H3 locs3 _ (t + 1) hI hax3 ham3 hpt (lv_sub hl [2, 3, 4, 5, 6] rfl) (by omega))
    cases hek
set_option maxHeartbeats 2000000 in
set_option maxRecDepth 100000 in
theorem lc_late {p : Program} {l : Launch} {e : Env} {s : State} {m : MethodId} {below : List Frame} {meth : Method} {c : Code} {Q : State → Prop} {D : va_G} {H : Heap} {locs : List Loc} {ls : Array Slot} {w : XW} {σ : XS} {qo ax am : Nat} {cL : ClassId} {v : Nat → Int64} {b L d x mm i t : Nat} {xs : Nat → Int32} {Inv : XS → Prop} (hls : l.stackTraces = false) (G : lwH p s m meth c b L xs) (hL : L ≤ 3072) (hi : i + 6 ≤ L) (hop : lwI d x mm 79 136 [.int (xs (i + 1))] [(2, 1)] Inv σ) (hok : lwOk x mm σ) (hbd : ∀ σ, Inv σ → σ.1 ≤ 2000 ∧ σ.2.1 ≤ 100000) (ht : t ≤ 3072) (hdd : d ≤ 1000) (hpt : lwPt D (lwA s) s H locs w σ qo cL v) (hax : w.1 x = ax) (ham : w.1 mm = am) (hl : lv_has ls 7 [(0, .ref b), (1, .ref ax), (2, .ref am), (3, .ref qo), (4, .int (nI i))])
    (hk : ∀ (σ' : XS) (w' : XW) (v' : Nat → Int64) (H' : Heap) (locs' : List Loc) (ls' : Array Slot) (t' : Nat), Inv σ' → w'.1 x = ax → w'.1 mm = am → lwPt D (lwA s) s H' locs' w' σ' qo cL v' → lv_has ls' 7 [(0, .ref b), (1, .ref ax), (2, .ref am), (3, .ref qo), (4, .int (nI i))] → t' ≤ t + 1 → W p l e room_1 s m #[Value.ref b] below meth c H' locs' (σ'.1 + 1 + t') (σ'.2.1 + 1 + 6 * t') Q (F0 m 1247 ls' [])) :
    W p l e room_1 s m #[Value.ref b] below meth c H locs (σ.1 + 1 + t) (σ.2.1 + 1 + 6 * t) Q (F0 m 360 ls []) := by
  obtain ⟨⟨hx, hb, hr, hml, hown, hts0, hX, hbl, hlocks, hgv⟩, hts, htn, hz, hnc⟩ := id G
  obtain ⟨fs0, hf0⟩ := hok.1.2
  rcases hop with ⟨N1, N2, N3, r, σ1, σ2, h1, o1, h2, o2, h3, hI⟩ | ⟨N1, N2, N3, E, k, b9, σ1, σ2, h1, hek, o1, h2, o2, h3, hI⟩
  · have q1 := xcall_mono _ _ _ _ _ _ h1
    have q2 := xcall_mono _ _ _ _ _ _ h2
    have q3 := hbd σ2 hI
    obtain ⟨fs1, hf1⟩ := o1.2.2
    obtain ⟨fs2, hf2⟩ := o2.2.2
    refine lv_aload_n hx hb dL_law_360 rfl (lv_at hl 1 rfl) ?_
    refine lw_arg (k := 1) G hL hpt hl (List.mem_of_getElem? (i := 0) rfl) (List.mem_of_getElem? (i := 4) rfl) (by decide) (by omega) dL_law_361 dL_law_362 dL_law_364 dL_law_365 dL_law_366 ?_
    refine lv_aload_n hx hb dL_law_367 rfl (lv_at hl 3 rfl) ?_
    refine lw_callW (n := 3) (As := [.ref ax, .int (xs (i + 1)), .ref qo]) (rest := []) (wn_late (v := v) h1 hok.1.1 hf0) rfl G hpt (by rw [hax]) (xt3 141 rfl rfl) (xt3 139 rfl rfl) (xt3 140 rfl rfl) (xt1 0 rfl rfl) (by decide +kernel) rfl (by decide) hl.1 (Nat.le_of_ble_eq_true rfl) dL_law_368 hdd (by show _ ≤ 601024; omega) (by show _ ≤ 7293034; omega) (fun H1 locs1 w1 hag hpt => ?_)
    have hax1 : w1.1 x = ax := (hag x hok.1.1).1.trans hax
    have ham1 : w1.1 mm = am := (hag mm hok.2.1).1.trans ham
    refine lv_istore (lv' := (5, .int 0) :: [(0, .ref b), (1, .ref ax), (2, .ref am), (3, .ref qo), (4, .int (nI i))]) hx hb dL_law_371 hl (by decide) rfl (fun ls1 hl => ?_)
    refine lv_aload_n hx hb dL_law_373 rfl (lv_at hl 3 rfl) ?_
    refine lw_arg (k := 1) G hL hpt hl (List.mem_of_getElem? (i := 1) rfl) (List.mem_of_getElem? (i := 5) rfl) (by decide) (by omega) dL_law_374 dL_law_375 dL_law_377 dL_law_378 dL_law_379 ?_
    refine lw_callM (is := [.int (xs (i + 1))]) (rest := []) h2 G hpt ham1 o1.2.1 hf1 rfl (by decide) (xok_ints [(xs (i + 1))]) rfl (xt5 98 rfl rfl) (xt5 99 rfl rfl) (xt5 100 rfl rfl) hl.1 (Nat.le_of_ble_eq_true rfl) dL_law_380 hdd (by show _ ≤ 601024; omega) (by show _ ≤ 7293034; omega) (fun H2 locs2 w2 hag2 hpt => ?_)
    have hax2 : w2.1 x = ax := (hag2 x o1.1.1).1.trans hax1
    have ham2 : w2.1 mm = am := (hag2 mm o1.2.1).1.trans ham1
    refine lv_istore (lv' := (6, .int r) :: (5, .int 0) :: [(0, .ref b), (1, .ref ax), (2, .ref am), (3, .ref qo), (4, .int (nI i))]) hx hb dL_law_383 hl (by decide) rfl (fun ls2 hl => ?_)
    refine lv_aload_n hx hb dL_law_385 rfl (lv_at hl 4 rfl) ?_
    refine lw_callM (is := []) (rest := []) h3 G hpt ham2 o2.2.1 hf2 rfl (by decide) (xok_ints []) rfl (xt4 216 rfl rfl) (xt4 217 rfl rfl) (xt4 218 rfl rfl) hl.1 (Nat.le_of_ble_eq_true rfl) dL_law_386 hdd (by show _ ≤ 601024; omega) (by show _ ≤ 7293034; omega) (fun H3 locs3 w3 hag3 hpt => ?_)
    have hax3 : w3.1 x = ax := (hag3 x o2.1.1).1.trans hax2
    have ham3 : w3.1 mm = am := (hag3 mm o2.2.1).1.trans ham2
    refine lv_iload hx hb dL_law_389 (lv_at hl 1 rfl) ?_
    refine lv_icmp_eq (tgt := 396) hx hb dL_law_391 (by decide) (fun _ => ?_) (fun hne => absurd rfl hne)
    refine lv_iload hx hb dL_law_396 (lv_at hl 1 rfl) ?_
    refine lv_if_ne (tgt := 413) hx hb dL_law_398 (by decide) (fun hne => absurd rfl hne) (fun _ => ?_)
    refine lv_aload_n hx hb dL_law_401 rfl (lv_at hl 5 rfl) ?_
    refine lv_iconst (v := 0) hx hb dL_law_402 (by decide) ?_
    refine lw_laload G hpt dL_law_403 ?_
    rw [pk_uLs]
    refine lv_iload hx hb dL_law_404 (lv_at hl 0 rfl) ?_
    refine lv_i2l hx hb dL_law_406 rfl ?_
    refine W.lcmp hx hb dL_law_407 ?_
    rw [lg_cmp_self]
    refine lv_if_eq (tgt := 413) hx hb dL_law_408 (by decide) (fun _ => ?_) (fun hne => absurd rfl hne)
    refine lv_goto (tgt := 1247) hx hb dL_law_413 (by decide) ?_
    exact lw_num (by omega) (by omega) (hk σ2 w3 _ H3 locs3 _ t hI hax3 ham3 hpt (lv_sub hl [2, 3, 4, 5, 6] rfl) (by omega))
  · have q1 := xcallX_mono _ _ _ _ _ _ h1
    have q2 := xcall_mono _ _ _ _ _ _ h2
    have q3 := hbd σ2 hI
    obtain ⟨fs1, hf1⟩ := o1.2.2
    obtain ⟨fs2, hf2⟩ := o2.2.2
    rcases List.mem_cons.mp hek with hek | hek
    · cases hek
      refine lv_aload_n hx hb dL_law_360 rfl (lv_at hl 1 rfl) ?_
      refine lw_arg (k := 1) G hL hpt hl (List.mem_of_getElem? (i := 0) rfl) (List.mem_of_getElem? (i := 4) rfl) (by decide) (by omega) dL_law_361 dL_law_362 dL_law_364 dL_law_365 dL_law_366 ?_
      refine lv_aload_n hx hb dL_law_367 rfl (lv_at hl 3 rfl) ?_
      refine lw_callW (n := 3) (As := [.ref ax, .int (xs (i + 1)), .ref qo]) (rest := []) (wx_late_2 (v := v) hls h1 hok.1.1 hf0) rfl G hpt (by rw [hax]) (xt3 141 rfl rfl) (xt3 139 rfl rfl) (xt3 140 rfl rfl) (xt1 0 rfl rfl) (by decide +kernel) rfl (by decide) hl.1 (Nat.le_of_ble_eq_true rfl) dL_law_368 hdd (by show _ ≤ 601024; omega) (by show _ ≤ 7293034; omega) (fun H1 locs1 w1 hag hpt => ?_)
      have hax1 : w1.1 x = ax := (hag x hok.1.1).1.trans hax
      have ham1 : w1.1 mm = am := (hag mm hok.2.1).1.trans ham
      refine lv_istore (lv' := (5, .int 1) :: [(0, .ref b), (1, .ref ax), (2, .ref am), (3, .ref qo), (4, .int (nI i))]) hx hb dL_law_371 hl (by decide) rfl (fun ls1 hl => ?_)
      refine lv_aload_n hx hb dL_law_373 rfl (lv_at hl 3 rfl) ?_
      refine lw_arg (k := 1) G hL hpt hl (List.mem_of_getElem? (i := 1) rfl) (List.mem_of_getElem? (i := 5) rfl) (by decide) (by omega) dL_law_374 dL_law_375 dL_law_377 dL_law_378 dL_law_379 ?_
      refine lw_callM (is := [.int (xs (i + 1))]) (rest := []) h2 G hpt ham1 o1.2.1 hf1 rfl (by decide) (xok_ints [(xs (i + 1))]) rfl (xt5 98 rfl rfl) (xt5 99 rfl rfl) (xt5 100 rfl rfl) hl.1 (Nat.le_of_ble_eq_true rfl) dL_law_380 hdd (by show _ ≤ 601024; omega) (by show _ ≤ 7293034; omega) (fun H2 locs2 w2 hag2 hpt => ?_)
      have hax2 : w2.1 x = ax := (hag2 x o1.1.1).1.trans hax1
      have ham2 : w2.1 mm = am := (hag2 mm o1.2.1).1.trans ham1
      refine lv_istore (lv' := (6, .int b9) :: (5, .int 1) :: [(0, .ref b), (1, .ref ax), (2, .ref am), (3, .ref qo), (4, .int (nI i))]) hx hb dL_law_383 hl (by decide) rfl (fun ls2 hl => ?_)
      refine lv_aload_n hx hb dL_law_385 rfl (lv_at hl 4 rfl) ?_
      refine lw_callM (is := []) (rest := []) h3 G hpt ham2 o2.2.1 hf2 rfl (by decide) (xok_ints []) rfl (xt4 216 rfl rfl) (xt4 217 rfl rfl) (xt4 218 rfl rfl) hl.1 (Nat.le_of_ble_eq_true rfl) dL_law_386 hdd (by show _ ≤ 601024; omega) (by show _ ≤ 7293034; omega) (fun H3 locs3 w3 hag3 hpt => ?_)
      have hax3 : w3.1 x = ax := (hag3 x o2.1.1).1.trans hax2
      have ham3 : w3.1 mm = am := (hag3 mm o2.2.1).1.trans ham2
      refine lv_iload hx hb dL_law_389 (lv_at hl 1 rfl) ?_
      refine lv_icmp_eq (tgt := 396) hx hb dL_law_391 (by decide) (fun _ => ?_) (fun hne => absurd rfl hne)
      refine lv_iload hx hb dL_law_396 (lv_at hl 1 rfl) ?_
      refine lv_if_ne (tgt := 413) hx hb dL_law_398 (by decide) (fun _ => ?_) (fun hz0 => absurd hz0 (by decide))
      refine lv_goto (tgt := 1247) hx hb dL_law_413 (by decide) ?_
      exact lw_num (by omega) (by omega) (hk σ2 w3 _ H3 locs3 _ (t + 1) hI hax3 ham3 hpt (lv_sub hl [2, 3, 4, 5, 6] rfl) (by omega))
    cases hek
set_option maxHeartbeats 2000000 in
set_option maxRecDepth 100000 in
theorem lc_ask {p : Program} {l : Launch} {e : Env} {s : State} {m : MethodId} {below : List Frame} {meth : Method} {c : Code} {Q : State → Prop} {D : va_G} {H : Heap} {locs : List Loc} {ls : Array Slot} {w : XW} {σ : XS} {qo ax am : Nat} {cL : ClassId} {v : Nat → Int64} {b L d x mm i t : Nat} {xs : Nat → Int32} {Inv : XS → Prop} (hls : l.stackTraces = false) (G : lwH p s m meth c b L xs) (hL : L ≤ 3072) (hi : i + 6 ≤ L) (hop : lwI d x mm 80 137 [.int (xs (i + 1)), .int (xs (i + 2))] [(2, 1), (0, 2)] Inv σ) (hok : lwOk x mm σ) (hbd : ∀ σ, Inv σ → σ.1 ≤ 2000 ∧ σ.2.1 ≤ 100000) (ht : t ≤ 3072) (hdd : d ≤ 1000) (hpt : lwPt D (lwA s) s H locs w σ qo cL v) (hax : w.1 x = ax) (ham : w.1 mm = am) (hl : lv_has ls 7 [(0, .ref b), (1, .ref ax), (2, .ref am), (3, .ref qo), (4, .int (nI i))])
    (hk : ∀ (σ' : XS) (w' : XW) (v' : Nat → Int64) (H' : Heap) (locs' : List Loc) (ls' : Array Slot) (t' : Nat), Inv σ' → w'.1 x = ax → w'.1 mm = am → lwPt D (lwA s) s H' locs' w' σ' qo cL v' → lv_has ls' 7 [(0, .ref b), (1, .ref ax), (2, .ref am), (3, .ref qo), (4, .int (nI i))] → t' ≤ t + 1 → W p l e room_1 s m #[Value.ref b] below meth c H' locs' (σ'.1 + 1 + t') (σ'.2.1 + 1 + 6 * t') Q (F0 m 1247 ls' [])) :
    W p l e room_1 s m #[Value.ref b] below meth c H locs (σ.1 + 1 + t) (σ.2.1 + 1 + 6 * t) Q (F0 m 416 ls []) := by
  obtain ⟨⟨hx, hb, hr, hml, hown, hts0, hX, hbl, hlocks, hgv⟩, hts, htn, hz, hnc⟩ := id G
  obtain ⟨fs0, hf0⟩ := hok.1.2
  rcases hop with ⟨N1, N2, N3, r, σ1, σ2, h1, o1, h2, o2, h3, hI⟩ | ⟨N1, N2, N3, E, k, b9, σ1, σ2, h1, hek, o1, h2, o2, h3, hI⟩
  · have q1 := xcall_mono _ _ _ _ _ _ h1
    have q2 := xcall_mono _ _ _ _ _ _ h2
    have q3 := hbd σ2 hI
    obtain ⟨fs1, hf1⟩ := o1.2.2
    obtain ⟨fs2, hf2⟩ := o2.2.2
    refine lv_aload_n hx hb dL_law_416 rfl (lv_at hl 1 rfl) ?_
    refine lw_arg (k := 1) G hL hpt hl (List.mem_of_getElem? (i := 0) rfl) (List.mem_of_getElem? (i := 4) rfl) (by decide) (by omega) dL_law_417 dL_law_418 dL_law_420 dL_law_421 dL_law_422 ?_
    refine lw_arg (k := 2) G hL hpt hl (List.mem_of_getElem? (i := 0) rfl) (List.mem_of_getElem? (i := 4) rfl) (by decide) (by omega) dL_law_423 dL_law_424 dL_law_426 dL_law_427 dL_law_428 ?_
    refine lv_aload_n hx hb dL_law_429 rfl (lv_at hl 3 rfl) ?_
    refine lw_callW (n := 4) (As := [.ref ax, .int (xs (i + 1)), .int (xs (i + 2)), .ref qo]) (rest := []) (wn_ask (v := v) h1 hok.1.1 hf0) rfl G hpt (by rw [hax]) (xt3 164 rfl rfl) (xt3 162 rfl rfl) (xt3 163 rfl rfl) (xt1 0 rfl rfl) (by decide +kernel) rfl (by decide) hl.1 (Nat.le_of_ble_eq_true rfl) dL_law_430 hdd (by show _ ≤ 601024; omega) (by show _ ≤ 7293034; omega) (fun H1 locs1 w1 hag hpt => ?_)
    have hax1 : w1.1 x = ax := (hag x hok.1.1).1.trans hax
    have ham1 : w1.1 mm = am := (hag mm hok.2.1).1.trans ham
    refine lv_istore (lv' := (5, .int 0) :: [(0, .ref b), (1, .ref ax), (2, .ref am), (3, .ref qo), (4, .int (nI i))]) hx hb dL_law_433 hl (by decide) rfl (fun ls1 hl => ?_)
    refine lv_aload_n hx hb dL_law_435 rfl (lv_at hl 3 rfl) ?_
    refine lw_arg (k := 1) G hL hpt hl (List.mem_of_getElem? (i := 1) rfl) (List.mem_of_getElem? (i := 5) rfl) (by decide) (by omega) dL_law_436 dL_law_437 dL_law_439 dL_law_440 dL_law_441 ?_
    refine lw_arg (k := 2) G hL hpt hl (List.mem_of_getElem? (i := 1) rfl) (List.mem_of_getElem? (i := 5) rfl) (by decide) (by omega) dL_law_442 dL_law_443 dL_law_445 dL_law_446 dL_law_447 ?_
    refine lw_callM (is := [.int (xs (i + 1)), .int (xs (i + 2))]) (rest := []) h2 G hpt ham1 o1.2.1 hf1 rfl (by decide) (xok_ints [(xs (i + 1)), (xs (i + 2))]) rfl (xt5 106 rfl rfl) (xt5 107 rfl rfl) (xt5 108 rfl rfl) hl.1 (Nat.le_of_ble_eq_true rfl) dL_law_448 hdd (by show _ ≤ 601024; omega) (by show _ ≤ 7293034; omega) (fun H2 locs2 w2 hag2 hpt => ?_)
    have hax2 : w2.1 x = ax := (hag2 x o1.1.1).1.trans hax1
    have ham2 : w2.1 mm = am := (hag2 mm o1.2.1).1.trans ham1
    refine lv_istore (lv' := (6, .int r) :: (5, .int 0) :: [(0, .ref b), (1, .ref ax), (2, .ref am), (3, .ref qo), (4, .int (nI i))]) hx hb dL_law_451 hl (by decide) rfl (fun ls2 hl => ?_)
    refine lv_aload_n hx hb dL_law_453 rfl (lv_at hl 4 rfl) ?_
    refine lw_callM (is := []) (rest := []) h3 G hpt ham2 o2.2.1 hf2 rfl (by decide) (xok_ints []) rfl (xt4 216 rfl rfl) (xt4 217 rfl rfl) (xt4 218 rfl rfl) hl.1 (Nat.le_of_ble_eq_true rfl) dL_law_454 hdd (by show _ ≤ 601024; omega) (by show _ ≤ 7293034; omega) (fun H3 locs3 w3 hag3 hpt => ?_)
    have hax3 : w3.1 x = ax := (hag3 x o2.1.1).1.trans hax2
    have ham3 : w3.1 mm = am := (hag3 mm o2.2.1).1.trans ham2
    refine lv_iload hx hb dL_law_457 (lv_at hl 1 rfl) ?_
    refine lv_icmp_eq (tgt := 464) hx hb dL_law_459 (by decide) (fun _ => ?_) (fun hne => absurd rfl hne)
    refine lv_iload hx hb dL_law_464 (lv_at hl 1 rfl) ?_
    refine lv_if_ne (tgt := 481) hx hb dL_law_466 (by decide) (fun hne => absurd rfl hne) (fun _ => ?_)
    refine lv_aload_n hx hb dL_law_469 rfl (lv_at hl 5 rfl) ?_
    refine lv_iconst (v := 0) hx hb dL_law_470 (by decide) ?_
    refine lw_laload G hpt dL_law_471 ?_
    rw [pk_uLs]
    refine lv_iload hx hb dL_law_472 (lv_at hl 0 rfl) ?_
    refine lv_i2l hx hb dL_law_474 rfl ?_
    refine W.lcmp hx hb dL_law_475 ?_
    rw [lg_cmp_self]
    refine lv_if_eq (tgt := 481) hx hb dL_law_476 (by decide) (fun _ => ?_) (fun hne => absurd rfl hne)
    refine lv_goto (tgt := 1247) hx hb dL_law_481 (by decide) ?_
    exact lw_num (by omega) (by omega) (hk σ2 w3 _ H3 locs3 _ t hI hax3 ham3 hpt (lv_sub hl [2, 3, 4, 5, 6] rfl) (by omega))
  · have q1 := xcallX_mono _ _ _ _ _ _ h1
    have q2 := xcall_mono _ _ _ _ _ _ h2
    have q3 := hbd σ2 hI
    obtain ⟨fs1, hf1⟩ := o1.2.2
    obtain ⟨fs2, hf2⟩ := o2.2.2
    rcases List.mem_cons.mp hek with hek | hek
    · cases hek
      refine lv_aload_n hx hb dL_law_416 rfl (lv_at hl 1 rfl) ?_
      refine lw_arg (k := 1) G hL hpt hl (List.mem_of_getElem? (i := 0) rfl) (List.mem_of_getElem? (i := 4) rfl) (by decide) (by omega) dL_law_417 dL_law_418 dL_law_420 dL_law_421 dL_law_422 ?_
      refine lw_arg (k := 2) G hL hpt hl (List.mem_of_getElem? (i := 0) rfl) (List.mem_of_getElem? (i := 4) rfl) (by decide) (by omega) dL_law_423 dL_law_424 dL_law_426 dL_law_427 dL_law_428 ?_
      refine lv_aload_n hx hb dL_law_429 rfl (lv_at hl 3 rfl) ?_
      refine lw_callW (n := 4) (As := [.ref ax, .int (xs (i + 1)), .int (xs (i + 2)), .ref qo]) (rest := []) (wx_ask_2 (v := v) hls h1 hok.1.1 hf0) rfl G hpt (by rw [hax]) (xt3 164 rfl rfl) (xt3 162 rfl rfl) (xt3 163 rfl rfl) (xt1 0 rfl rfl) (by decide +kernel) rfl (by decide) hl.1 (Nat.le_of_ble_eq_true rfl) dL_law_430 hdd (by show _ ≤ 601024; omega) (by show _ ≤ 7293034; omega) (fun H1 locs1 w1 hag hpt => ?_)
      have hax1 : w1.1 x = ax := (hag x hok.1.1).1.trans hax
      have ham1 : w1.1 mm = am := (hag mm hok.2.1).1.trans ham
      refine lv_istore (lv' := (5, .int 1) :: [(0, .ref b), (1, .ref ax), (2, .ref am), (3, .ref qo), (4, .int (nI i))]) hx hb dL_law_433 hl (by decide) rfl (fun ls1 hl => ?_)
      refine lv_aload_n hx hb dL_law_435 rfl (lv_at hl 3 rfl) ?_
      refine lw_arg (k := 1) G hL hpt hl (List.mem_of_getElem? (i := 1) rfl) (List.mem_of_getElem? (i := 5) rfl) (by decide) (by omega) dL_law_436 dL_law_437 dL_law_439 dL_law_440 dL_law_441 ?_
      refine lw_arg (k := 2) G hL hpt hl (List.mem_of_getElem? (i := 1) rfl) (List.mem_of_getElem? (i := 5) rfl) (by decide) (by omega) dL_law_442 dL_law_443 dL_law_445 dL_law_446 dL_law_447 ?_
      refine lw_callM (is := [.int (xs (i + 1)), .int (xs (i + 2))]) (rest := []) h2 G hpt ham1 o1.2.1 hf1 rfl (by decide) (xok_ints [(xs (i + 1)), (xs (i + 2))]) rfl (xt5 106 rfl rfl) (xt5 107 rfl rfl) (xt5 108 rfl rfl) hl.1 (Nat.le_of_ble_eq_true rfl) dL_law_448 hdd (by show _ ≤ 601024; omega) (by show _ ≤ 7293034; omega) (fun H2 locs2 w2 hag2 hpt => ?_)
      have hax2 : w2.1 x = ax := (hag2 x o1.1.1).1.trans hax1
      have ham2 : w2.1 mm = am := (hag2 mm o1.2.1).1.trans ham1
      refine lv_istore (lv' := (6, .int b9) :: (5, .int 1) :: [(0, .ref b), (1, .ref ax), (2, .ref am), (3, .ref qo), (4, .int (nI i))]) hx hb dL_law_451 hl (by decide) rfl (fun ls2 hl => ?_)
      refine lv_aload_n hx hb dL_law_453 rfl (lv_at hl 4 rfl) ?_
      refine lw_callM (is := []) (rest := []) h3 G hpt ham2 o2.2.1 hf2 rfl (by decide) (xok_ints []) rfl (xt4 216 rfl rfl) (xt4 217 rfl rfl) (xt4 218 rfl rfl) hl.1 (Nat.le_of_ble_eq_true rfl) dL_law_454 hdd (by show _ ≤ 601024; omega) (by show _ ≤ 7293034; omega) (fun H3 locs3 w3 hag3 hpt => ?_)
      have hax3 : w3.1 x = ax := (hag3 x o2.1.1).1.trans hax2
      have ham3 : w3.1 mm = am := (hag3 mm o2.2.1).1.trans ham2
      refine lv_iload hx hb dL_law_457 (lv_at hl 1 rfl) ?_
      refine lv_icmp_eq (tgt := 464) hx hb dL_law_459 (by decide) (fun _ => ?_) (fun hne => absurd rfl hne)
      refine lv_iload hx hb dL_law_464 (lv_at hl 1 rfl) ?_
      refine lv_if_ne (tgt := 481) hx hb dL_law_466 (by decide) (fun _ => ?_) (fun hz0 => absurd hz0 (by decide))
      refine lv_goto (tgt := 1247) hx hb dL_law_481 (by decide) ?_
      exact lw_num (by omega) (by omega) (hk σ2 w3 _ H3 locs3 _ (t + 1) hI hax3 ham3 hpt (lv_sub hl [2, 3, 4, 5, 6] rfl) (by omega))
    rcases List.mem_cons.mp hek with hek | hek
    · cases hek
      refine lv_aload_n hx hb dL_law_416 rfl (lv_at hl 1 rfl) ?_
      refine lw_arg (k := 1) G hL hpt hl (List.mem_of_getElem? (i := 0) rfl) (List.mem_of_getElem? (i := 4) rfl) (by decide) (by omega) dL_law_417 dL_law_418 dL_law_420 dL_law_421 dL_law_422 ?_
      refine lw_arg (k := 2) G hL hpt hl (List.mem_of_getElem? (i := 0) rfl) (List.mem_of_getElem? (i := 4) rfl) (by decide) (by omega) dL_law_423 dL_law_424 dL_law_426 dL_law_427 dL_law_428 ?_
      refine lv_aload_n hx hb dL_law_429 rfl (lv_at hl 3 rfl) ?_
      refine lw_callW (n := 4) (As := [.ref ax, .int (xs (i + 1)), .int (xs (i + 2)), .ref qo]) (rest := []) (wx_ask_0 (v := v) hls h1 hok.1.1 hf0) rfl G hpt (by rw [hax]) (xt3 164 rfl rfl) (xt3 162 rfl rfl) (xt3 163 rfl rfl) (xt1 0 rfl rfl) (by decide +kernel) rfl (by decide) hl.1 (Nat.le_of_ble_eq_true rfl) dL_law_430 hdd (by show _ ≤ 601024; omega) (by show _ ≤ 7293034; omega) (fun H1 locs1 w1 hag hpt => ?_)
      have hax1 : w1.1 x = ax := (hag x hok.1.1).1.trans hax
      have ham1 : w1.1 mm = am := (hag mm hok.2.1).1.trans ham
      refine lv_istore (lv' := (5, .int 2) :: [(0, .ref b), (1, .ref ax), (2, .ref am), (3, .ref qo), (4, .int (nI i))]) hx hb dL_law_433 hl (by decide) rfl (fun ls1 hl => ?_)
      refine lv_aload_n hx hb dL_law_435 rfl (lv_at hl 3 rfl) ?_
      refine lw_arg (k := 1) G hL hpt hl (List.mem_of_getElem? (i := 1) rfl) (List.mem_of_getElem? (i := 5) rfl) (by decide) (by omega) dL_law_436 dL_law_437 dL_law_439 dL_law_440 dL_law_441 ?_
      refine lw_arg (k := 2) G hL hpt hl (List.mem_of_getElem? (i := 1) rfl) (List.mem_of_getElem? (i := 5) rfl) (by decide) (by omega) dL_law_442 dL_law_443 dL_law_445 dL_law_446 dL_law_447 ?_
      refine lw_callM (is := [.int (xs (i + 1)), .int (xs (i + 2))]) (rest := []) h2 G hpt ham1 o1.2.1 hf1 rfl (by decide) (xok_ints [(xs (i + 1)), (xs (i + 2))]) rfl (xt5 106 rfl rfl) (xt5 107 rfl rfl) (xt5 108 rfl rfl) hl.1 (Nat.le_of_ble_eq_true rfl) dL_law_448 hdd (by show _ ≤ 601024; omega) (by show _ ≤ 7293034; omega) (fun H2 locs2 w2 hag2 hpt => ?_)
      have hax2 : w2.1 x = ax := (hag2 x o1.1.1).1.trans hax1
      have ham2 : w2.1 mm = am := (hag2 mm o1.2.1).1.trans ham1
      refine lv_istore (lv' := (6, .int b9) :: (5, .int 2) :: [(0, .ref b), (1, .ref ax), (2, .ref am), (3, .ref qo), (4, .int (nI i))]) hx hb dL_law_451 hl (by decide) rfl (fun ls2 hl => ?_)
      refine lv_aload_n hx hb dL_law_453 rfl (lv_at hl 4 rfl) ?_
      refine lw_callM (is := []) (rest := []) h3 G hpt ham2 o2.2.1 hf2 rfl (by decide) (xok_ints []) rfl (xt4 216 rfl rfl) (xt4 217 rfl rfl) (xt4 218 rfl rfl) hl.1 (Nat.le_of_ble_eq_true rfl) dL_law_454 hdd (by show _ ≤ 601024; omega) (by show _ ≤ 7293034; omega) (fun H3 locs3 w3 hag3 hpt => ?_)
      have hax3 : w3.1 x = ax := (hag3 x o2.1.1).1.trans hax2
      have ham3 : w3.1 mm = am := (hag3 mm o2.2.1).1.trans ham2
      refine lv_iload hx hb dL_law_457 (lv_at hl 1 rfl) ?_
      refine lv_icmp_eq (tgt := 464) hx hb dL_law_459 (by decide) (fun _ => ?_) (fun hne => absurd rfl hne)
      refine lv_iload hx hb dL_law_464 (lv_at hl 1 rfl) ?_
      refine lv_if_ne (tgt := 481) hx hb dL_law_466 (by decide) (fun _ => ?_) (fun hz0 => absurd hz0 (by decide))
      refine lv_goto (tgt := 1247) hx hb dL_law_481 (by decide) ?_
      exact lw_num (by omega) (by omega) (hk σ2 w3 _ H3 locs3 _ (t + 1) hI hax3 ham3 hpt (lv_sub hl [2, 3, 4, 5, 6] rfl) (by omega))
    cases hek
set_option maxHeartbeats 2000000 in
set_option maxRecDepth 100000 in
theorem lc_reply {p : Program} {l : Launch} {e : Env} {s : State} {m : MethodId} {below : List Frame} {meth : Method} {c : Code} {Q : State → Prop} {D : va_G} {H : Heap} {locs : List Loc} {ls : Array Slot} {w : XW} {σ : XS} {qo ax am : Nat} {cL : ClassId} {v : Nat → Int64} {b L d x mm i t : Nat} {xs : Nat → Int32} {Inv : XS → Prop} (hls : l.stackTraces = false) (G : lwH p s m meth c b L xs) (hL : L ≤ 3072) (hi : i + 6 ≤ L) (hop : lwI d x mm 81 138 [.int (xs (i + 1)), .int (xs (i + 2))] [(2, 1)] Inv σ) (hok : lwOk x mm σ) (hbd : ∀ σ, Inv σ → σ.1 ≤ 2000 ∧ σ.2.1 ≤ 100000) (ht : t ≤ 3072) (hdd : d ≤ 1000) (hpt : lwPt D (lwA s) s H locs w σ qo cL v) (hax : w.1 x = ax) (ham : w.1 mm = am) (hl : lv_has ls 7 [(0, .ref b), (1, .ref ax), (2, .ref am), (3, .ref qo), (4, .int (nI i))])
    (hk : ∀ (σ' : XS) (w' : XW) (v' : Nat → Int64) (H' : Heap) (locs' : List Loc) (ls' : Array Slot) (t' : Nat), Inv σ' → w'.1 x = ax → w'.1 mm = am → lwPt D (lwA s) s H' locs' w' σ' qo cL v' → lv_has ls' 7 [(0, .ref b), (1, .ref ax), (2, .ref am), (3, .ref qo), (4, .int (nI i))] → t' ≤ t + 1 → W p l e room_1 s m #[Value.ref b] below meth c H' locs' (σ'.1 + 1 + t') (σ'.2.1 + 1 + 6 * t') Q (F0 m 1247 ls' [])) :
    W p l e room_1 s m #[Value.ref b] below meth c H locs (σ.1 + 1 + t) (σ.2.1 + 1 + 6 * t) Q (F0 m 484 ls []) := by
  obtain ⟨⟨hx, hb, hr, hml, hown, hts0, hX, hbl, hlocks, hgv⟩, hts, htn, hz, hnc⟩ := id G
  obtain ⟨fs0, hf0⟩ := hok.1.2
  rcases hop with ⟨N1, N2, N3, r, σ1, σ2, h1, o1, h2, o2, h3, hI⟩ | ⟨N1, N2, N3, E, k, b9, σ1, σ2, h1, hek, o1, h2, o2, h3, hI⟩
  · have q1 := xcall_mono _ _ _ _ _ _ h1
    have q2 := xcall_mono _ _ _ _ _ _ h2
    have q3 := hbd σ2 hI
    obtain ⟨fs1, hf1⟩ := o1.2.2
    obtain ⟨fs2, hf2⟩ := o2.2.2
    refine lv_aload_n hx hb dL_law_484 rfl (lv_at hl 1 rfl) ?_
    refine lw_arg (k := 1) G hL hpt hl (List.mem_of_getElem? (i := 0) rfl) (List.mem_of_getElem? (i := 4) rfl) (by decide) (by omega) dL_law_485 dL_law_486 dL_law_488 dL_law_489 dL_law_490 ?_
    refine lw_arg (k := 2) G hL hpt hl (List.mem_of_getElem? (i := 0) rfl) (List.mem_of_getElem? (i := 4) rfl) (by decide) (by omega) dL_law_491 dL_law_492 dL_law_494 dL_law_495 dL_law_496 ?_
    refine lv_aload_n hx hb dL_law_497 rfl (lv_at hl 3 rfl) ?_
    refine lw_callW (n := 4) (As := [.ref ax, .int (xs (i + 1)), .int (xs (i + 2)), .ref qo]) (rest := []) (wn_reply (v := v) h1 hok.1.1 hf0) rfl G hpt (by rw [hax]) (xt3 175 rfl rfl) (xt3 173 rfl rfl) (xt3 174 rfl rfl) (xt1 0 rfl rfl) (by decide +kernel) rfl (by decide) hl.1 (Nat.le_of_ble_eq_true rfl) dL_law_498 hdd (by show _ ≤ 601024; omega) (by show _ ≤ 7293034; omega) (fun H1 locs1 w1 hag hpt => ?_)
    have hax1 : w1.1 x = ax := (hag x hok.1.1).1.trans hax
    have ham1 : w1.1 mm = am := (hag mm hok.2.1).1.trans ham
    refine lv_istore (lv' := (5, .int 0) :: [(0, .ref b), (1, .ref ax), (2, .ref am), (3, .ref qo), (4, .int (nI i))]) hx hb dL_law_501 hl (by decide) rfl (fun ls1 hl => ?_)
    refine lv_aload_n hx hb dL_law_503 rfl (lv_at hl 3 rfl) ?_
    refine lw_arg (k := 1) G hL hpt hl (List.mem_of_getElem? (i := 1) rfl) (List.mem_of_getElem? (i := 5) rfl) (by decide) (by omega) dL_law_504 dL_law_505 dL_law_507 dL_law_508 dL_law_509 ?_
    refine lw_arg (k := 2) G hL hpt hl (List.mem_of_getElem? (i := 1) rfl) (List.mem_of_getElem? (i := 5) rfl) (by decide) (by omega) dL_law_510 dL_law_511 dL_law_513 dL_law_514 dL_law_515 ?_
    refine lw_callM (is := [.int (xs (i + 1)), .int (xs (i + 2))]) (rest := []) h2 G hpt ham1 o1.2.1 hf1 rfl (by decide) (xok_ints [(xs (i + 1)), (xs (i + 2))]) rfl (xt5 110 rfl rfl) (xt5 111 rfl rfl) (xt5 112 rfl rfl) hl.1 (Nat.le_of_ble_eq_true rfl) dL_law_516 hdd (by show _ ≤ 601024; omega) (by show _ ≤ 7293034; omega) (fun H2 locs2 w2 hag2 hpt => ?_)
    have hax2 : w2.1 x = ax := (hag2 x o1.1.1).1.trans hax1
    have ham2 : w2.1 mm = am := (hag2 mm o1.2.1).1.trans ham1
    refine lv_istore (lv' := (6, .int r) :: (5, .int 0) :: [(0, .ref b), (1, .ref ax), (2, .ref am), (3, .ref qo), (4, .int (nI i))]) hx hb dL_law_519 hl (by decide) rfl (fun ls2 hl => ?_)
    refine lv_aload_n hx hb dL_law_521 rfl (lv_at hl 4 rfl) ?_
    refine lw_callM (is := []) (rest := []) h3 G hpt ham2 o2.2.1 hf2 rfl (by decide) (xok_ints []) rfl (xt4 216 rfl rfl) (xt4 217 rfl rfl) (xt4 218 rfl rfl) hl.1 (Nat.le_of_ble_eq_true rfl) dL_law_522 hdd (by show _ ≤ 601024; omega) (by show _ ≤ 7293034; omega) (fun H3 locs3 w3 hag3 hpt => ?_)
    have hax3 : w3.1 x = ax := (hag3 x o2.1.1).1.trans hax2
    have ham3 : w3.1 mm = am := (hag3 mm o2.2.1).1.trans ham2
    refine lv_iload hx hb dL_law_525 (lv_at hl 1 rfl) ?_
    refine lv_icmp_eq (tgt := 532) hx hb dL_law_527 (by decide) (fun _ => ?_) (fun hne => absurd rfl hne)
    refine lv_iload hx hb dL_law_532 (lv_at hl 1 rfl) ?_
    refine lv_if_ne (tgt := 549) hx hb dL_law_534 (by decide) (fun hne => absurd rfl hne) (fun _ => ?_)
    refine lv_aload_n hx hb dL_law_537 rfl (lv_at hl 5 rfl) ?_
    refine lv_iconst (v := 0) hx hb dL_law_538 (by decide) ?_
    refine lw_laload G hpt dL_law_539 ?_
    rw [pk_uLs]
    refine lv_iload hx hb dL_law_540 (lv_at hl 0 rfl) ?_
    refine lv_i2l hx hb dL_law_542 rfl ?_
    refine W.lcmp hx hb dL_law_543 ?_
    rw [lg_cmp_self]
    refine lv_if_eq (tgt := 549) hx hb dL_law_544 (by decide) (fun _ => ?_) (fun hne => absurd rfl hne)
    refine lv_goto (tgt := 1247) hx hb dL_law_549 (by decide) ?_
    exact lw_num (by omega) (by omega) (hk σ2 w3 _ H3 locs3 _ t hI hax3 ham3 hpt (lv_sub hl [2, 3, 4, 5, 6] rfl) (by omega))
  · have q1 := xcallX_mono _ _ _ _ _ _ h1
    have q2 := xcall_mono _ _ _ _ _ _ h2
    have q3 := hbd σ2 hI
    obtain ⟨fs1, hf1⟩ := o1.2.2
    obtain ⟨fs2, hf2⟩ := o2.2.2
    rcases List.mem_cons.mp hek with hek | hek
    · cases hek
      refine lv_aload_n hx hb dL_law_484 rfl (lv_at hl 1 rfl) ?_
      refine lw_arg (k := 1) G hL hpt hl (List.mem_of_getElem? (i := 0) rfl) (List.mem_of_getElem? (i := 4) rfl) (by decide) (by omega) dL_law_485 dL_law_486 dL_law_488 dL_law_489 dL_law_490 ?_
      refine lw_arg (k := 2) G hL hpt hl (List.mem_of_getElem? (i := 0) rfl) (List.mem_of_getElem? (i := 4) rfl) (by decide) (by omega) dL_law_491 dL_law_492 dL_law_494 dL_law_495 dL_law_496 ?_
      refine lv_aload_n hx hb dL_law_497 rfl (lv_at hl 3 rfl) ?_
      refine lw_callW (n := 4) (As := [.ref ax, .int (xs (i + 1)), .int (xs (i + 2)), .ref qo]) (rest := []) (wx_reply_2 (v := v) hls h1 hok.1.1 hf0) rfl G hpt (by rw [hax]) (xt3 175 rfl rfl) (xt3 173 rfl rfl) (xt3 174 rfl rfl) (xt1 0 rfl rfl) (by decide +kernel) rfl (by decide) hl.1 (Nat.le_of_ble_eq_true rfl) dL_law_498 hdd (by show _ ≤ 601024; omega) (by show _ ≤ 7293034; omega) (fun H1 locs1 w1 hag hpt => ?_)
      have hax1 : w1.1 x = ax := (hag x hok.1.1).1.trans hax
      have ham1 : w1.1 mm = am := (hag mm hok.2.1).1.trans ham
      refine lv_istore (lv' := (5, .int 1) :: [(0, .ref b), (1, .ref ax), (2, .ref am), (3, .ref qo), (4, .int (nI i))]) hx hb dL_law_501 hl (by decide) rfl (fun ls1 hl => ?_)
      refine lv_aload_n hx hb dL_law_503 rfl (lv_at hl 3 rfl) ?_
      refine lw_arg (k := 1) G hL hpt hl (List.mem_of_getElem? (i := 1) rfl) (List.mem_of_getElem? (i := 5) rfl) (by decide) (by omega) dL_law_504 dL_law_505 dL_law_507 dL_law_508 dL_law_509 ?_
      refine lw_arg (k := 2) G hL hpt hl (List.mem_of_getElem? (i := 1) rfl) (List.mem_of_getElem? (i := 5) rfl) (by decide) (by omega) dL_law_510 dL_law_511 dL_law_513 dL_law_514 dL_law_515 ?_
      refine lw_callM (is := [.int (xs (i + 1)), .int (xs (i + 2))]) (rest := []) h2 G hpt ham1 o1.2.1 hf1 rfl (by decide) (xok_ints [(xs (i + 1)), (xs (i + 2))]) rfl (xt5 110 rfl rfl) (xt5 111 rfl rfl) (xt5 112 rfl rfl) hl.1 (Nat.le_of_ble_eq_true rfl) dL_law_516 hdd (by show _ ≤ 601024; omega) (by show _ ≤ 7293034; omega) (fun H2 locs2 w2 hag2 hpt => ?_)
      have hax2 : w2.1 x = ax := (hag2 x o1.1.1).1.trans hax1
      have ham2 : w2.1 mm = am := (hag2 mm o1.2.1).1.trans ham1
      refine lv_istore (lv' := (6, .int b9) :: (5, .int 1) :: [(0, .ref b), (1, .ref ax), (2, .ref am), (3, .ref qo), (4, .int (nI i))]) hx hb dL_law_519 hl (by decide) rfl (fun ls2 hl => ?_)
      refine lv_aload_n hx hb dL_law_521 rfl (lv_at hl 4 rfl) ?_
      refine lw_callM (is := []) (rest := []) h3 G hpt ham2 o2.2.1 hf2 rfl (by decide) (xok_ints []) rfl (xt4 216 rfl rfl) (xt4 217 rfl rfl) (xt4 218 rfl rfl) hl.1 (Nat.le_of_ble_eq_true rfl) dL_law_522 hdd (by show _ ≤ 601024; omega) (by show _ ≤ 7293034; omega) (fun H3 locs3 w3 hag3 hpt => ?_)
      have hax3 : w3.1 x = ax := (hag3 x o2.1.1).1.trans hax2
      have ham3 : w3.1 mm = am := (hag3 mm o2.2.1).1.trans ham2
      refine lv_iload hx hb dL_law_525 (lv_at hl 1 rfl) ?_
      refine lv_icmp_eq (tgt := 532) hx hb dL_law_527 (by decide) (fun _ => ?_) (fun hne => absurd rfl hne)
      refine lv_iload hx hb dL_law_532 (lv_at hl 1 rfl) ?_
      refine lv_if_ne (tgt := 549) hx hb dL_law_534 (by decide) (fun _ => ?_) (fun hz0 => absurd hz0 (by decide))
      refine lv_goto (tgt := 1247) hx hb dL_law_549 (by decide) ?_
      exact lw_num (by omega) (by omega) (hk σ2 w3 _ H3 locs3 _ (t + 1) hI hax3 ham3 hpt (lv_sub hl [2, 3, 4, 5, 6] rfl) (by omega))
    cases hek
set_option maxHeartbeats 2000000 in
set_option maxRecDepth 100000 in
theorem lc_lie {p : Program} {l : Launch} {e : Env} {s : State} {m : MethodId} {below : List Frame} {meth : Method} {c : Code} {Q : State → Prop} {D : va_G} {H : Heap} {locs : List Loc} {ls : Array Slot} {w : XW} {σ : XS} {qo ax am : Nat} {cL : ClassId} {v : Nat → Int64} {b L d x mm i t : Nat} {xs : Nat → Int32} {Inv : XS → Prop} (hls : l.stackTraces = false) (G : lwH p s m meth c b L xs) (hL : L ≤ 3072) (hi : i + 6 ≤ L) (hop : lwI d x mm 82 139 [.int (xs (i + 1))] [(2, 1)] Inv σ) (hok : lwOk x mm σ) (hbd : ∀ σ, Inv σ → σ.1 ≤ 2000 ∧ σ.2.1 ≤ 100000) (ht : t ≤ 3072) (hdd : d ≤ 1000) (hpt : lwPt D (lwA s) s H locs w σ qo cL v) (hax : w.1 x = ax) (ham : w.1 mm = am) (hl : lv_has ls 7 [(0, .ref b), (1, .ref ax), (2, .ref am), (3, .ref qo), (4, .int (nI i))])
    (hk : ∀ (σ' : XS) (w' : XW) (v' : Nat → Int64) (H' : Heap) (locs' : List Loc) (ls' : Array Slot) (t' : Nat), Inv σ' → w'.1 x = ax → w'.1 mm = am → lwPt D (lwA s) s H' locs' w' σ' qo cL v' → lv_has ls' 7 [(0, .ref b), (1, .ref ax), (2, .ref am), (3, .ref qo), (4, .int (nI i))] → t' ≤ t + 1 → W p l e room_1 s m #[Value.ref b] below meth c H' locs' (σ'.1 + 1 + t') (σ'.2.1 + 1 + 6 * t') Q (F0 m 1247 ls' [])) :
    W p l e room_1 s m #[Value.ref b] below meth c H locs (σ.1 + 1 + t) (σ.2.1 + 1 + 6 * t) Q (F0 m 552 ls []) := by
  obtain ⟨⟨hx, hb, hr, hml, hown, hts0, hX, hbl, hlocks, hgv⟩, hts, htn, hz, hnc⟩ := id G
  obtain ⟨fs0, hf0⟩ := hok.1.2
  rcases hop with ⟨N1, N2, N3, r, σ1, σ2, h1, o1, h2, o2, h3, hI⟩ | ⟨N1, N2, N3, E, k, b9, σ1, σ2, h1, hek, o1, h2, o2, h3, hI⟩
  · have q1 := xcall_mono _ _ _ _ _ _ h1
    have q2 := xcall_mono _ _ _ _ _ _ h2
    have q3 := hbd σ2 hI
    obtain ⟨fs1, hf1⟩ := o1.2.2
    obtain ⟨fs2, hf2⟩ := o2.2.2
    refine lv_aload_n hx hb dL_law_552 rfl (lv_at hl 1 rfl) ?_
    refine lw_arg (k := 1) G hL hpt hl (List.mem_of_getElem? (i := 0) rfl) (List.mem_of_getElem? (i := 4) rfl) (by decide) (by omega) dL_law_553 dL_law_554 dL_law_556 dL_law_557 dL_law_558 ?_
    refine lv_aload_n hx hb dL_law_559 rfl (lv_at hl 3 rfl) ?_
    refine lw_callW (n := 3) (As := [.ref ax, .int (xs (i + 1)), .ref qo]) (rest := []) (wn_lie (v := v) h1 hok.1.1 hf0) rfl G hpt (by rw [hax]) (xt3 203 rfl rfl) (xt3 201 rfl rfl) (xt3 202 rfl rfl) (xt1 0 rfl rfl) (by decide +kernel) rfl (by decide) hl.1 (Nat.le_of_ble_eq_true rfl) dL_law_560 hdd (by show _ ≤ 601024; omega) (by show _ ≤ 7293034; omega) (fun H1 locs1 w1 hag hpt => ?_)
    have hax1 : w1.1 x = ax := (hag x hok.1.1).1.trans hax
    have ham1 : w1.1 mm = am := (hag mm hok.2.1).1.trans ham
    refine lv_istore (lv' := (5, .int 0) :: [(0, .ref b), (1, .ref ax), (2, .ref am), (3, .ref qo), (4, .int (nI i))]) hx hb dL_law_563 hl (by decide) rfl (fun ls1 hl => ?_)
    refine lv_aload_n hx hb dL_law_565 rfl (lv_at hl 3 rfl) ?_
    refine lw_arg (k := 1) G hL hpt hl (List.mem_of_getElem? (i := 1) rfl) (List.mem_of_getElem? (i := 5) rfl) (by decide) (by omega) dL_law_566 dL_law_567 dL_law_569 dL_law_570 dL_law_571 ?_
    refine lw_callM (is := [.int (xs (i + 1))]) (rest := []) h2 G hpt ham1 o1.2.1 hf1 rfl (by decide) (xok_ints [(xs (i + 1))]) rfl (xt5 114 rfl rfl) (xt5 115 rfl rfl) (xt5 116 rfl rfl) hl.1 (Nat.le_of_ble_eq_true rfl) dL_law_572 hdd (by show _ ≤ 601024; omega) (by show _ ≤ 7293034; omega) (fun H2 locs2 w2 hag2 hpt => ?_)
    have hax2 : w2.1 x = ax := (hag2 x o1.1.1).1.trans hax1
    have ham2 : w2.1 mm = am := (hag2 mm o1.2.1).1.trans ham1
    refine lv_istore (lv' := (6, .int r) :: (5, .int 0) :: [(0, .ref b), (1, .ref ax), (2, .ref am), (3, .ref qo), (4, .int (nI i))]) hx hb dL_law_575 hl (by decide) rfl (fun ls2 hl => ?_)
    refine lv_aload_n hx hb dL_law_577 rfl (lv_at hl 4 rfl) ?_
    refine lw_callM (is := []) (rest := []) h3 G hpt ham2 o2.2.1 hf2 rfl (by decide) (xok_ints []) rfl (xt4 216 rfl rfl) (xt4 217 rfl rfl) (xt4 218 rfl rfl) hl.1 (Nat.le_of_ble_eq_true rfl) dL_law_578 hdd (by show _ ≤ 601024; omega) (by show _ ≤ 7293034; omega) (fun H3 locs3 w3 hag3 hpt => ?_)
    have hax3 : w3.1 x = ax := (hag3 x o2.1.1).1.trans hax2
    have ham3 : w3.1 mm = am := (hag3 mm o2.2.1).1.trans ham2
    refine lv_iload hx hb dL_law_581 (lv_at hl 1 rfl) ?_
    refine lv_icmp_eq (tgt := 588) hx hb dL_law_583 (by decide) (fun _ => ?_) (fun hne => absurd rfl hne)
    refine lv_iload hx hb dL_law_588 (lv_at hl 1 rfl) ?_
    refine lv_if_ne (tgt := 612) hx hb dL_law_590 (by decide) (fun hne => absurd rfl hne) (fun _ => ?_)
    refine lv_aload_n hx hb dL_law_593 rfl (lv_at hl 5 rfl) ?_
    refine lv_iconst (v := 0) hx hb dL_law_594 (by decide) ?_
    refine lw_laload G hpt dL_law_595 ?_
    rw [pk_uLs]
    refine lv_iload hx hb dL_law_596 (lv_at hl 0 rfl) ?_
    refine lv_if_eq (tgt := 605) hx hb dL_law_598 (by decide) (fun hc0 => ?_) (fun hc0 => ?_)
    · rw [if_pos hc0]
      refine lv_lconst (v := 0) hx hb dL_law_605 (by decide) ?_
      refine W.lcmp hx hb dL_law_606 ?_
      rw [lg_cmp_self]
      refine lv_if_eq (tgt := 612) hx hb dL_law_607 (by decide) (fun _ => ?_) (fun hne => absurd rfl hne)
      refine lv_goto (tgt := 1247) hx hb dL_law_612 (by decide) ?_
      exact lw_num (by omega) (by omega) (hk σ2 w3 _ H3 locs3 _ t hI hax3 ham3 hpt (lv_sub hl [2, 3, 4, 5, 6] rfl) (by omega))
    · rw [if_neg hc0]
      refine lv_lconst (v := 1) hx hb dL_law_601 (by decide) ?_
      refine lv_goto (tgt := 606) hx hb dL_law_602 (by decide) ?_
      refine W.lcmp hx hb dL_law_606 ?_
      rw [lg_cmp_self]
      refine lv_if_eq (tgt := 612) hx hb dL_law_607 (by decide) (fun _ => ?_) (fun hne => absurd rfl hne)
      refine lv_goto (tgt := 1247) hx hb dL_law_612 (by decide) ?_
      exact lw_num (by omega) (by omega) (hk σ2 w3 _ H3 locs3 _ t hI hax3 ham3 hpt (lv_sub hl [2, 3, 4, 5, 6] rfl) (by omega))
  · have q1 := xcallX_mono _ _ _ _ _ _ h1
    have q2 := xcall_mono _ _ _ _ _ _ h2
    have q3 := hbd σ2 hI
    obtain ⟨fs1, hf1⟩ := o1.2.2
    obtain ⟨fs2, hf2⟩ := o2.2.2
    rcases List.mem_cons.mp hek with hek | hek
    · cases hek
      refine lv_aload_n hx hb dL_law_552 rfl (lv_at hl 1 rfl) ?_
      refine lw_arg (k := 1) G hL hpt hl (List.mem_of_getElem? (i := 0) rfl) (List.mem_of_getElem? (i := 4) rfl) (by decide) (by omega) dL_law_553 dL_law_554 dL_law_556 dL_law_557 dL_law_558 ?_
      refine lv_aload_n hx hb dL_law_559 rfl (lv_at hl 3 rfl) ?_
      refine lw_callW (n := 3) (As := [.ref ax, .int (xs (i + 1)), .ref qo]) (rest := []) (wx_lie_2 (v := v) hls h1 hok.1.1 hf0) rfl G hpt (by rw [hax]) (xt3 203 rfl rfl) (xt3 201 rfl rfl) (xt3 202 rfl rfl) (xt1 0 rfl rfl) (by decide +kernel) rfl (by decide) hl.1 (Nat.le_of_ble_eq_true rfl) dL_law_560 hdd (by show _ ≤ 601024; omega) (by show _ ≤ 7293034; omega) (fun H1 locs1 w1 hag hpt => ?_)
      have hax1 : w1.1 x = ax := (hag x hok.1.1).1.trans hax
      have ham1 : w1.1 mm = am := (hag mm hok.2.1).1.trans ham
      refine lv_istore (lv' := (5, .int 1) :: [(0, .ref b), (1, .ref ax), (2, .ref am), (3, .ref qo), (4, .int (nI i))]) hx hb dL_law_563 hl (by decide) rfl (fun ls1 hl => ?_)
      refine lv_aload_n hx hb dL_law_565 rfl (lv_at hl 3 rfl) ?_
      refine lw_arg (k := 1) G hL hpt hl (List.mem_of_getElem? (i := 1) rfl) (List.mem_of_getElem? (i := 5) rfl) (by decide) (by omega) dL_law_566 dL_law_567 dL_law_569 dL_law_570 dL_law_571 ?_
      refine lw_callM (is := [.int (xs (i + 1))]) (rest := []) h2 G hpt ham1 o1.2.1 hf1 rfl (by decide) (xok_ints [(xs (i + 1))]) rfl (xt5 114 rfl rfl) (xt5 115 rfl rfl) (xt5 116 rfl rfl) hl.1 (Nat.le_of_ble_eq_true rfl) dL_law_572 hdd (by show _ ≤ 601024; omega) (by show _ ≤ 7293034; omega) (fun H2 locs2 w2 hag2 hpt => ?_)
      have hax2 : w2.1 x = ax := (hag2 x o1.1.1).1.trans hax1
      have ham2 : w2.1 mm = am := (hag2 mm o1.2.1).1.trans ham1
      refine lv_istore (lv' := (6, .int b9) :: (5, .int 1) :: [(0, .ref b), (1, .ref ax), (2, .ref am), (3, .ref qo), (4, .int (nI i))]) hx hb dL_law_575 hl (by decide) rfl (fun ls2 hl => ?_)
      refine lv_aload_n hx hb dL_law_577 rfl (lv_at hl 4 rfl) ?_
      refine lw_callM (is := []) (rest := []) h3 G hpt ham2 o2.2.1 hf2 rfl (by decide) (xok_ints []) rfl (xt4 216 rfl rfl) (xt4 217 rfl rfl) (xt4 218 rfl rfl) hl.1 (Nat.le_of_ble_eq_true rfl) dL_law_578 hdd (by show _ ≤ 601024; omega) (by show _ ≤ 7293034; omega) (fun H3 locs3 w3 hag3 hpt => ?_)
      have hax3 : w3.1 x = ax := (hag3 x o2.1.1).1.trans hax2
      have ham3 : w3.1 mm = am := (hag3 mm o2.2.1).1.trans ham2
      refine lv_iload hx hb dL_law_581 (lv_at hl 1 rfl) ?_
      refine lv_icmp_eq (tgt := 588) hx hb dL_law_583 (by decide) (fun _ => ?_) (fun hne => absurd rfl hne)
      refine lv_iload hx hb dL_law_588 (lv_at hl 1 rfl) ?_
      refine lv_if_ne (tgt := 612) hx hb dL_law_590 (by decide) (fun _ => ?_) (fun hz0 => absurd hz0 (by decide))
      refine lv_goto (tgt := 1247) hx hb dL_law_612 (by decide) ?_
      exact lw_num (by omega) (by omega) (hk σ2 w3 _ H3 locs3 _ (t + 1) hI hax3 ham3 hpt (lv_sub hl [2, 3, 4, 5, 6] rfl) (by omega))
    cases hek
set_option maxHeartbeats 2000000 in
set_option maxRecDepth 100000 in
theorem lc_certify {p : Program} {l : Launch} {e : Env} {s : State} {m : MethodId} {below : List Frame} {meth : Method} {c : Code} {Q : State → Prop} {D : va_G} {H : Heap} {locs : List Loc} {ls : Array Slot} {w : XW} {σ : XS} {qo ax am : Nat} {cL : ClassId} {v : Nat → Int64} {b L d x mm i t : Nat} {xs : Nat → Int32} {Inv : XS → Prop} (hls : l.stackTraces = false) (G : lwH p s m meth c b L xs) (hL : L ≤ 3072) (hi : i + 6 ≤ L) (hop : lwI d x mm 83 140 [.int (xs (i + 1)), .int (xs (i + 2)), .int (xs (i + 3)), .int (xs (i + 4)), .int (xs (i + 5))] [(2, 1), (1, 2), (0, 3)] Inv σ) (hok : lwOk x mm σ) (hbd : ∀ σ, Inv σ → σ.1 ≤ 2000 ∧ σ.2.1 ≤ 100000) (ht : t ≤ 3072) (hdd : d ≤ 1000) (hpt : lwPt D (lwA s) s H locs w σ qo cL v) (hax : w.1 x = ax) (ham : w.1 mm = am) (hl : lv_has ls 7 [(0, .ref b), (1, .ref ax), (2, .ref am), (3, .ref qo), (4, .int (nI i))])
    (hk : ∀ (σ' : XS) (w' : XW) (v' : Nat → Int64) (H' : Heap) (locs' : List Loc) (ls' : Array Slot) (t' : Nat), Inv σ' → w'.1 x = ax → w'.1 mm = am → lwPt D (lwA s) s H' locs' w' σ' qo cL v' → lv_has ls' 7 [(0, .ref b), (1, .ref ax), (2, .ref am), (3, .ref qo), (4, .int (nI i))] → t' ≤ t + 1 → W p l e room_1 s m #[Value.ref b] below meth c H' locs' (σ'.1 + 1 + t') (σ'.2.1 + 1 + 6 * t') Q (F0 m 1247 ls' [])) :
    W p l e room_1 s m #[Value.ref b] below meth c H locs (σ.1 + 1 + t) (σ.2.1 + 1 + 6 * t) Q (F0 m 615 ls []) := by
  obtain ⟨⟨hx, hb, hr, hml, hown, hts0, hX, hbl, hlocks, hgv⟩, hts, htn, hz, hnc⟩ := id G
  obtain ⟨fs0, hf0⟩ := hok.1.2
  rcases hop with ⟨N1, N2, N3, r, σ1, σ2, h1, o1, h2, o2, h3, hI⟩ | ⟨N1, N2, N3, E, k, b9, σ1, σ2, h1, hek, o1, h2, o2, h3, hI⟩
  · have q1 := xcall_mono _ _ _ _ _ _ h1
    have q2 := xcall_mono _ _ _ _ _ _ h2
    have q3 := hbd σ2 hI
    obtain ⟨fs1, hf1⟩ := o1.2.2
    obtain ⟨fs2, hf2⟩ := o2.2.2
    refine lv_aload_n hx hb dL_law_615 rfl (lv_at hl 1 rfl) ?_
    refine lw_arg (k := 1) G hL hpt hl (List.mem_of_getElem? (i := 0) rfl) (List.mem_of_getElem? (i := 4) rfl) (by decide) (by omega) dL_law_616 dL_law_617 dL_law_619 dL_law_620 dL_law_621 ?_
    refine lw_arg (k := 2) G hL hpt hl (List.mem_of_getElem? (i := 0) rfl) (List.mem_of_getElem? (i := 4) rfl) (by decide) (by omega) dL_law_622 dL_law_623 dL_law_625 dL_law_626 dL_law_627 ?_
    refine lw_arg (k := 3) G hL hpt hl (List.mem_of_getElem? (i := 0) rfl) (List.mem_of_getElem? (i := 4) rfl) (by decide) (by omega) dL_law_628 dL_law_629 dL_law_631 dL_law_632 dL_law_633 ?_
    refine lw_arg (k := 4) G hL hpt hl (List.mem_of_getElem? (i := 0) rfl) (List.mem_of_getElem? (i := 4) rfl) (by decide) (by omega) dL_law_634 dL_law_635 dL_law_637 dL_law_638 dL_law_639 ?_
    refine lw_arg (k := 5) G hL hpt hl (List.mem_of_getElem? (i := 0) rfl) (List.mem_of_getElem? (i := 4) rfl) (by decide) (by omega) dL_law_640 dL_law_641 dL_law_643 dL_law_644 dL_law_645 ?_
    refine lv_aload_n hx hb dL_law_646 rfl (lv_at hl 3 rfl) ?_
    refine lw_callW (n := 7) (As := [.ref ax, .int (xs (i + 1)), .int (xs (i + 2)), .int (xs (i + 3)), .int (xs (i + 4)), .int (xs (i + 5)), .ref qo]) (rest := []) (wn_certify (v := v) h1 hok.1.1 hf0) rfl G hpt (by rw [hax]) (xt3 214 rfl rfl) (xt3 212 rfl rfl) (xt3 213 rfl rfl) (xt1 0 rfl rfl) (by decide +kernel) rfl (by decide) hl.1 (Nat.le_of_ble_eq_true rfl) dL_law_647 hdd (by show _ ≤ 601024; omega) (by show _ ≤ 7293034; omega) (fun H1 locs1 w1 hag hpt => ?_)
    have hax1 : w1.1 x = ax := (hag x hok.1.1).1.trans hax
    have ham1 : w1.1 mm = am := (hag mm hok.2.1).1.trans ham
    refine lv_istore (lv' := (5, .int 0) :: [(0, .ref b), (1, .ref ax), (2, .ref am), (3, .ref qo), (4, .int (nI i))]) hx hb dL_law_650 hl (by decide) rfl (fun ls1 hl => ?_)
    refine lv_aload_n hx hb dL_law_652 rfl (lv_at hl 3 rfl) ?_
    refine lw_arg (k := 1) G hL hpt hl (List.mem_of_getElem? (i := 1) rfl) (List.mem_of_getElem? (i := 5) rfl) (by decide) (by omega) dL_law_653 dL_law_654 dL_law_656 dL_law_657 dL_law_658 ?_
    refine lw_arg (k := 2) G hL hpt hl (List.mem_of_getElem? (i := 1) rfl) (List.mem_of_getElem? (i := 5) rfl) (by decide) (by omega) dL_law_659 dL_law_660 dL_law_662 dL_law_663 dL_law_664 ?_
    refine lw_arg (k := 3) G hL hpt hl (List.mem_of_getElem? (i := 1) rfl) (List.mem_of_getElem? (i := 5) rfl) (by decide) (by omega) dL_law_665 dL_law_666 dL_law_668 dL_law_669 dL_law_670 ?_
    refine lw_arg (k := 4) G hL hpt hl (List.mem_of_getElem? (i := 1) rfl) (List.mem_of_getElem? (i := 5) rfl) (by decide) (by omega) dL_law_671 dL_law_672 dL_law_674 dL_law_675 dL_law_676 ?_
    refine lw_arg (k := 5) G hL hpt hl (List.mem_of_getElem? (i := 1) rfl) (List.mem_of_getElem? (i := 5) rfl) (by decide) (by omega) dL_law_677 dL_law_678 dL_law_680 dL_law_681 dL_law_682 ?_
    refine lw_callM (is := [.int (xs (i + 1)), .int (xs (i + 2)), .int (xs (i + 3)), .int (xs (i + 4)), .int (xs (i + 5))]) (rest := []) h2 G hpt ham1 o1.2.1 hf1 rfl (by decide) (xok_ints [(xs (i + 1)), (xs (i + 2)), (xs (i + 3)), (xs (i + 4)), (xs (i + 5))]) rfl (xt5 118 rfl rfl) (xt5 119 rfl rfl) (xt5 120 rfl rfl) hl.1 (Nat.le_of_ble_eq_true rfl) dL_law_683 hdd (by show _ ≤ 601024; omega) (by show _ ≤ 7293034; omega) (fun H2 locs2 w2 hag2 hpt => ?_)
    have hax2 : w2.1 x = ax := (hag2 x o1.1.1).1.trans hax1
    have ham2 : w2.1 mm = am := (hag2 mm o1.2.1).1.trans ham1
    refine lv_istore (lv' := (6, .int r) :: (5, .int 0) :: [(0, .ref b), (1, .ref ax), (2, .ref am), (3, .ref qo), (4, .int (nI i))]) hx hb dL_law_686 hl (by decide) rfl (fun ls2 hl => ?_)
    refine lv_aload_n hx hb dL_law_688 rfl (lv_at hl 4 rfl) ?_
    refine lw_callM (is := []) (rest := []) h3 G hpt ham2 o2.2.1 hf2 rfl (by decide) (xok_ints []) rfl (xt4 216 rfl rfl) (xt4 217 rfl rfl) (xt4 218 rfl rfl) hl.1 (Nat.le_of_ble_eq_true rfl) dL_law_689 hdd (by show _ ≤ 601024; omega) (by show _ ≤ 7293034; omega) (fun H3 locs3 w3 hag3 hpt => ?_)
    have hax3 : w3.1 x = ax := (hag3 x o2.1.1).1.trans hax2
    have ham3 : w3.1 mm = am := (hag3 mm o2.2.1).1.trans ham2
    refine lv_iload hx hb dL_law_692 (lv_at hl 1 rfl) ?_
    refine lv_icmp_eq (tgt := 699) hx hb dL_law_694 (by decide) (fun _ => ?_) (fun hne => absurd rfl hne)
    refine lv_iload hx hb dL_law_699 (lv_at hl 1 rfl) ?_
    refine lv_if_ne (tgt := 716) hx hb dL_law_701 (by decide) (fun hne => absurd rfl hne) (fun _ => ?_)
    refine lv_aload_n hx hb dL_law_704 rfl (lv_at hl 5 rfl) ?_
    refine lv_iconst (v := 0) hx hb dL_law_705 (by decide) ?_
    refine lw_laload G hpt dL_law_706 ?_
    rw [pk_uLs]
    refine lv_iload hx hb dL_law_707 (lv_at hl 0 rfl) ?_
    refine lv_i2l hx hb dL_law_709 rfl ?_
    refine W.lcmp hx hb dL_law_710 ?_
    rw [lg_cmp_self]
    refine lv_if_eq (tgt := 716) hx hb dL_law_711 (by decide) (fun _ => ?_) (fun hne => absurd rfl hne)
    refine lv_goto (tgt := 1247) hx hb dL_law_716 (by decide) ?_
    exact lw_num (by omega) (by omega) (hk σ2 w3 _ H3 locs3 _ t hI hax3 ham3 hpt (lv_sub hl [2, 3, 4, 5, 6] rfl) (by omega))
  · have q1 := xcallX_mono _ _ _ _ _ _ h1
    have q2 := xcall_mono _ _ _ _ _ _ h2
    have q3 := hbd σ2 hI
    obtain ⟨fs1, hf1⟩ := o1.2.2
    obtain ⟨fs2, hf2⟩ := o2.2.2
    rcases List.mem_cons.mp hek with hek | hek
    · cases hek
      refine lv_aload_n hx hb dL_law_615 rfl (lv_at hl 1 rfl) ?_
      refine lw_arg (k := 1) G hL hpt hl (List.mem_of_getElem? (i := 0) rfl) (List.mem_of_getElem? (i := 4) rfl) (by decide) (by omega) dL_law_616 dL_law_617 dL_law_619 dL_law_620 dL_law_621 ?_
      refine lw_arg (k := 2) G hL hpt hl (List.mem_of_getElem? (i := 0) rfl) (List.mem_of_getElem? (i := 4) rfl) (by decide) (by omega) dL_law_622 dL_law_623 dL_law_625 dL_law_626 dL_law_627 ?_
      refine lw_arg (k := 3) G hL hpt hl (List.mem_of_getElem? (i := 0) rfl) (List.mem_of_getElem? (i := 4) rfl) (by decide) (by omega) dL_law_628 dL_law_629 dL_law_631 dL_law_632 dL_law_633 ?_
      refine lw_arg (k := 4) G hL hpt hl (List.mem_of_getElem? (i := 0) rfl) (List.mem_of_getElem? (i := 4) rfl) (by decide) (by omega) dL_law_634 dL_law_635 dL_law_637 dL_law_638 dL_law_639 ?_
      refine lw_arg (k := 5) G hL hpt hl (List.mem_of_getElem? (i := 0) rfl) (List.mem_of_getElem? (i := 4) rfl) (by decide) (by omega) dL_law_640 dL_law_641 dL_law_643 dL_law_644 dL_law_645 ?_
      refine lv_aload_n hx hb dL_law_646 rfl (lv_at hl 3 rfl) ?_
      refine lw_callW (n := 7) (As := [.ref ax, .int (xs (i + 1)), .int (xs (i + 2)), .int (xs (i + 3)), .int (xs (i + 4)), .int (xs (i + 5)), .ref qo]) (rest := []) (wx_certify_2 (v := v) hls h1 hok.1.1 hf0) rfl G hpt (by rw [hax]) (xt3 214 rfl rfl) (xt3 212 rfl rfl) (xt3 213 rfl rfl) (xt1 0 rfl rfl) (by decide +kernel) rfl (by decide) hl.1 (Nat.le_of_ble_eq_true rfl) dL_law_647 hdd (by show _ ≤ 601024; omega) (by show _ ≤ 7293034; omega) (fun H1 locs1 w1 hag hpt => ?_)
      have hax1 : w1.1 x = ax := (hag x hok.1.1).1.trans hax
      have ham1 : w1.1 mm = am := (hag mm hok.2.1).1.trans ham
      refine lv_istore (lv' := (5, .int 1) :: [(0, .ref b), (1, .ref ax), (2, .ref am), (3, .ref qo), (4, .int (nI i))]) hx hb dL_law_650 hl (by decide) rfl (fun ls1 hl => ?_)
      refine lv_aload_n hx hb dL_law_652 rfl (lv_at hl 3 rfl) ?_
      refine lw_arg (k := 1) G hL hpt hl (List.mem_of_getElem? (i := 1) rfl) (List.mem_of_getElem? (i := 5) rfl) (by decide) (by omega) dL_law_653 dL_law_654 dL_law_656 dL_law_657 dL_law_658 ?_
      refine lw_arg (k := 2) G hL hpt hl (List.mem_of_getElem? (i := 1) rfl) (List.mem_of_getElem? (i := 5) rfl) (by decide) (by omega) dL_law_659 dL_law_660 dL_law_662 dL_law_663 dL_law_664 ?_
      refine lw_arg (k := 3) G hL hpt hl (List.mem_of_getElem? (i := 1) rfl) (List.mem_of_getElem? (i := 5) rfl) (by decide) (by omega) dL_law_665 dL_law_666 dL_law_668 dL_law_669 dL_law_670 ?_
      refine lw_arg (k := 4) G hL hpt hl (List.mem_of_getElem? (i := 1) rfl) (List.mem_of_getElem? (i := 5) rfl) (by decide) (by omega) dL_law_671 dL_law_672 dL_law_674 dL_law_675 dL_law_676 ?_
      refine lw_arg (k := 5) G hL hpt hl (List.mem_of_getElem? (i := 1) rfl) (List.mem_of_getElem? (i := 5) rfl) (by decide) (by omega) dL_law_677 dL_law_678 dL_law_680 dL_law_681 dL_law_682 ?_
      refine lw_callM (is := [.int (xs (i + 1)), .int (xs (i + 2)), .int (xs (i + 3)), .int (xs (i + 4)), .int (xs (i + 5))]) (rest := []) h2 G hpt ham1 o1.2.1 hf1 rfl (by decide) (xok_ints [(xs (i + 1)), (xs (i + 2)), (xs (i + 3)), (xs (i + 4)), (xs (i + 5))]) rfl (xt5 118 rfl rfl) (xt5 119 rfl rfl) (xt5 120 rfl rfl) hl.1 (Nat.le_of_ble_eq_true rfl) dL_law_683 hdd (by show _ ≤ 601024; omega) (by show _ ≤ 7293034; omega) (fun H2 locs2 w2 hag2 hpt => ?_)
      have hax2 : w2.1 x = ax := (hag2 x o1.1.1).1.trans hax1
      have ham2 : w2.1 mm = am := (hag2 mm o1.2.1).1.trans ham1
      refine lv_istore (lv' := (6, .int b9) :: (5, .int 1) :: [(0, .ref b), (1, .ref ax), (2, .ref am), (3, .ref qo), (4, .int (nI i))]) hx hb dL_law_686 hl (by decide) rfl (fun ls2 hl => ?_)
      refine lv_aload_n hx hb dL_law_688 rfl (lv_at hl 4 rfl) ?_
      refine lw_callM (is := []) (rest := []) h3 G hpt ham2 o2.2.1 hf2 rfl (by decide) (xok_ints []) rfl (xt4 216 rfl rfl) (xt4 217 rfl rfl) (xt4 218 rfl rfl) hl.1 (Nat.le_of_ble_eq_true rfl) dL_law_689 hdd (by show _ ≤ 601024; omega) (by show _ ≤ 7293034; omega) (fun H3 locs3 w3 hag3 hpt => ?_)
      have hax3 : w3.1 x = ax := (hag3 x o2.1.1).1.trans hax2
      have ham3 : w3.1 mm = am := (hag3 mm o2.2.1).1.trans ham2
      refine lv_iload hx hb dL_law_692 (lv_at hl 1 rfl) ?_
      refine lv_icmp_eq (tgt := 699) hx hb dL_law_694 (by decide) (fun _ => ?_) (fun hne => absurd rfl hne)
      refine lv_iload hx hb dL_law_699 (lv_at hl 1 rfl) ?_
      refine lv_if_ne (tgt := 716) hx hb dL_law_701 (by decide) (fun _ => ?_) (fun hz0 => absurd hz0 (by decide))
      refine lv_goto (tgt := 1247) hx hb dL_law_716 (by decide) ?_
      exact lw_num (by omega) (by omega) (hk σ2 w3 _ H3 locs3 _ (t + 1) hI hax3 ham3 hpt (lv_sub hl [2, 3, 4, 5, 6] rfl) (by omega))
    rcases List.mem_cons.mp hek with hek | hek
    · cases hek
      refine lv_aload_n hx hb dL_law_615 rfl (lv_at hl 1 rfl) ?_
      refine lw_arg (k := 1) G hL hpt hl (List.mem_of_getElem? (i := 0) rfl) (List.mem_of_getElem? (i := 4) rfl) (by decide) (by omega) dL_law_616 dL_law_617 dL_law_619 dL_law_620 dL_law_621 ?_
      refine lw_arg (k := 2) G hL hpt hl (List.mem_of_getElem? (i := 0) rfl) (List.mem_of_getElem? (i := 4) rfl) (by decide) (by omega) dL_law_622 dL_law_623 dL_law_625 dL_law_626 dL_law_627 ?_
      refine lw_arg (k := 3) G hL hpt hl (List.mem_of_getElem? (i := 0) rfl) (List.mem_of_getElem? (i := 4) rfl) (by decide) (by omega) dL_law_628 dL_law_629 dL_law_631 dL_law_632 dL_law_633 ?_
      refine lw_arg (k := 4) G hL hpt hl (List.mem_of_getElem? (i := 0) rfl) (List.mem_of_getElem? (i := 4) rfl) (by decide) (by omega) dL_law_634 dL_law_635 dL_law_637 dL_law_638 dL_law_639 ?_
      refine lw_arg (k := 5) G hL hpt hl (List.mem_of_getElem? (i := 0) rfl) (List.mem_of_getElem? (i := 4) rfl) (by decide) (by omega) dL_law_640 dL_law_641 dL_law_643 dL_law_644 dL_law_645 ?_
      refine lv_aload_n hx hb dL_law_646 rfl (lv_at hl 3 rfl) ?_
      refine lw_callW (n := 7) (As := [.ref ax, .int (xs (i + 1)), .int (xs (i + 2)), .int (xs (i + 3)), .int (xs (i + 4)), .int (xs (i + 5)), .ref qo]) (rest := []) (wx_certify_1 (v := v) hls h1 hok.1.1 hf0) rfl G hpt (by rw [hax]) (xt3 214 rfl rfl) (xt3 212 rfl rfl) (xt3 213 rfl rfl) (xt1 0 rfl rfl) (by decide +kernel) rfl (by decide) hl.1 (Nat.le_of_ble_eq_true rfl) dL_law_647 hdd (by show _ ≤ 601024; omega) (by show _ ≤ 7293034; omega) (fun H1 locs1 w1 hag hpt => ?_)
      have hax1 : w1.1 x = ax := (hag x hok.1.1).1.trans hax
      have ham1 : w1.1 mm = am := (hag mm hok.2.1).1.trans ham
      refine lv_istore (lv' := (5, .int 2) :: [(0, .ref b), (1, .ref ax), (2, .ref am), (3, .ref qo), (4, .int (nI i))]) hx hb dL_law_650 hl (by decide) rfl (fun ls1 hl => ?_)
      refine lv_aload_n hx hb dL_law_652 rfl (lv_at hl 3 rfl) ?_
      refine lw_arg (k := 1) G hL hpt hl (List.mem_of_getElem? (i := 1) rfl) (List.mem_of_getElem? (i := 5) rfl) (by decide) (by omega) dL_law_653 dL_law_654 dL_law_656 dL_law_657 dL_law_658 ?_
      refine lw_arg (k := 2) G hL hpt hl (List.mem_of_getElem? (i := 1) rfl) (List.mem_of_getElem? (i := 5) rfl) (by decide) (by omega) dL_law_659 dL_law_660 dL_law_662 dL_law_663 dL_law_664 ?_
      refine lw_arg (k := 3) G hL hpt hl (List.mem_of_getElem? (i := 1) rfl) (List.mem_of_getElem? (i := 5) rfl) (by decide) (by omega) dL_law_665 dL_law_666 dL_law_668 dL_law_669 dL_law_670 ?_
      refine lw_arg (k := 4) G hL hpt hl (List.mem_of_getElem? (i := 1) rfl) (List.mem_of_getElem? (i := 5) rfl) (by decide) (by omega) dL_law_671 dL_law_672 dL_law_674 dL_law_675 dL_law_676 ?_
      refine lw_arg (k := 5) G hL hpt hl (List.mem_of_getElem? (i := 1) rfl) (List.mem_of_getElem? (i := 5) rfl) (by decide) (by omega) dL_law_677 dL_law_678 dL_law_680 dL_law_681 dL_law_682 ?_
      refine lw_callM (is := [.int (xs (i + 1)), .int (xs (i + 2)), .int (xs (i + 3)), .int (xs (i + 4)), .int (xs (i + 5))]) (rest := []) h2 G hpt ham1 o1.2.1 hf1 rfl (by decide) (xok_ints [(xs (i + 1)), (xs (i + 2)), (xs (i + 3)), (xs (i + 4)), (xs (i + 5))]) rfl (xt5 118 rfl rfl) (xt5 119 rfl rfl) (xt5 120 rfl rfl) hl.1 (Nat.le_of_ble_eq_true rfl) dL_law_683 hdd (by show _ ≤ 601024; omega) (by show _ ≤ 7293034; omega) (fun H2 locs2 w2 hag2 hpt => ?_)
      have hax2 : w2.1 x = ax := (hag2 x o1.1.1).1.trans hax1
      have ham2 : w2.1 mm = am := (hag2 mm o1.2.1).1.trans ham1
      refine lv_istore (lv' := (6, .int b9) :: (5, .int 2) :: [(0, .ref b), (1, .ref ax), (2, .ref am), (3, .ref qo), (4, .int (nI i))]) hx hb dL_law_686 hl (by decide) rfl (fun ls2 hl => ?_)
      refine lv_aload_n hx hb dL_law_688 rfl (lv_at hl 4 rfl) ?_
      refine lw_callM (is := []) (rest := []) h3 G hpt ham2 o2.2.1 hf2 rfl (by decide) (xok_ints []) rfl (xt4 216 rfl rfl) (xt4 217 rfl rfl) (xt4 218 rfl rfl) hl.1 (Nat.le_of_ble_eq_true rfl) dL_law_689 hdd (by show _ ≤ 601024; omega) (by show _ ≤ 7293034; omega) (fun H3 locs3 w3 hag3 hpt => ?_)
      have hax3 : w3.1 x = ax := (hag3 x o2.1.1).1.trans hax2
      have ham3 : w3.1 mm = am := (hag3 mm o2.2.1).1.trans ham2
      refine lv_iload hx hb dL_law_692 (lv_at hl 1 rfl) ?_
      refine lv_icmp_eq (tgt := 699) hx hb dL_law_694 (by decide) (fun _ => ?_) (fun hne => absurd rfl hne)
      refine lv_iload hx hb dL_law_699 (lv_at hl 1 rfl) ?_
      refine lv_if_ne (tgt := 716) hx hb dL_law_701 (by decide) (fun _ => ?_) (fun hz0 => absurd hz0 (by decide))
      refine lv_goto (tgt := 1247) hx hb dL_law_716 (by decide) ?_
      exact lw_num (by omega) (by omega) (hk σ2 w3 _ H3 locs3 _ (t + 1) hI hax3 ham3 hpt (lv_sub hl [2, 3, 4, 5, 6] rfl) (by omega))
    rcases List.mem_cons.mp hek with hek | hek
    · cases hek
      refine lv_aload_n hx hb dL_law_615 rfl (lv_at hl 1 rfl) ?_
      refine lw_arg (k := 1) G hL hpt hl (List.mem_of_getElem? (i := 0) rfl) (List.mem_of_getElem? (i := 4) rfl) (by decide) (by omega) dL_law_616 dL_law_617 dL_law_619 dL_law_620 dL_law_621 ?_
      refine lw_arg (k := 2) G hL hpt hl (List.mem_of_getElem? (i := 0) rfl) (List.mem_of_getElem? (i := 4) rfl) (by decide) (by omega) dL_law_622 dL_law_623 dL_law_625 dL_law_626 dL_law_627 ?_
      refine lw_arg (k := 3) G hL hpt hl (List.mem_of_getElem? (i := 0) rfl) (List.mem_of_getElem? (i := 4) rfl) (by decide) (by omega) dL_law_628 dL_law_629 dL_law_631 dL_law_632 dL_law_633 ?_
      refine lw_arg (k := 4) G hL hpt hl (List.mem_of_getElem? (i := 0) rfl) (List.mem_of_getElem? (i := 4) rfl) (by decide) (by omega) dL_law_634 dL_law_635 dL_law_637 dL_law_638 dL_law_639 ?_
      refine lw_arg (k := 5) G hL hpt hl (List.mem_of_getElem? (i := 0) rfl) (List.mem_of_getElem? (i := 4) rfl) (by decide) (by omega) dL_law_640 dL_law_641 dL_law_643 dL_law_644 dL_law_645 ?_
      refine lv_aload_n hx hb dL_law_646 rfl (lv_at hl 3 rfl) ?_
      refine lw_callW (n := 7) (As := [.ref ax, .int (xs (i + 1)), .int (xs (i + 2)), .int (xs (i + 3)), .int (xs (i + 4)), .int (xs (i + 5)), .ref qo]) (rest := []) (wx_certify_0 (v := v) hls h1 hok.1.1 hf0) rfl G hpt (by rw [hax]) (xt3 214 rfl rfl) (xt3 212 rfl rfl) (xt3 213 rfl rfl) (xt1 0 rfl rfl) (by decide +kernel) rfl (by decide) hl.1 (Nat.le_of_ble_eq_true rfl) dL_law_647 hdd (by show _ ≤ 601024; omega) (by show _ ≤ 7293034; omega) (fun H1 locs1 w1 hag hpt => ?_)
      have hax1 : w1.1 x = ax := (hag x hok.1.1).1.trans hax
      have ham1 : w1.1 mm = am := (hag mm hok.2.1).1.trans ham
      refine lv_istore (lv' := (5, .int 3) :: [(0, .ref b), (1, .ref ax), (2, .ref am), (3, .ref qo), (4, .int (nI i))]) hx hb dL_law_650 hl (by decide) rfl (fun ls1 hl => ?_)
      refine lv_aload_n hx hb dL_law_652 rfl (lv_at hl 3 rfl) ?_
      refine lw_arg (k := 1) G hL hpt hl (List.mem_of_getElem? (i := 1) rfl) (List.mem_of_getElem? (i := 5) rfl) (by decide) (by omega) dL_law_653 dL_law_654 dL_law_656 dL_law_657 dL_law_658 ?_
      refine lw_arg (k := 2) G hL hpt hl (List.mem_of_getElem? (i := 1) rfl) (List.mem_of_getElem? (i := 5) rfl) (by decide) (by omega) dL_law_659 dL_law_660 dL_law_662 dL_law_663 dL_law_664 ?_
      refine lw_arg (k := 3) G hL hpt hl (List.mem_of_getElem? (i := 1) rfl) (List.mem_of_getElem? (i := 5) rfl) (by decide) (by omega) dL_law_665 dL_law_666 dL_law_668 dL_law_669 dL_law_670 ?_
      refine lw_arg (k := 4) G hL hpt hl (List.mem_of_getElem? (i := 1) rfl) (List.mem_of_getElem? (i := 5) rfl) (by decide) (by omega) dL_law_671 dL_law_672 dL_law_674 dL_law_675 dL_law_676 ?_
      refine lw_arg (k := 5) G hL hpt hl (List.mem_of_getElem? (i := 1) rfl) (List.mem_of_getElem? (i := 5) rfl) (by decide) (by omega) dL_law_677 dL_law_678 dL_law_680 dL_law_681 dL_law_682 ?_
      refine lw_callM (is := [.int (xs (i + 1)), .int (xs (i + 2)), .int (xs (i + 3)), .int (xs (i + 4)), .int (xs (i + 5))]) (rest := []) h2 G hpt ham1 o1.2.1 hf1 rfl (by decide) (xok_ints [(xs (i + 1)), (xs (i + 2)), (xs (i + 3)), (xs (i + 4)), (xs (i + 5))]) rfl (xt5 118 rfl rfl) (xt5 119 rfl rfl) (xt5 120 rfl rfl) hl.1 (Nat.le_of_ble_eq_true rfl) dL_law_683 hdd (by show _ ≤ 601024; omega) (by show _ ≤ 7293034; omega) (fun H2 locs2 w2 hag2 hpt => ?_)
      have hax2 : w2.1 x = ax := (hag2 x o1.1.1).1.trans hax1
      have ham2 : w2.1 mm = am := (hag2 mm o1.2.1).1.trans ham1
      refine lv_istore (lv' := (6, .int b9) :: (5, .int 3) :: [(0, .ref b), (1, .ref ax), (2, .ref am), (3, .ref qo), (4, .int (nI i))]) hx hb dL_law_686 hl (by decide) rfl (fun ls2 hl => ?_)
      refine lv_aload_n hx hb dL_law_688 rfl (lv_at hl 4 rfl) ?_
      refine lw_callM (is := []) (rest := []) h3 G hpt ham2 o2.2.1 hf2 rfl (by decide) (xok_ints []) rfl (xt4 216 rfl rfl) (xt4 217 rfl rfl) (xt4 218 rfl rfl) hl.1 (Nat.le_of_ble_eq_true rfl) dL_law_689 hdd (by show _ ≤ 601024; omega) (by show _ ≤ 7293034; omega) (fun H3 locs3 w3 hag3 hpt => ?_)
      have hax3 : w3.1 x = ax := (hag3 x o2.1.1).1.trans hax2
      have ham3 : w3.1 mm = am := (hag3 mm o2.2.1).1.trans ham2
      refine lv_iload hx hb dL_law_692 (lv_at hl 1 rfl) ?_
      refine lv_icmp_eq (tgt := 699) hx hb dL_law_694 (by decide) (fun _ => ?_) (fun hne => absurd rfl hne)
      refine lv_iload hx hb dL_law_699 (lv_at hl 1 rfl) ?_
      refine lv_if_ne (tgt := 716) hx hb dL_law_701 (by decide) (fun _ => ?_) (fun hz0 => absurd hz0 (by decide))
      refine lv_goto (tgt := 1247) hx hb dL_law_716 (by decide) ?_
      exact lw_num (by omega) (by omega) (hk σ2 w3 _ H3 locs3 _ (t + 1) hI hax3 ham3 hpt (lv_sub hl [2, 3, 4, 5, 6] rfl) (by omega))
    cases hek
set_option maxHeartbeats 2000000 in
set_option maxRecDepth 100000 in
theorem lc_askFor {p : Program} {l : Launch} {e : Env} {s : State} {m : MethodId} {below : List Frame} {meth : Method} {c : Code} {Q : State → Prop} {D : va_G} {H : Heap} {locs : List Loc} {ls : Array Slot} {w : XW} {σ : XS} {qo ax am : Nat} {cL : ClassId} {v : Nat → Int64} {b L d x mm i t : Nat} {xs : Nat → Int32} {Inv : XS → Prop} (hls : l.stackTraces = false) (G : lwH p s m meth c b L xs) (hL : L ≤ 3072) (hi : i + 6 ≤ L) (hop : lwV d x mm 84 141 [.int (xs (i + 1)), .int (xs (i + 2))] [(2, 1), (1, 2), (0, 3)] Inv σ) (hok : lwOk x mm σ) (hbd : ∀ σ, Inv σ → σ.1 ≤ 2000 ∧ σ.2.1 ≤ 100000) (ht : t ≤ 3072) (hdd : d ≤ 1000) (hpt : lwPt D (lwA s) s H locs w σ qo cL v) (hax : w.1 x = ax) (ham : w.1 mm = am) (hl : lv_has ls 7 [(0, .ref b), (1, .ref ax), (2, .ref am), (3, .ref qo), (4, .int (nI i))])
    (hk : ∀ (σ' : XS) (w' : XW) (v' : Nat → Int64) (H' : Heap) (locs' : List Loc) (ls' : Array Slot) (t' : Nat), Inv σ' → w'.1 x = ax → w'.1 mm = am → lwPt D (lwA s) s H' locs' w' σ' qo cL v' → lv_has ls' 7 [(0, .ref b), (1, .ref ax), (2, .ref am), (3, .ref qo), (4, .int (nI i))] → t' ≤ t + 1 → W p l e room_1 s m #[Value.ref b] below meth c H' locs' (σ'.1 + 1 + t') (σ'.2.1 + 1 + 6 * t') Q (F0 m 1247 ls' [])) :
    W p l e room_1 s m #[Value.ref b] below meth c H locs (σ.1 + 1 + t) (σ.2.1 + 1 + 6 * t) Q (F0 m 719 ls []) := by
  obtain ⟨⟨hx, hb, hr, hml, hown, hts0, hX, hbl, hlocks, hgv⟩, hts, htn, hz, hnc⟩ := id G
  obtain ⟨fs0, hf0⟩ := hok.1.2
  rcases hop with ⟨N1, N2, N3, σ1, σ2, h1, o1, h2, o2, h3, hI⟩ | ⟨N1, N2, N3, E, k, σ1, σ2, h1, hek, o1, h2, o2, h3, hI⟩
  · have q1 := xcall_mono _ _ _ _ _ _ h1
    have q2 := xcall_mono _ _ _ _ _ _ h2
    have q3 := hbd σ2 hI
    obtain ⟨fs1, hf1⟩ := o1.2.2
    obtain ⟨fs2, hf2⟩ := o2.2.2
    refine lv_aload_n hx hb dL_law_719 rfl (lv_at hl 1 rfl) ?_
    refine lw_arg (k := 1) G hL hpt hl (List.mem_of_getElem? (i := 0) rfl) (List.mem_of_getElem? (i := 4) rfl) (by decide) (by omega) dL_law_720 dL_law_721 dL_law_723 dL_law_724 dL_law_725 ?_
    refine lw_arg (k := 2) G hL hpt hl (List.mem_of_getElem? (i := 0) rfl) (List.mem_of_getElem? (i := 4) rfl) (by decide) (by omega) dL_law_726 dL_law_727 dL_law_729 dL_law_730 dL_law_731 ?_
    refine lw_callW (n := 3) (As := [.ref ax, .int (xs (i + 1)), .int (xs (i + 2))]) (rest := []) (wn_askFor (v := v) h1 hok.1.1 hf0) rfl G hpt (by rw [hax]) (xt3 237 rfl rfl) (xt3 235 rfl rfl) (xt3 236 rfl rfl) (xt1 0 rfl rfl) (by decide +kernel) rfl (by decide) hl.1 (Nat.le_of_ble_eq_true rfl) dL_law_732 hdd (by show _ ≤ 601024; omega) (by show _ ≤ 7293034; omega) (fun H1 locs1 w1 hag hpt => ?_)
    have hax1 : w1.1 x = ax := (hag x hok.1.1).1.trans hax
    have ham1 : w1.1 mm = am := (hag mm hok.2.1).1.trans ham
    refine lv_istore (lv' := (5, .int 0) :: [(0, .ref b), (1, .ref ax), (2, .ref am), (3, .ref qo), (4, .int (nI i))]) hx hb dL_law_735 hl (by decide) rfl (fun ls1 hl => ?_)
    refine lv_aload_n hx hb dL_law_737 rfl (lv_at hl 3 rfl) ?_
    refine lw_arg (k := 1) G hL hpt hl (List.mem_of_getElem? (i := 1) rfl) (List.mem_of_getElem? (i := 5) rfl) (by decide) (by omega) dL_law_738 dL_law_739 dL_law_741 dL_law_742 dL_law_743 ?_
    refine lw_arg (k := 2) G hL hpt hl (List.mem_of_getElem? (i := 1) rfl) (List.mem_of_getElem? (i := 5) rfl) (by decide) (by omega) dL_law_744 dL_law_745 dL_law_747 dL_law_748 dL_law_749 ?_
    refine lw_callM (is := [.int (xs (i + 1)), .int (xs (i + 2))]) (rest := []) h2 G hpt ham1 o1.2.1 hf1 rfl (by decide) (xok_ints [(xs (i + 1)), (xs (i + 2))]) rfl (xt5 122 rfl rfl) (xt5 123 rfl rfl) (xt5 124 rfl rfl) hl.1 (Nat.le_of_ble_eq_true rfl) dL_law_750 hdd (by show _ ≤ 601024; omega) (by show _ ≤ 7293034; omega) (fun H2 locs2 w2 hag2 hpt => ?_)
    have hax2 : w2.1 x = ax := (hag2 x o1.1.1).1.trans hax1
    have ham2 : w2.1 mm = am := (hag2 mm o1.2.1).1.trans ham1
    refine lv_aload_n hx hb dL_law_753 rfl (lv_at hl 3 rfl) ?_
    refine lw_callM (is := []) (rest := []) h3 G hpt ham2 o2.2.1 hf2 rfl (by decide) (xok_ints []) rfl (xt4 216 rfl rfl) (xt4 217 rfl rfl) (xt4 218 rfl rfl) hl.1 (Nat.le_of_ble_eq_true rfl) dL_law_754 hdd (by show _ ≤ 601024; omega) (by show _ ≤ 7293034; omega) (fun H3 locs3 w3 hag3 hpt => ?_)
    have hax3 : w3.1 x = ax := (hag3 x o2.1.1).1.trans hax2
    have ham3 : w3.1 mm = am := (hag3 mm o2.2.1).1.trans ham2
    refine lv_iload hx hb dL_law_757 (lv_at hl 0 rfl) ?_
    refine lv_icmp_eq (tgt := 764) hx hb dL_law_759 (by decide) (fun _ => ?_) (fun hne => absurd rfl hne)
    refine lv_goto (tgt := 1247) hx hb dL_law_764 (by decide) ?_
    exact lw_num (by omega) (by omega) (hk σ2 w3 _ H3 locs3 _ t hI hax3 ham3 hpt (lv_sub hl [1, 2, 3, 4, 5] rfl) (by omega))
  · have q1 := xcallX_mono _ _ _ _ _ _ h1
    have q2 := xcall_mono _ _ _ _ _ _ h2
    have q3 := hbd σ2 hI
    obtain ⟨fs1, hf1⟩ := o1.2.2
    obtain ⟨fs2, hf2⟩ := o2.2.2
    rcases List.mem_cons.mp hek with hek | hek
    · cases hek
      refine lv_aload_n hx hb dL_law_719 rfl (lv_at hl 1 rfl) ?_
      refine lw_arg (k := 1) G hL hpt hl (List.mem_of_getElem? (i := 0) rfl) (List.mem_of_getElem? (i := 4) rfl) (by decide) (by omega) dL_law_720 dL_law_721 dL_law_723 dL_law_724 dL_law_725 ?_
      refine lw_arg (k := 2) G hL hpt hl (List.mem_of_getElem? (i := 0) rfl) (List.mem_of_getElem? (i := 4) rfl) (by decide) (by omega) dL_law_726 dL_law_727 dL_law_729 dL_law_730 dL_law_731 ?_
      refine lw_callW (n := 3) (As := [.ref ax, .int (xs (i + 1)), .int (xs (i + 2))]) (rest := []) (wx_askFor_2 (v := v) hls h1 hok.1.1 hf0) rfl G hpt (by rw [hax]) (xt3 237 rfl rfl) (xt3 235 rfl rfl) (xt3 236 rfl rfl) (xt1 0 rfl rfl) (by decide +kernel) rfl (by decide) hl.1 (Nat.le_of_ble_eq_true rfl) dL_law_732 hdd (by show _ ≤ 601024; omega) (by show _ ≤ 7293034; omega) (fun H1 locs1 w1 hag hpt => ?_)
      have hax1 : w1.1 x = ax := (hag x hok.1.1).1.trans hax
      have ham1 : w1.1 mm = am := (hag mm hok.2.1).1.trans ham
      refine lv_istore (lv' := (5, .int 1) :: [(0, .ref b), (1, .ref ax), (2, .ref am), (3, .ref qo), (4, .int (nI i))]) hx hb dL_law_735 hl (by decide) rfl (fun ls1 hl => ?_)
      refine lv_aload_n hx hb dL_law_737 rfl (lv_at hl 3 rfl) ?_
      refine lw_arg (k := 1) G hL hpt hl (List.mem_of_getElem? (i := 1) rfl) (List.mem_of_getElem? (i := 5) rfl) (by decide) (by omega) dL_law_738 dL_law_739 dL_law_741 dL_law_742 dL_law_743 ?_
      refine lw_arg (k := 2) G hL hpt hl (List.mem_of_getElem? (i := 1) rfl) (List.mem_of_getElem? (i := 5) rfl) (by decide) (by omega) dL_law_744 dL_law_745 dL_law_747 dL_law_748 dL_law_749 ?_
      refine lw_callM (is := [.int (xs (i + 1)), .int (xs (i + 2))]) (rest := []) h2 G hpt ham1 o1.2.1 hf1 rfl (by decide) (xok_ints [(xs (i + 1)), (xs (i + 2))]) rfl (xt5 122 rfl rfl) (xt5 123 rfl rfl) (xt5 124 rfl rfl) hl.1 (Nat.le_of_ble_eq_true rfl) dL_law_750 hdd (by show _ ≤ 601024; omega) (by show _ ≤ 7293034; omega) (fun H2 locs2 w2 hag2 hpt => ?_)
      have hax2 : w2.1 x = ax := (hag2 x o1.1.1).1.trans hax1
      have ham2 : w2.1 mm = am := (hag2 mm o1.2.1).1.trans ham1
      refine lv_aload_n hx hb dL_law_753 rfl (lv_at hl 3 rfl) ?_
      refine lw_callM (is := []) (rest := []) h3 G hpt ham2 o2.2.1 hf2 rfl (by decide) (xok_ints []) rfl (xt4 216 rfl rfl) (xt4 217 rfl rfl) (xt4 218 rfl rfl) hl.1 (Nat.le_of_ble_eq_true rfl) dL_law_754 hdd (by show _ ≤ 601024; omega) (by show _ ≤ 7293034; omega) (fun H3 locs3 w3 hag3 hpt => ?_)
      have hax3 : w3.1 x = ax := (hag3 x o2.1.1).1.trans hax2
      have ham3 : w3.1 mm = am := (hag3 mm o2.2.1).1.trans ham2
      refine lv_iload hx hb dL_law_757 (lv_at hl 0 rfl) ?_
      refine lv_icmp_eq (tgt := 764) hx hb dL_law_759 (by decide) (fun _ => ?_) (fun hne => absurd rfl hne)
      refine lv_goto (tgt := 1247) hx hb dL_law_764 (by decide) ?_
      exact lw_num (by omega) (by omega) (hk σ2 w3 _ H3 locs3 _ (t + 1) hI hax3 ham3 hpt (lv_sub hl [1, 2, 3, 4, 5] rfl) (by omega))
    rcases List.mem_cons.mp hek with hek | hek
    · cases hek
      refine lv_aload_n hx hb dL_law_719 rfl (lv_at hl 1 rfl) ?_
      refine lw_arg (k := 1) G hL hpt hl (List.mem_of_getElem? (i := 0) rfl) (List.mem_of_getElem? (i := 4) rfl) (by decide) (by omega) dL_law_720 dL_law_721 dL_law_723 dL_law_724 dL_law_725 ?_
      refine lw_arg (k := 2) G hL hpt hl (List.mem_of_getElem? (i := 0) rfl) (List.mem_of_getElem? (i := 4) rfl) (by decide) (by omega) dL_law_726 dL_law_727 dL_law_729 dL_law_730 dL_law_731 ?_
      refine lw_callW (n := 3) (As := [.ref ax, .int (xs (i + 1)), .int (xs (i + 2))]) (rest := []) (wx_askFor_1 (v := v) hls h1 hok.1.1 hf0) rfl G hpt (by rw [hax]) (xt3 237 rfl rfl) (xt3 235 rfl rfl) (xt3 236 rfl rfl) (xt1 0 rfl rfl) (by decide +kernel) rfl (by decide) hl.1 (Nat.le_of_ble_eq_true rfl) dL_law_732 hdd (by show _ ≤ 601024; omega) (by show _ ≤ 7293034; omega) (fun H1 locs1 w1 hag hpt => ?_)
      have hax1 : w1.1 x = ax := (hag x hok.1.1).1.trans hax
      have ham1 : w1.1 mm = am := (hag mm hok.2.1).1.trans ham
      refine lv_istore (lv' := (5, .int 2) :: [(0, .ref b), (1, .ref ax), (2, .ref am), (3, .ref qo), (4, .int (nI i))]) hx hb dL_law_735 hl (by decide) rfl (fun ls1 hl => ?_)
      refine lv_aload_n hx hb dL_law_737 rfl (lv_at hl 3 rfl) ?_
      refine lw_arg (k := 1) G hL hpt hl (List.mem_of_getElem? (i := 1) rfl) (List.mem_of_getElem? (i := 5) rfl) (by decide) (by omega) dL_law_738 dL_law_739 dL_law_741 dL_law_742 dL_law_743 ?_
      refine lw_arg (k := 2) G hL hpt hl (List.mem_of_getElem? (i := 1) rfl) (List.mem_of_getElem? (i := 5) rfl) (by decide) (by omega) dL_law_744 dL_law_745 dL_law_747 dL_law_748 dL_law_749 ?_
      refine lw_callM (is := [.int (xs (i + 1)), .int (xs (i + 2))]) (rest := []) h2 G hpt ham1 o1.2.1 hf1 rfl (by decide) (xok_ints [(xs (i + 1)), (xs (i + 2))]) rfl (xt5 122 rfl rfl) (xt5 123 rfl rfl) (xt5 124 rfl rfl) hl.1 (Nat.le_of_ble_eq_true rfl) dL_law_750 hdd (by show _ ≤ 601024; omega) (by show _ ≤ 7293034; omega) (fun H2 locs2 w2 hag2 hpt => ?_)
      have hax2 : w2.1 x = ax := (hag2 x o1.1.1).1.trans hax1
      have ham2 : w2.1 mm = am := (hag2 mm o1.2.1).1.trans ham1
      refine lv_aload_n hx hb dL_law_753 rfl (lv_at hl 3 rfl) ?_
      refine lw_callM (is := []) (rest := []) h3 G hpt ham2 o2.2.1 hf2 rfl (by decide) (xok_ints []) rfl (xt4 216 rfl rfl) (xt4 217 rfl rfl) (xt4 218 rfl rfl) hl.1 (Nat.le_of_ble_eq_true rfl) dL_law_754 hdd (by show _ ≤ 601024; omega) (by show _ ≤ 7293034; omega) (fun H3 locs3 w3 hag3 hpt => ?_)
      have hax3 : w3.1 x = ax := (hag3 x o2.1.1).1.trans hax2
      have ham3 : w3.1 mm = am := (hag3 mm o2.2.1).1.trans ham2
      refine lv_iload hx hb dL_law_757 (lv_at hl 0 rfl) ?_
      refine lv_icmp_eq (tgt := 764) hx hb dL_law_759 (by decide) (fun _ => ?_) (fun hne => absurd rfl hne)
      refine lv_goto (tgt := 1247) hx hb dL_law_764 (by decide) ?_
      exact lw_num (by omega) (by omega) (hk σ2 w3 _ H3 locs3 _ (t + 1) hI hax3 ham3 hpt (lv_sub hl [1, 2, 3, 4, 5] rfl) (by omega))
    rcases List.mem_cons.mp hek with hek | hek
    · cases hek
      refine lv_aload_n hx hb dL_law_719 rfl (lv_at hl 1 rfl) ?_
      refine lw_arg (k := 1) G hL hpt hl (List.mem_of_getElem? (i := 0) rfl) (List.mem_of_getElem? (i := 4) rfl) (by decide) (by omega) dL_law_720 dL_law_721 dL_law_723 dL_law_724 dL_law_725 ?_
      refine lw_arg (k := 2) G hL hpt hl (List.mem_of_getElem? (i := 0) rfl) (List.mem_of_getElem? (i := 4) rfl) (by decide) (by omega) dL_law_726 dL_law_727 dL_law_729 dL_law_730 dL_law_731 ?_
      refine lw_callW (n := 3) (As := [.ref ax, .int (xs (i + 1)), .int (xs (i + 2))]) (rest := []) (wx_askFor_0 (v := v) hls h1 hok.1.1 hf0) rfl G hpt (by rw [hax]) (xt3 237 rfl rfl) (xt3 235 rfl rfl) (xt3 236 rfl rfl) (xt1 0 rfl rfl) (by decide +kernel) rfl (by decide) hl.1 (Nat.le_of_ble_eq_true rfl) dL_law_732 hdd (by show _ ≤ 601024; omega) (by show _ ≤ 7293034; omega) (fun H1 locs1 w1 hag hpt => ?_)
      have hax1 : w1.1 x = ax := (hag x hok.1.1).1.trans hax
      have ham1 : w1.1 mm = am := (hag mm hok.2.1).1.trans ham
      refine lv_istore (lv' := (5, .int 3) :: [(0, .ref b), (1, .ref ax), (2, .ref am), (3, .ref qo), (4, .int (nI i))]) hx hb dL_law_735 hl (by decide) rfl (fun ls1 hl => ?_)
      refine lv_aload_n hx hb dL_law_737 rfl (lv_at hl 3 rfl) ?_
      refine lw_arg (k := 1) G hL hpt hl (List.mem_of_getElem? (i := 1) rfl) (List.mem_of_getElem? (i := 5) rfl) (by decide) (by omega) dL_law_738 dL_law_739 dL_law_741 dL_law_742 dL_law_743 ?_
      refine lw_arg (k := 2) G hL hpt hl (List.mem_of_getElem? (i := 1) rfl) (List.mem_of_getElem? (i := 5) rfl) (by decide) (by omega) dL_law_744 dL_law_745 dL_law_747 dL_law_748 dL_law_749 ?_
      refine lw_callM (is := [.int (xs (i + 1)), .int (xs (i + 2))]) (rest := []) h2 G hpt ham1 o1.2.1 hf1 rfl (by decide) (xok_ints [(xs (i + 1)), (xs (i + 2))]) rfl (xt5 122 rfl rfl) (xt5 123 rfl rfl) (xt5 124 rfl rfl) hl.1 (Nat.le_of_ble_eq_true rfl) dL_law_750 hdd (by show _ ≤ 601024; omega) (by show _ ≤ 7293034; omega) (fun H2 locs2 w2 hag2 hpt => ?_)
      have hax2 : w2.1 x = ax := (hag2 x o1.1.1).1.trans hax1
      have ham2 : w2.1 mm = am := (hag2 mm o1.2.1).1.trans ham1
      refine lv_aload_n hx hb dL_law_753 rfl (lv_at hl 3 rfl) ?_
      refine lw_callM (is := []) (rest := []) h3 G hpt ham2 o2.2.1 hf2 rfl (by decide) (xok_ints []) rfl (xt4 216 rfl rfl) (xt4 217 rfl rfl) (xt4 218 rfl rfl) hl.1 (Nat.le_of_ble_eq_true rfl) dL_law_754 hdd (by show _ ≤ 601024; omega) (by show _ ≤ 7293034; omega) (fun H3 locs3 w3 hag3 hpt => ?_)
      have hax3 : w3.1 x = ax := (hag3 x o2.1.1).1.trans hax2
      have ham3 : w3.1 mm = am := (hag3 mm o2.2.1).1.trans ham2
      refine lv_iload hx hb dL_law_757 (lv_at hl 0 rfl) ?_
      refine lv_icmp_eq (tgt := 764) hx hb dL_law_759 (by decide) (fun _ => ?_) (fun hne => absurd rfl hne)
      refine lv_goto (tgt := 1247) hx hb dL_law_764 (by decide) ?_
      exact lw_num (by omega) (by omega) (hk σ2 w3 _ H3 locs3 _ (t + 1) hI hax3 ham3 hpt (lv_sub hl [1, 2, 3, 4, 5] rfl) (by omega))
    cases hek
set_option maxHeartbeats 2000000 in
set_option maxRecDepth 100000 in
theorem lc_replyWith {p : Program} {l : Launch} {e : Env} {s : State} {m : MethodId} {below : List Frame} {meth : Method} {c : Code} {Q : State → Prop} {D : va_G} {H : Heap} {locs : List Loc} {ls : Array Slot} {w : XW} {σ : XS} {qo ax am : Nat} {cL : ClassId} {v : Nat → Int64} {b L d x mm i t : Nat} {xs : Nat → Int32} {Inv : XS → Prop} (hls : l.stackTraces = false) (G : lwH p s m meth c b L xs) (hL : L ≤ 3072) (hi : i + 6 ≤ L) (hop : lwV d x mm 85 142 [.int (xs (i + 1)), .int (xs (i + 2)), .int (xs (i + 3))] [(2, 1), (1, 2)] Inv σ) (hok : lwOk x mm σ) (hbd : ∀ σ, Inv σ → σ.1 ≤ 2000 ∧ σ.2.1 ≤ 100000) (ht : t ≤ 3072) (hdd : d ≤ 1000) (hpt : lwPt D (lwA s) s H locs w σ qo cL v) (hax : w.1 x = ax) (ham : w.1 mm = am) (hl : lv_has ls 7 [(0, .ref b), (1, .ref ax), (2, .ref am), (3, .ref qo), (4, .int (nI i))])
    (hk : ∀ (σ' : XS) (w' : XW) (v' : Nat → Int64) (H' : Heap) (locs' : List Loc) (ls' : Array Slot) (t' : Nat), Inv σ' → w'.1 x = ax → w'.1 mm = am → lwPt D (lwA s) s H' locs' w' σ' qo cL v' → lv_has ls' 7 [(0, .ref b), (1, .ref ax), (2, .ref am), (3, .ref qo), (4, .int (nI i))] → t' ≤ t + 1 → W p l e room_1 s m #[Value.ref b] below meth c H' locs' (σ'.1 + 1 + t') (σ'.2.1 + 1 + 6 * t') Q (F0 m 1247 ls' [])) :
    W p l e room_1 s m #[Value.ref b] below meth c H locs (σ.1 + 1 + t) (σ.2.1 + 1 + 6 * t) Q (F0 m 767 ls []) := by
  obtain ⟨⟨hx, hb, hr, hml, hown, hts0, hX, hbl, hlocks, hgv⟩, hts, htn, hz, hnc⟩ := id G
  obtain ⟨fs0, hf0⟩ := hok.1.2
  rcases hop with ⟨N1, N2, N3, σ1, σ2, h1, o1, h2, o2, h3, hI⟩ | ⟨N1, N2, N3, E, k, σ1, σ2, h1, hek, o1, h2, o2, h3, hI⟩
  · have q1 := xcall_mono _ _ _ _ _ _ h1
    have q2 := xcall_mono _ _ _ _ _ _ h2
    have q3 := hbd σ2 hI
    obtain ⟨fs1, hf1⟩ := o1.2.2
    obtain ⟨fs2, hf2⟩ := o2.2.2
    refine lv_aload_n hx hb dL_law_767 rfl (lv_at hl 1 rfl) ?_
    refine lw_arg (k := 1) G hL hpt hl (List.mem_of_getElem? (i := 0) rfl) (List.mem_of_getElem? (i := 4) rfl) (by decide) (by omega) dL_law_768 dL_law_769 dL_law_771 dL_law_772 dL_law_773 ?_
    refine lw_arg (k := 2) G hL hpt hl (List.mem_of_getElem? (i := 0) rfl) (List.mem_of_getElem? (i := 4) rfl) (by decide) (by omega) dL_law_774 dL_law_775 dL_law_777 dL_law_778 dL_law_779 ?_
    refine lw_arg (k := 3) G hL hpt hl (List.mem_of_getElem? (i := 0) rfl) (List.mem_of_getElem? (i := 4) rfl) (by decide) (by omega) dL_law_780 dL_law_781 dL_law_783 dL_law_784 dL_law_785 ?_
    refine lw_callW (n := 4) (As := [.ref ax, .int (xs (i + 1)), .int (xs (i + 2)), .int (xs (i + 3))]) (rest := []) (wn_replyWith (v := v) h1 hok.1.1 hf0) rfl G hpt (by rw [hax]) (xt4 8 rfl rfl) (xt4 6 rfl rfl) (xt4 7 rfl rfl) (xt1 0 rfl rfl) (by decide +kernel) rfl (by decide) hl.1 (Nat.le_of_ble_eq_true rfl) dL_law_786 hdd (by show _ ≤ 601024; omega) (by show _ ≤ 7293034; omega) (fun H1 locs1 w1 hag hpt => ?_)
    have hax1 : w1.1 x = ax := (hag x hok.1.1).1.trans hax
    have ham1 : w1.1 mm = am := (hag mm hok.2.1).1.trans ham
    refine lv_istore (lv' := (5, .int 0) :: [(0, .ref b), (1, .ref ax), (2, .ref am), (3, .ref qo), (4, .int (nI i))]) hx hb dL_law_789 hl (by decide) rfl (fun ls1 hl => ?_)
    refine lv_aload_n hx hb dL_law_791 rfl (lv_at hl 3 rfl) ?_
    refine lw_arg (k := 1) G hL hpt hl (List.mem_of_getElem? (i := 1) rfl) (List.mem_of_getElem? (i := 5) rfl) (by decide) (by omega) dL_law_792 dL_law_793 dL_law_795 dL_law_796 dL_law_797 ?_
    refine lw_arg (k := 2) G hL hpt hl (List.mem_of_getElem? (i := 1) rfl) (List.mem_of_getElem? (i := 5) rfl) (by decide) (by omega) dL_law_798 dL_law_799 dL_law_801 dL_law_802 dL_law_803 ?_
    refine lw_arg (k := 3) G hL hpt hl (List.mem_of_getElem? (i := 1) rfl) (List.mem_of_getElem? (i := 5) rfl) (by decide) (by omega) dL_law_804 dL_law_805 dL_law_807 dL_law_808 dL_law_809 ?_
    refine lw_callM (is := [.int (xs (i + 1)), .int (xs (i + 2)), .int (xs (i + 3))]) (rest := []) h2 G hpt ham1 o1.2.1 hf1 rfl (by decide) (xok_ints [(xs (i + 1)), (xs (i + 2)), (xs (i + 3))]) rfl (xt5 126 rfl rfl) (xt5 127 rfl rfl) (xt5 128 rfl rfl) hl.1 (Nat.le_of_ble_eq_true rfl) dL_law_810 hdd (by show _ ≤ 601024; omega) (by show _ ≤ 7293034; omega) (fun H2 locs2 w2 hag2 hpt => ?_)
    have hax2 : w2.1 x = ax := (hag2 x o1.1.1).1.trans hax1
    have ham2 : w2.1 mm = am := (hag2 mm o1.2.1).1.trans ham1
    refine lv_aload_n hx hb dL_law_813 rfl (lv_at hl 3 rfl) ?_
    refine lw_callM (is := []) (rest := []) h3 G hpt ham2 o2.2.1 hf2 rfl (by decide) (xok_ints []) rfl (xt4 216 rfl rfl) (xt4 217 rfl rfl) (xt4 218 rfl rfl) hl.1 (Nat.le_of_ble_eq_true rfl) dL_law_814 hdd (by show _ ≤ 601024; omega) (by show _ ≤ 7293034; omega) (fun H3 locs3 w3 hag3 hpt => ?_)
    have hax3 : w3.1 x = ax := (hag3 x o2.1.1).1.trans hax2
    have ham3 : w3.1 mm = am := (hag3 mm o2.2.1).1.trans ham2
    refine lv_iload hx hb dL_law_817 (lv_at hl 0 rfl) ?_
    refine lv_icmp_eq (tgt := 824) hx hb dL_law_819 (by decide) (fun _ => ?_) (fun hne => absurd rfl hne)
    refine lv_goto (tgt := 1247) hx hb dL_law_824 (by decide) ?_
    exact lw_num (by omega) (by omega) (hk σ2 w3 _ H3 locs3 _ t hI hax3 ham3 hpt (lv_sub hl [1, 2, 3, 4, 5] rfl) (by omega))
  · have q1 := xcallX_mono _ _ _ _ _ _ h1
    have q2 := xcall_mono _ _ _ _ _ _ h2
    have q3 := hbd σ2 hI
    obtain ⟨fs1, hf1⟩ := o1.2.2
    obtain ⟨fs2, hf2⟩ := o2.2.2
    rcases List.mem_cons.mp hek with hek | hek
    · cases hek
      refine lv_aload_n hx hb dL_law_767 rfl (lv_at hl 1 rfl) ?_
      refine lw_arg (k := 1) G hL hpt hl (List.mem_of_getElem? (i := 0) rfl) (List.mem_of_getElem? (i := 4) rfl) (by decide) (by omega) dL_law_768 dL_law_769 dL_law_771 dL_law_772 dL_law_773 ?_
      refine lw_arg (k := 2) G hL hpt hl (List.mem_of_getElem? (i := 0) rfl) (List.mem_of_getElem? (i := 4) rfl) (by decide) (by omega) dL_law_774 dL_law_775 dL_law_777 dL_law_778 dL_law_779 ?_
      refine lw_arg (k := 3) G hL hpt hl (List.mem_of_getElem? (i := 0) rfl) (List.mem_of_getElem? (i := 4) rfl) (by decide) (by omega) dL_law_780 dL_law_781 dL_law_783 dL_law_784 dL_law_785 ?_
      refine lw_callW (n := 4) (As := [.ref ax, .int (xs (i + 1)), .int (xs (i + 2)), .int (xs (i + 3))]) (rest := []) (wx_replyWith_2 (v := v) hls h1 hok.1.1 hf0) rfl G hpt (by rw [hax]) (xt4 8 rfl rfl) (xt4 6 rfl rfl) (xt4 7 rfl rfl) (xt1 0 rfl rfl) (by decide +kernel) rfl (by decide) hl.1 (Nat.le_of_ble_eq_true rfl) dL_law_786 hdd (by show _ ≤ 601024; omega) (by show _ ≤ 7293034; omega) (fun H1 locs1 w1 hag hpt => ?_)
      have hax1 : w1.1 x = ax := (hag x hok.1.1).1.trans hax
      have ham1 : w1.1 mm = am := (hag mm hok.2.1).1.trans ham
      refine lv_istore (lv' := (5, .int 1) :: [(0, .ref b), (1, .ref ax), (2, .ref am), (3, .ref qo), (4, .int (nI i))]) hx hb dL_law_789 hl (by decide) rfl (fun ls1 hl => ?_)
      refine lv_aload_n hx hb dL_law_791 rfl (lv_at hl 3 rfl) ?_
      refine lw_arg (k := 1) G hL hpt hl (List.mem_of_getElem? (i := 1) rfl) (List.mem_of_getElem? (i := 5) rfl) (by decide) (by omega) dL_law_792 dL_law_793 dL_law_795 dL_law_796 dL_law_797 ?_
      refine lw_arg (k := 2) G hL hpt hl (List.mem_of_getElem? (i := 1) rfl) (List.mem_of_getElem? (i := 5) rfl) (by decide) (by omega) dL_law_798 dL_law_799 dL_law_801 dL_law_802 dL_law_803 ?_
      refine lw_arg (k := 3) G hL hpt hl (List.mem_of_getElem? (i := 1) rfl) (List.mem_of_getElem? (i := 5) rfl) (by decide) (by omega) dL_law_804 dL_law_805 dL_law_807 dL_law_808 dL_law_809 ?_
      refine lw_callM (is := [.int (xs (i + 1)), .int (xs (i + 2)), .int (xs (i + 3))]) (rest := []) h2 G hpt ham1 o1.2.1 hf1 rfl (by decide) (xok_ints [(xs (i + 1)), (xs (i + 2)), (xs (i + 3))]) rfl (xt5 126 rfl rfl) (xt5 127 rfl rfl) (xt5 128 rfl rfl) hl.1 (Nat.le_of_ble_eq_true rfl) dL_law_810 hdd (by show _ ≤ 601024; omega) (by show _ ≤ 7293034; omega) (fun H2 locs2 w2 hag2 hpt => ?_)
      have hax2 : w2.1 x = ax := (hag2 x o1.1.1).1.trans hax1
      have ham2 : w2.1 mm = am := (hag2 mm o1.2.1).1.trans ham1
      refine lv_aload_n hx hb dL_law_813 rfl (lv_at hl 3 rfl) ?_
      refine lw_callM (is := []) (rest := []) h3 G hpt ham2 o2.2.1 hf2 rfl (by decide) (xok_ints []) rfl (xt4 216 rfl rfl) (xt4 217 rfl rfl) (xt4 218 rfl rfl) hl.1 (Nat.le_of_ble_eq_true rfl) dL_law_814 hdd (by show _ ≤ 601024; omega) (by show _ ≤ 7293034; omega) (fun H3 locs3 w3 hag3 hpt => ?_)
      have hax3 : w3.1 x = ax := (hag3 x o2.1.1).1.trans hax2
      have ham3 : w3.1 mm = am := (hag3 mm o2.2.1).1.trans ham2
      refine lv_iload hx hb dL_law_817 (lv_at hl 0 rfl) ?_
      refine lv_icmp_eq (tgt := 824) hx hb dL_law_819 (by decide) (fun _ => ?_) (fun hne => absurd rfl hne)
      refine lv_goto (tgt := 1247) hx hb dL_law_824 (by decide) ?_
      exact lw_num (by omega) (by omega) (hk σ2 w3 _ H3 locs3 _ (t + 1) hI hax3 ham3 hpt (lv_sub hl [1, 2, 3, 4, 5] rfl) (by omega))
    rcases List.mem_cons.mp hek with hek | hek
    · cases hek
      refine lv_aload_n hx hb dL_law_767 rfl (lv_at hl 1 rfl) ?_
      refine lw_arg (k := 1) G hL hpt hl (List.mem_of_getElem? (i := 0) rfl) (List.mem_of_getElem? (i := 4) rfl) (by decide) (by omega) dL_law_768 dL_law_769 dL_law_771 dL_law_772 dL_law_773 ?_
      refine lw_arg (k := 2) G hL hpt hl (List.mem_of_getElem? (i := 0) rfl) (List.mem_of_getElem? (i := 4) rfl) (by decide) (by omega) dL_law_774 dL_law_775 dL_law_777 dL_law_778 dL_law_779 ?_
      refine lw_arg (k := 3) G hL hpt hl (List.mem_of_getElem? (i := 0) rfl) (List.mem_of_getElem? (i := 4) rfl) (by decide) (by omega) dL_law_780 dL_law_781 dL_law_783 dL_law_784 dL_law_785 ?_
      refine lw_callW (n := 4) (As := [.ref ax, .int (xs (i + 1)), .int (xs (i + 2)), .int (xs (i + 3))]) (rest := []) (wx_replyWith_1 (v := v) hls h1 hok.1.1 hf0) rfl G hpt (by rw [hax]) (xt4 8 rfl rfl) (xt4 6 rfl rfl) (xt4 7 rfl rfl) (xt1 0 rfl rfl) (by decide +kernel) rfl (by decide) hl.1 (Nat.le_of_ble_eq_true rfl) dL_law_786 hdd (by show _ ≤ 601024; omega) (by show _ ≤ 7293034; omega) (fun H1 locs1 w1 hag hpt => ?_)
      have hax1 : w1.1 x = ax := (hag x hok.1.1).1.trans hax
      have ham1 : w1.1 mm = am := (hag mm hok.2.1).1.trans ham
      refine lv_istore (lv' := (5, .int 2) :: [(0, .ref b), (1, .ref ax), (2, .ref am), (3, .ref qo), (4, .int (nI i))]) hx hb dL_law_789 hl (by decide) rfl (fun ls1 hl => ?_)
      refine lv_aload_n hx hb dL_law_791 rfl (lv_at hl 3 rfl) ?_
      refine lw_arg (k := 1) G hL hpt hl (List.mem_of_getElem? (i := 1) rfl) (List.mem_of_getElem? (i := 5) rfl) (by decide) (by omega) dL_law_792 dL_law_793 dL_law_795 dL_law_796 dL_law_797 ?_
      refine lw_arg (k := 2) G hL hpt hl (List.mem_of_getElem? (i := 1) rfl) (List.mem_of_getElem? (i := 5) rfl) (by decide) (by omega) dL_law_798 dL_law_799 dL_law_801 dL_law_802 dL_law_803 ?_
      refine lw_arg (k := 3) G hL hpt hl (List.mem_of_getElem? (i := 1) rfl) (List.mem_of_getElem? (i := 5) rfl) (by decide) (by omega) dL_law_804 dL_law_805 dL_law_807 dL_law_808 dL_law_809 ?_
      refine lw_callM (is := [.int (xs (i + 1)), .int (xs (i + 2)), .int (xs (i + 3))]) (rest := []) h2 G hpt ham1 o1.2.1 hf1 rfl (by decide) (xok_ints [(xs (i + 1)), (xs (i + 2)), (xs (i + 3))]) rfl (xt5 126 rfl rfl) (xt5 127 rfl rfl) (xt5 128 rfl rfl) hl.1 (Nat.le_of_ble_eq_true rfl) dL_law_810 hdd (by show _ ≤ 601024; omega) (by show _ ≤ 7293034; omega) (fun H2 locs2 w2 hag2 hpt => ?_)
      have hax2 : w2.1 x = ax := (hag2 x o1.1.1).1.trans hax1
      have ham2 : w2.1 mm = am := (hag2 mm o1.2.1).1.trans ham1
      refine lv_aload_n hx hb dL_law_813 rfl (lv_at hl 3 rfl) ?_
      refine lw_callM (is := []) (rest := []) h3 G hpt ham2 o2.2.1 hf2 rfl (by decide) (xok_ints []) rfl (xt4 216 rfl rfl) (xt4 217 rfl rfl) (xt4 218 rfl rfl) hl.1 (Nat.le_of_ble_eq_true rfl) dL_law_814 hdd (by show _ ≤ 601024; omega) (by show _ ≤ 7293034; omega) (fun H3 locs3 w3 hag3 hpt => ?_)
      have hax3 : w3.1 x = ax := (hag3 x o2.1.1).1.trans hax2
      have ham3 : w3.1 mm = am := (hag3 mm o2.2.1).1.trans ham2
      refine lv_iload hx hb dL_law_817 (lv_at hl 0 rfl) ?_
      refine lv_icmp_eq (tgt := 824) hx hb dL_law_819 (by decide) (fun _ => ?_) (fun hne => absurd rfl hne)
      refine lv_goto (tgt := 1247) hx hb dL_law_824 (by decide) ?_
      exact lw_num (by omega) (by omega) (hk σ2 w3 _ H3 locs3 _ (t + 1) hI hax3 ham3 hpt (lv_sub hl [1, 2, 3, 4, 5] rfl) (by omega))
    cases hek
set_option maxHeartbeats 2000000 in
set_option maxRecDepth 100000 in
theorem lc_state {p : Program} {l : Launch} {e : Env} {s : State} {m : MethodId} {below : List Frame} {meth : Method} {c : Code} {Q : State → Prop} {D : va_G} {H : Heap} {locs : List Loc} {ls : Array Slot} {w : XW} {σ : XS} {qo ax am : Nat} {cL : ClassId} {v : Nat → Int64} {b L d x mm i t : Nat} {xs : Nat → Int32} {Inv : XS → Prop} (hls : l.stackTraces = false) (G : lwH p s m meth c b L xs) (hL : L ≤ 3072) (hi : i + 6 ≤ L) (hop : lwI d x mm 86 143 [.int (xs (i + 1)), .int (xs (i + 2))] [(2, 1), (0, 2)] Inv σ) (hok : lwOk x mm σ) (hbd : ∀ σ, Inv σ → σ.1 ≤ 2000 ∧ σ.2.1 ≤ 100000) (ht : t ≤ 3072) (hdd : d ≤ 1000) (hpt : lwPt D (lwA s) s H locs w σ qo cL v) (hax : w.1 x = ax) (ham : w.1 mm = am) (hl : lv_has ls 7 [(0, .ref b), (1, .ref ax), (2, .ref am), (3, .ref qo), (4, .int (nI i))])
    (hk : ∀ (σ' : XS) (w' : XW) (v' : Nat → Int64) (H' : Heap) (locs' : List Loc) (ls' : Array Slot) (t' : Nat), Inv σ' → w'.1 x = ax → w'.1 mm = am → lwPt D (lwA s) s H' locs' w' σ' qo cL v' → lv_has ls' 7 [(0, .ref b), (1, .ref ax), (2, .ref am), (3, .ref qo), (4, .int (nI i))] → t' ≤ t + 1 → W p l e room_1 s m #[Value.ref b] below meth c H' locs' (σ'.1 + 1 + t') (σ'.2.1 + 1 + 6 * t') Q (F0 m 1247 ls' [])) :
    W p l e room_1 s m #[Value.ref b] below meth c H locs (σ.1 + 1 + t) (σ.2.1 + 1 + 6 * t) Q (F0 m 827 ls []) := by
  obtain ⟨⟨hx, hb, hr, hml, hown, hts0, hX, hbl, hlocks, hgv⟩, hts, htn, hz, hnc⟩ := id G
  obtain ⟨fs0, hf0⟩ := hok.1.2
  rcases hop with ⟨N1, N2, N3, r, σ1, σ2, h1, o1, h2, o2, h3, hI⟩ | ⟨N1, N2, N3, E, k, b9, σ1, σ2, h1, hek, o1, h2, o2, h3, hI⟩
  · have q1 := xcall_mono _ _ _ _ _ _ h1
    have q2 := xcall_mono _ _ _ _ _ _ h2
    have q3 := hbd σ2 hI
    obtain ⟨fs1, hf1⟩ := o1.2.2
    obtain ⟨fs2, hf2⟩ := o2.2.2
    refine lv_aload_n hx hb dL_law_827 rfl (lv_at hl 1 rfl) ?_
    refine lw_arg (k := 1) G hL hpt hl (List.mem_of_getElem? (i := 0) rfl) (List.mem_of_getElem? (i := 4) rfl) (by decide) (by omega) dL_law_828 dL_law_829 dL_law_831 dL_law_832 dL_law_833 ?_
    refine lw_arg (k := 2) G hL hpt hl (List.mem_of_getElem? (i := 0) rfl) (List.mem_of_getElem? (i := 4) rfl) (by decide) (by omega) dL_law_834 dL_law_835 dL_law_837 dL_law_838 dL_law_839 ?_
    refine lv_aload_n hx hb dL_law_840 rfl (lv_at hl 3 rfl) ?_
    refine lw_callW (n := 4) (As := [.ref ax, .int (xs (i + 1)), .int (xs (i + 2)), .ref qo]) (rest := []) (wn_state (v := v) h1 hok.1.1 hf0) rfl G hpt (by rw [hax]) (xt4 16 rfl rfl) (xt4 14 rfl rfl) (xt4 15 rfl rfl) (xt1 0 rfl rfl) (by decide +kernel) rfl (by decide) hl.1 (Nat.le_of_ble_eq_true rfl) dL_law_841 hdd (by show _ ≤ 601024; omega) (by show _ ≤ 7293034; omega) (fun H1 locs1 w1 hag hpt => ?_)
    have hax1 : w1.1 x = ax := (hag x hok.1.1).1.trans hax
    have ham1 : w1.1 mm = am := (hag mm hok.2.1).1.trans ham
    refine lv_istore (lv' := (5, .int 0) :: [(0, .ref b), (1, .ref ax), (2, .ref am), (3, .ref qo), (4, .int (nI i))]) hx hb dL_law_844 hl (by decide) rfl (fun ls1 hl => ?_)
    refine lv_aload_n hx hb dL_law_846 rfl (lv_at hl 3 rfl) ?_
    refine lw_arg (k := 1) G hL hpt hl (List.mem_of_getElem? (i := 1) rfl) (List.mem_of_getElem? (i := 5) rfl) (by decide) (by omega) dL_law_847 dL_law_848 dL_law_850 dL_law_851 dL_law_852 ?_
    refine lw_arg (k := 2) G hL hpt hl (List.mem_of_getElem? (i := 1) rfl) (List.mem_of_getElem? (i := 5) rfl) (by decide) (by omega) dL_law_853 dL_law_854 dL_law_856 dL_law_857 dL_law_858 ?_
    refine lw_callM (is := [.int (xs (i + 1)), .int (xs (i + 2))]) (rest := []) h2 G hpt ham1 o1.2.1 hf1 rfl (by decide) (xok_ints [(xs (i + 1)), (xs (i + 2))]) rfl (xt5 130 rfl rfl) (xt5 131 rfl rfl) (xt5 132 rfl rfl) hl.1 (Nat.le_of_ble_eq_true rfl) dL_law_859 hdd (by show _ ≤ 601024; omega) (by show _ ≤ 7293034; omega) (fun H2 locs2 w2 hag2 hpt => ?_)
    have hax2 : w2.1 x = ax := (hag2 x o1.1.1).1.trans hax1
    have ham2 : w2.1 mm = am := (hag2 mm o1.2.1).1.trans ham1
    refine lv_istore (lv' := (6, .int r) :: (5, .int 0) :: [(0, .ref b), (1, .ref ax), (2, .ref am), (3, .ref qo), (4, .int (nI i))]) hx hb dL_law_862 hl (by decide) rfl (fun ls2 hl => ?_)
    refine lv_aload_n hx hb dL_law_864 rfl (lv_at hl 4 rfl) ?_
    refine lw_callM (is := []) (rest := []) h3 G hpt ham2 o2.2.1 hf2 rfl (by decide) (xok_ints []) rfl (xt4 216 rfl rfl) (xt4 217 rfl rfl) (xt4 218 rfl rfl) hl.1 (Nat.le_of_ble_eq_true rfl) dL_law_865 hdd (by show _ ≤ 601024; omega) (by show _ ≤ 7293034; omega) (fun H3 locs3 w3 hag3 hpt => ?_)
    have hax3 : w3.1 x = ax := (hag3 x o2.1.1).1.trans hax2
    have ham3 : w3.1 mm = am := (hag3 mm o2.2.1).1.trans ham2
    refine lv_iload hx hb dL_law_868 (lv_at hl 1 rfl) ?_
    refine lv_icmp_eq (tgt := 875) hx hb dL_law_870 (by decide) (fun _ => ?_) (fun hne => absurd rfl hne)
    refine lv_iload hx hb dL_law_875 (lv_at hl 1 rfl) ?_
    refine lv_if_ne (tgt := 892) hx hb dL_law_877 (by decide) (fun hne => absurd rfl hne) (fun _ => ?_)
    refine lv_aload_n hx hb dL_law_880 rfl (lv_at hl 5 rfl) ?_
    refine lv_iconst (v := 0) hx hb dL_law_881 (by decide) ?_
    refine lw_laload G hpt dL_law_882 ?_
    rw [pk_uLs]
    refine lv_iload hx hb dL_law_883 (lv_at hl 0 rfl) ?_
    refine lv_i2l hx hb dL_law_885 rfl ?_
    refine W.lcmp hx hb dL_law_886 ?_
    rw [lg_cmp_self]
    refine lv_if_eq (tgt := 892) hx hb dL_law_887 (by decide) (fun _ => ?_) (fun hne => absurd rfl hne)
    refine lv_goto (tgt := 1247) hx hb dL_law_892 (by decide) ?_
    exact lw_num (by omega) (by omega) (hk σ2 w3 _ H3 locs3 _ t hI hax3 ham3 hpt (lv_sub hl [2, 3, 4, 5, 6] rfl) (by omega))
  · have q1 := xcallX_mono _ _ _ _ _ _ h1
    have q2 := xcall_mono _ _ _ _ _ _ h2
    have q3 := hbd σ2 hI
    obtain ⟨fs1, hf1⟩ := o1.2.2
    obtain ⟨fs2, hf2⟩ := o2.2.2
    rcases List.mem_cons.mp hek with hek | hek
    · cases hek
      refine lv_aload_n hx hb dL_law_827 rfl (lv_at hl 1 rfl) ?_
      refine lw_arg (k := 1) G hL hpt hl (List.mem_of_getElem? (i := 0) rfl) (List.mem_of_getElem? (i := 4) rfl) (by decide) (by omega) dL_law_828 dL_law_829 dL_law_831 dL_law_832 dL_law_833 ?_
      refine lw_arg (k := 2) G hL hpt hl (List.mem_of_getElem? (i := 0) rfl) (List.mem_of_getElem? (i := 4) rfl) (by decide) (by omega) dL_law_834 dL_law_835 dL_law_837 dL_law_838 dL_law_839 ?_
      refine lv_aload_n hx hb dL_law_840 rfl (lv_at hl 3 rfl) ?_
      refine lw_callW (n := 4) (As := [.ref ax, .int (xs (i + 1)), .int (xs (i + 2)), .ref qo]) (rest := []) (wx_state_2 (v := v) hls h1 hok.1.1 hf0) rfl G hpt (by rw [hax]) (xt4 16 rfl rfl) (xt4 14 rfl rfl) (xt4 15 rfl rfl) (xt1 0 rfl rfl) (by decide +kernel) rfl (by decide) hl.1 (Nat.le_of_ble_eq_true rfl) dL_law_841 hdd (by show _ ≤ 601024; omega) (by show _ ≤ 7293034; omega) (fun H1 locs1 w1 hag hpt => ?_)
      have hax1 : w1.1 x = ax := (hag x hok.1.1).1.trans hax
      have ham1 : w1.1 mm = am := (hag mm hok.2.1).1.trans ham
      refine lv_istore (lv' := (5, .int 1) :: [(0, .ref b), (1, .ref ax), (2, .ref am), (3, .ref qo), (4, .int (nI i))]) hx hb dL_law_844 hl (by decide) rfl (fun ls1 hl => ?_)
      refine lv_aload_n hx hb dL_law_846 rfl (lv_at hl 3 rfl) ?_
      refine lw_arg (k := 1) G hL hpt hl (List.mem_of_getElem? (i := 1) rfl) (List.mem_of_getElem? (i := 5) rfl) (by decide) (by omega) dL_law_847 dL_law_848 dL_law_850 dL_law_851 dL_law_852 ?_
      refine lw_arg (k := 2) G hL hpt hl (List.mem_of_getElem? (i := 1) rfl) (List.mem_of_getElem? (i := 5) rfl) (by decide) (by omega) dL_law_853 dL_law_854 dL_law_856 dL_law_857 dL_law_858 ?_
      refine lw_callM (is := [.int (xs (i + 1)), .int (xs (i + 2))]) (rest := []) h2 G hpt ham1 o1.2.1 hf1 rfl (by decide) (xok_ints [(xs (i + 1)), (xs (i + 2))]) rfl (xt5 130 rfl rfl) (xt5 131 rfl rfl) (xt5 132 rfl rfl) hl.1 (Nat.le_of_ble_eq_true rfl) dL_law_859 hdd (by show _ ≤ 601024; omega) (by show _ ≤ 7293034; omega) (fun H2 locs2 w2 hag2 hpt => ?_)
      have hax2 : w2.1 x = ax := (hag2 x o1.1.1).1.trans hax1
      have ham2 : w2.1 mm = am := (hag2 mm o1.2.1).1.trans ham1
      refine lv_istore (lv' := (6, .int b9) :: (5, .int 1) :: [(0, .ref b), (1, .ref ax), (2, .ref am), (3, .ref qo), (4, .int (nI i))]) hx hb dL_law_862 hl (by decide) rfl (fun ls2 hl => ?_)
      refine lv_aload_n hx hb dL_law_864 rfl (lv_at hl 4 rfl) ?_
      refine lw_callM (is := []) (rest := []) h3 G hpt ham2 o2.2.1 hf2 rfl (by decide) (xok_ints []) rfl (xt4 216 rfl rfl) (xt4 217 rfl rfl) (xt4 218 rfl rfl) hl.1 (Nat.le_of_ble_eq_true rfl) dL_law_865 hdd (by show _ ≤ 601024; omega) (by show _ ≤ 7293034; omega) (fun H3 locs3 w3 hag3 hpt => ?_)
      have hax3 : w3.1 x = ax := (hag3 x o2.1.1).1.trans hax2
      have ham3 : w3.1 mm = am := (hag3 mm o2.2.1).1.trans ham2
      refine lv_iload hx hb dL_law_868 (lv_at hl 1 rfl) ?_
      refine lv_icmp_eq (tgt := 875) hx hb dL_law_870 (by decide) (fun _ => ?_) (fun hne => absurd rfl hne)
      refine lv_iload hx hb dL_law_875 (lv_at hl 1 rfl) ?_
      refine lv_if_ne (tgt := 892) hx hb dL_law_877 (by decide) (fun _ => ?_) (fun hz0 => absurd hz0 (by decide))
      refine lv_goto (tgt := 1247) hx hb dL_law_892 (by decide) ?_
      exact lw_num (by omega) (by omega) (hk σ2 w3 _ H3 locs3 _ (t + 1) hI hax3 ham3 hpt (lv_sub hl [2, 3, 4, 5, 6] rfl) (by omega))
    rcases List.mem_cons.mp hek with hek | hek
    · cases hek
      refine lv_aload_n hx hb dL_law_827 rfl (lv_at hl 1 rfl) ?_
      refine lw_arg (k := 1) G hL hpt hl (List.mem_of_getElem? (i := 0) rfl) (List.mem_of_getElem? (i := 4) rfl) (by decide) (by omega) dL_law_828 dL_law_829 dL_law_831 dL_law_832 dL_law_833 ?_
      refine lw_arg (k := 2) G hL hpt hl (List.mem_of_getElem? (i := 0) rfl) (List.mem_of_getElem? (i := 4) rfl) (by decide) (by omega) dL_law_834 dL_law_835 dL_law_837 dL_law_838 dL_law_839 ?_
      refine lv_aload_n hx hb dL_law_840 rfl (lv_at hl 3 rfl) ?_
      refine lw_callW (n := 4) (As := [.ref ax, .int (xs (i + 1)), .int (xs (i + 2)), .ref qo]) (rest := []) (wx_state_0 (v := v) hls h1 hok.1.1 hf0) rfl G hpt (by rw [hax]) (xt4 16 rfl rfl) (xt4 14 rfl rfl) (xt4 15 rfl rfl) (xt1 0 rfl rfl) (by decide +kernel) rfl (by decide) hl.1 (Nat.le_of_ble_eq_true rfl) dL_law_841 hdd (by show _ ≤ 601024; omega) (by show _ ≤ 7293034; omega) (fun H1 locs1 w1 hag hpt => ?_)
      have hax1 : w1.1 x = ax := (hag x hok.1.1).1.trans hax
      have ham1 : w1.1 mm = am := (hag mm hok.2.1).1.trans ham
      refine lv_istore (lv' := (5, .int 2) :: [(0, .ref b), (1, .ref ax), (2, .ref am), (3, .ref qo), (4, .int (nI i))]) hx hb dL_law_844 hl (by decide) rfl (fun ls1 hl => ?_)
      refine lv_aload_n hx hb dL_law_846 rfl (lv_at hl 3 rfl) ?_
      refine lw_arg (k := 1) G hL hpt hl (List.mem_of_getElem? (i := 1) rfl) (List.mem_of_getElem? (i := 5) rfl) (by decide) (by omega) dL_law_847 dL_law_848 dL_law_850 dL_law_851 dL_law_852 ?_
      refine lw_arg (k := 2) G hL hpt hl (List.mem_of_getElem? (i := 1) rfl) (List.mem_of_getElem? (i := 5) rfl) (by decide) (by omega) dL_law_853 dL_law_854 dL_law_856 dL_law_857 dL_law_858 ?_
      refine lw_callM (is := [.int (xs (i + 1)), .int (xs (i + 2))]) (rest := []) h2 G hpt ham1 o1.2.1 hf1 rfl (by decide) (xok_ints [(xs (i + 1)), (xs (i + 2))]) rfl (xt5 130 rfl rfl) (xt5 131 rfl rfl) (xt5 132 rfl rfl) hl.1 (Nat.le_of_ble_eq_true rfl) dL_law_859 hdd (by show _ ≤ 601024; omega) (by show _ ≤ 7293034; omega) (fun H2 locs2 w2 hag2 hpt => ?_)
      have hax2 : w2.1 x = ax := (hag2 x o1.1.1).1.trans hax1
      have ham2 : w2.1 mm = am := (hag2 mm o1.2.1).1.trans ham1
      refine lv_istore (lv' := (6, .int b9) :: (5, .int 2) :: [(0, .ref b), (1, .ref ax), (2, .ref am), (3, .ref qo), (4, .int (nI i))]) hx hb dL_law_862 hl (by decide) rfl (fun ls2 hl => ?_)
      refine lv_aload_n hx hb dL_law_864 rfl (lv_at hl 4 rfl) ?_
      refine lw_callM (is := []) (rest := []) h3 G hpt ham2 o2.2.1 hf2 rfl (by decide) (xok_ints []) rfl (xt4 216 rfl rfl) (xt4 217 rfl rfl) (xt4 218 rfl rfl) hl.1 (Nat.le_of_ble_eq_true rfl) dL_law_865 hdd (by show _ ≤ 601024; omega) (by show _ ≤ 7293034; omega) (fun H3 locs3 w3 hag3 hpt => ?_)
      have hax3 : w3.1 x = ax := (hag3 x o2.1.1).1.trans hax2
      have ham3 : w3.1 mm = am := (hag3 mm o2.2.1).1.trans ham2
      refine lv_iload hx hb dL_law_868 (lv_at hl 1 rfl) ?_
      refine lv_icmp_eq (tgt := 875) hx hb dL_law_870 (by decide) (fun _ => ?_) (fun hne => absurd rfl hne)
      refine lv_iload hx hb dL_law_875 (lv_at hl 1 rfl) ?_
      refine lv_if_ne (tgt := 892) hx hb dL_law_877 (by decide) (fun _ => ?_) (fun hz0 => absurd hz0 (by decide))
      refine lv_goto (tgt := 1247) hx hb dL_law_892 (by decide) ?_
      exact lw_num (by omega) (by omega) (hk σ2 w3 _ H3 locs3 _ (t + 1) hI hax3 ham3 hpt (lv_sub hl [2, 3, 4, 5, 6] rfl) (by omega))
    cases hek
set_option maxHeartbeats 2000000 in
set_option maxRecDepth 100000 in
theorem lc_history {p : Program} {l : Launch} {e : Env} {s : State} {m : MethodId} {below : List Frame} {meth : Method} {c : Code} {Q : State → Prop} {D : va_G} {H : Heap} {locs : List Loc} {ls : Array Slot} {w : XW} {σ : XS} {qo ax am : Nat} {cL : ClassId} {v : Nat → Int64} {b L d x mm i t : Nat} {xs : Nat → Int32} {Inv : XS → Prop} (hls : l.stackTraces = false) (G : lwH p s m meth c b L xs) (hL : L ≤ 3072) (hi : i + 6 ≤ L) (hop : lwI d x mm 87 144 [.int (xs (i + 1)), .int (xs (i + 2))] [(2, 1)] Inv σ) (hok : lwOk x mm σ) (hbd : ∀ σ, Inv σ → σ.1 ≤ 2000 ∧ σ.2.1 ≤ 100000) (ht : t ≤ 3072) (hdd : d ≤ 1000) (hpt : lwPt D (lwA s) s H locs w σ qo cL v) (hax : w.1 x = ax) (ham : w.1 mm = am) (hl : lv_has ls 7 [(0, .ref b), (1, .ref ax), (2, .ref am), (3, .ref qo), (4, .int (nI i))])
    (hk : ∀ (σ' : XS) (w' : XW) (v' : Nat → Int64) (H' : Heap) (locs' : List Loc) (ls' : Array Slot) (t' : Nat), Inv σ' → w'.1 x = ax → w'.1 mm = am → lwPt D (lwA s) s H' locs' w' σ' qo cL v' → lv_has ls' 7 [(0, .ref b), (1, .ref ax), (2, .ref am), (3, .ref qo), (4, .int (nI i))] → t' ≤ t + 1 → W p l e room_1 s m #[Value.ref b] below meth c H' locs' (σ'.1 + 1 + t') (σ'.2.1 + 1 + 6 * t') Q (F0 m 1247 ls' [])) :
    W p l e room_1 s m #[Value.ref b] below meth c H locs (σ.1 + 1 + t) (σ.2.1 + 1 + 6 * t) Q (F0 m 895 ls []) := by
  obtain ⟨⟨hx, hb, hr, hml, hown, hts0, hX, hbl, hlocks, hgv⟩, hts, htn, hz, hnc⟩ := id G
  obtain ⟨fs0, hf0⟩ := hok.1.2
  rcases hop with ⟨N1, N2, N3, r, σ1, σ2, h1, o1, h2, o2, h3, hI⟩ | ⟨N1, N2, N3, E, k, b9, σ1, σ2, h1, hek, o1, h2, o2, h3, hI⟩
  · have q1 := xcall_mono _ _ _ _ _ _ h1
    have q2 := xcall_mono _ _ _ _ _ _ h2
    have q3 := hbd σ2 hI
    obtain ⟨fs1, hf1⟩ := o1.2.2
    obtain ⟨fs2, hf2⟩ := o2.2.2
    refine lv_aload_n hx hb dL_law_895 rfl (lv_at hl 1 rfl) ?_
    refine lw_arg (k := 1) G hL hpt hl (List.mem_of_getElem? (i := 0) rfl) (List.mem_of_getElem? (i := 4) rfl) (by decide) (by omega) dL_law_896 dL_law_897 dL_law_899 dL_law_900 dL_law_901 ?_
    refine lw_arg (k := 2) G hL hpt hl (List.mem_of_getElem? (i := 0) rfl) (List.mem_of_getElem? (i := 4) rfl) (by decide) (by omega) dL_law_902 dL_law_903 dL_law_905 dL_law_906 dL_law_907 ?_
    refine lv_aload_n hx hb dL_law_908 rfl (lv_at hl 3 rfl) ?_
    refine lw_callW (n := 4) (As := [.ref ax, .int (xs (i + 1)), .int (xs (i + 2)), .ref qo]) (rest := []) (wn_history (v := v) h1 hok.1.1 hf0) rfl G hpt (by rw [hax]) (xt4 38 rfl rfl) (xt4 36 rfl rfl) (xt4 37 rfl rfl) (xt1 0 rfl rfl) (by decide +kernel) rfl (by decide) hl.1 (Nat.le_of_ble_eq_true rfl) dL_law_909 hdd (by show _ ≤ 601024; omega) (by show _ ≤ 7293034; omega) (fun H1 locs1 w1 hag hpt => ?_)
    have hax1 : w1.1 x = ax := (hag x hok.1.1).1.trans hax
    have ham1 : w1.1 mm = am := (hag mm hok.2.1).1.trans ham
    refine lv_istore (lv' := (5, .int 0) :: [(0, .ref b), (1, .ref ax), (2, .ref am), (3, .ref qo), (4, .int (nI i))]) hx hb dL_law_912 hl (by decide) rfl (fun ls1 hl => ?_)
    refine lv_aload_n hx hb dL_law_914 rfl (lv_at hl 3 rfl) ?_
    refine lw_arg (k := 1) G hL hpt hl (List.mem_of_getElem? (i := 1) rfl) (List.mem_of_getElem? (i := 5) rfl) (by decide) (by omega) dL_law_915 dL_law_916 dL_law_918 dL_law_919 dL_law_920 ?_
    refine lw_arg (k := 2) G hL hpt hl (List.mem_of_getElem? (i := 1) rfl) (List.mem_of_getElem? (i := 5) rfl) (by decide) (by omega) dL_law_921 dL_law_922 dL_law_924 dL_law_925 dL_law_926 ?_
    refine lw_callM (is := [.int (xs (i + 1)), .int (xs (i + 2))]) (rest := []) h2 G hpt ham1 o1.2.1 hf1 rfl (by decide) (xok_ints [(xs (i + 1)), (xs (i + 2))]) rfl (xt5 134 rfl rfl) (xt5 135 rfl rfl) (xt5 136 rfl rfl) hl.1 (Nat.le_of_ble_eq_true rfl) dL_law_927 hdd (by show _ ≤ 601024; omega) (by show _ ≤ 7293034; omega) (fun H2 locs2 w2 hag2 hpt => ?_)
    have hax2 : w2.1 x = ax := (hag2 x o1.1.1).1.trans hax1
    have ham2 : w2.1 mm = am := (hag2 mm o1.2.1).1.trans ham1
    refine lv_istore (lv' := (6, .int r) :: (5, .int 0) :: [(0, .ref b), (1, .ref ax), (2, .ref am), (3, .ref qo), (4, .int (nI i))]) hx hb dL_law_930 hl (by decide) rfl (fun ls2 hl => ?_)
    refine lv_aload_n hx hb dL_law_932 rfl (lv_at hl 4 rfl) ?_
    refine lw_callM (is := []) (rest := []) h3 G hpt ham2 o2.2.1 hf2 rfl (by decide) (xok_ints []) rfl (xt4 216 rfl rfl) (xt4 217 rfl rfl) (xt4 218 rfl rfl) hl.1 (Nat.le_of_ble_eq_true rfl) dL_law_933 hdd (by show _ ≤ 601024; omega) (by show _ ≤ 7293034; omega) (fun H3 locs3 w3 hag3 hpt => ?_)
    have hax3 : w3.1 x = ax := (hag3 x o2.1.1).1.trans hax2
    have ham3 : w3.1 mm = am := (hag3 mm o2.2.1).1.trans ham2
    refine lv_iload hx hb dL_law_936 (lv_at hl 1 rfl) ?_
    refine lv_icmp_eq (tgt := 943) hx hb dL_law_938 (by decide) (fun _ => ?_) (fun hne => absurd rfl hne)
    refine lv_iload hx hb dL_law_943 (lv_at hl 1 rfl) ?_
    refine lv_if_ne (tgt := 960) hx hb dL_law_945 (by decide) (fun hne => absurd rfl hne) (fun _ => ?_)
    refine lv_aload_n hx hb dL_law_948 rfl (lv_at hl 5 rfl) ?_
    refine lv_iconst (v := 0) hx hb dL_law_949 (by decide) ?_
    refine lw_laload G hpt dL_law_950 ?_
    rw [pk_uLs]
    refine lv_iload hx hb dL_law_951 (lv_at hl 0 rfl) ?_
    refine lv_i2l hx hb dL_law_953 rfl ?_
    refine W.lcmp hx hb dL_law_954 ?_
    rw [lg_cmp_self]
    refine lv_if_eq (tgt := 960) hx hb dL_law_955 (by decide) (fun _ => ?_) (fun hne => absurd rfl hne)
    refine lv_goto (tgt := 1247) hx hb dL_law_960 (by decide) ?_
    exact lw_num (by omega) (by omega) (hk σ2 w3 _ H3 locs3 _ t hI hax3 ham3 hpt (lv_sub hl [2, 3, 4, 5, 6] rfl) (by omega))
  · have q1 := xcallX_mono _ _ _ _ _ _ h1
    have q2 := xcall_mono _ _ _ _ _ _ h2
    have q3 := hbd σ2 hI
    obtain ⟨fs1, hf1⟩ := o1.2.2
    obtain ⟨fs2, hf2⟩ := o2.2.2
    rcases List.mem_cons.mp hek with hek | hek
    · cases hek
      refine lv_aload_n hx hb dL_law_895 rfl (lv_at hl 1 rfl) ?_
      refine lw_arg (k := 1) G hL hpt hl (List.mem_of_getElem? (i := 0) rfl) (List.mem_of_getElem? (i := 4) rfl) (by decide) (by omega) dL_law_896 dL_law_897 dL_law_899 dL_law_900 dL_law_901 ?_
      refine lw_arg (k := 2) G hL hpt hl (List.mem_of_getElem? (i := 0) rfl) (List.mem_of_getElem? (i := 4) rfl) (by decide) (by omega) dL_law_902 dL_law_903 dL_law_905 dL_law_906 dL_law_907 ?_
      refine lv_aload_n hx hb dL_law_908 rfl (lv_at hl 3 rfl) ?_
      refine lw_callW (n := 4) (As := [.ref ax, .int (xs (i + 1)), .int (xs (i + 2)), .ref qo]) (rest := []) (wx_history_2 (v := v) hls h1 hok.1.1 hf0) rfl G hpt (by rw [hax]) (xt4 38 rfl rfl) (xt4 36 rfl rfl) (xt4 37 rfl rfl) (xt1 0 rfl rfl) (by decide +kernel) rfl (by decide) hl.1 (Nat.le_of_ble_eq_true rfl) dL_law_909 hdd (by show _ ≤ 601024; omega) (by show _ ≤ 7293034; omega) (fun H1 locs1 w1 hag hpt => ?_)
      have hax1 : w1.1 x = ax := (hag x hok.1.1).1.trans hax
      have ham1 : w1.1 mm = am := (hag mm hok.2.1).1.trans ham
      refine lv_istore (lv' := (5, .int 1) :: [(0, .ref b), (1, .ref ax), (2, .ref am), (3, .ref qo), (4, .int (nI i))]) hx hb dL_law_912 hl (by decide) rfl (fun ls1 hl => ?_)
      refine lv_aload_n hx hb dL_law_914 rfl (lv_at hl 3 rfl) ?_
      refine lw_arg (k := 1) G hL hpt hl (List.mem_of_getElem? (i := 1) rfl) (List.mem_of_getElem? (i := 5) rfl) (by decide) (by omega) dL_law_915 dL_law_916 dL_law_918 dL_law_919 dL_law_920 ?_
      refine lw_arg (k := 2) G hL hpt hl (List.mem_of_getElem? (i := 1) rfl) (List.mem_of_getElem? (i := 5) rfl) (by decide) (by omega) dL_law_921 dL_law_922 dL_law_924 dL_law_925 dL_law_926 ?_
      refine lw_callM (is := [.int (xs (i + 1)), .int (xs (i + 2))]) (rest := []) h2 G hpt ham1 o1.2.1 hf1 rfl (by decide) (xok_ints [(xs (i + 1)), (xs (i + 2))]) rfl (xt5 134 rfl rfl) (xt5 135 rfl rfl) (xt5 136 rfl rfl) hl.1 (Nat.le_of_ble_eq_true rfl) dL_law_927 hdd (by show _ ≤ 601024; omega) (by show _ ≤ 7293034; omega) (fun H2 locs2 w2 hag2 hpt => ?_)
      have hax2 : w2.1 x = ax := (hag2 x o1.1.1).1.trans hax1
      have ham2 : w2.1 mm = am := (hag2 mm o1.2.1).1.trans ham1
      refine lv_istore (lv' := (6, .int b9) :: (5, .int 1) :: [(0, .ref b), (1, .ref ax), (2, .ref am), (3, .ref qo), (4, .int (nI i))]) hx hb dL_law_930 hl (by decide) rfl (fun ls2 hl => ?_)
      refine lv_aload_n hx hb dL_law_932 rfl (lv_at hl 4 rfl) ?_
      refine lw_callM (is := []) (rest := []) h3 G hpt ham2 o2.2.1 hf2 rfl (by decide) (xok_ints []) rfl (xt4 216 rfl rfl) (xt4 217 rfl rfl) (xt4 218 rfl rfl) hl.1 (Nat.le_of_ble_eq_true rfl) dL_law_933 hdd (by show _ ≤ 601024; omega) (by show _ ≤ 7293034; omega) (fun H3 locs3 w3 hag3 hpt => ?_)
      have hax3 : w3.1 x = ax := (hag3 x o2.1.1).1.trans hax2
      have ham3 : w3.1 mm = am := (hag3 mm o2.2.1).1.trans ham2
      refine lv_iload hx hb dL_law_936 (lv_at hl 1 rfl) ?_
      refine lv_icmp_eq (tgt := 943) hx hb dL_law_938 (by decide) (fun _ => ?_) (fun hne => absurd rfl hne)
      refine lv_iload hx hb dL_law_943 (lv_at hl 1 rfl) ?_
      refine lv_if_ne (tgt := 960) hx hb dL_law_945 (by decide) (fun _ => ?_) (fun hz0 => absurd hz0 (by decide))
      refine lv_goto (tgt := 1247) hx hb dL_law_960 (by decide) ?_
      exact lw_num (by omega) (by omega) (hk σ2 w3 _ H3 locs3 _ (t + 1) hI hax3 ham3 hpt (lv_sub hl [2, 3, 4, 5, 6] rfl) (by omega))
    cases hek
set_option maxHeartbeats 2000000 in
set_option maxRecDepth 100000 in
theorem lc_message {p : Program} {l : Launch} {e : Env} {s : State} {m : MethodId} {below : List Frame} {meth : Method} {c : Code} {Q : State → Prop} {D : va_G} {H : Heap} {locs : List Loc} {ls : Array Slot} {w : XW} {σ : XS} {qo ax am : Nat} {cL : ClassId} {v : Nat → Int64} {b L d x mm i t : Nat} {xs : Nat → Int32} {Inv : XS → Prop} (hls : l.stackTraces = false) (G : lwH p s m meth c b L xs) (hL : L ≤ 3072) (hi : i + 6 ≤ L) (hop : lwI d x mm 88 145 [.int (xs (i + 1)), .int (xs (i + 2)), .int (xs (i + 3))] [(2, 1), (0, 2)] Inv σ) (hok : lwOk x mm σ) (hbd : ∀ σ, Inv σ → σ.1 ≤ 2000 ∧ σ.2.1 ≤ 100000) (ht : t ≤ 3072) (hdd : d ≤ 1000) (hpt : lwPt D (lwA s) s H locs w σ qo cL v) (hax : w.1 x = ax) (ham : w.1 mm = am) (hl : lv_has ls 7 [(0, .ref b), (1, .ref ax), (2, .ref am), (3, .ref qo), (4, .int (nI i))])
    (hk : ∀ (σ' : XS) (w' : XW) (v' : Nat → Int64) (H' : Heap) (locs' : List Loc) (ls' : Array Slot) (t' : Nat), Inv σ' → w'.1 x = ax → w'.1 mm = am → lwPt D (lwA s) s H' locs' w' σ' qo cL v' → lv_has ls' 7 [(0, .ref b), (1, .ref ax), (2, .ref am), (3, .ref qo), (4, .int (nI i))] → t' ≤ t + 1 → W p l e room_1 s m #[Value.ref b] below meth c H' locs' (σ'.1 + 1 + t') (σ'.2.1 + 1 + 6 * t') Q (F0 m 1247 ls' [])) :
    W p l e room_1 s m #[Value.ref b] below meth c H locs (σ.1 + 1 + t) (σ.2.1 + 1 + 6 * t) Q (F0 m 963 ls []) := by
  obtain ⟨⟨hx, hb, hr, hml, hown, hts0, hX, hbl, hlocks, hgv⟩, hts, htn, hz, hnc⟩ := id G
  obtain ⟨fs0, hf0⟩ := hok.1.2
  rcases hop with ⟨N1, N2, N3, r, σ1, σ2, h1, o1, h2, o2, h3, hI⟩ | ⟨N1, N2, N3, E, k, b9, σ1, σ2, h1, hek, o1, h2, o2, h3, hI⟩
  · have q1 := xcall_mono _ _ _ _ _ _ h1
    have q2 := xcall_mono _ _ _ _ _ _ h2
    have q3 := hbd σ2 hI
    obtain ⟨fs1, hf1⟩ := o1.2.2
    obtain ⟨fs2, hf2⟩ := o2.2.2
    refine lv_aload_n hx hb dL_law_963 rfl (lv_at hl 1 rfl) ?_
    refine lw_arg (k := 1) G hL hpt hl (List.mem_of_getElem? (i := 0) rfl) (List.mem_of_getElem? (i := 4) rfl) (by decide) (by omega) dL_law_964 dL_law_965 dL_law_967 dL_law_968 dL_law_969 ?_
    refine lw_arg (k := 2) G hL hpt hl (List.mem_of_getElem? (i := 0) rfl) (List.mem_of_getElem? (i := 4) rfl) (by decide) (by omega) dL_law_970 dL_law_971 dL_law_973 dL_law_974 dL_law_975 ?_
    refine lw_arg (k := 3) G hL hpt hl (List.mem_of_getElem? (i := 0) rfl) (List.mem_of_getElem? (i := 4) rfl) (by decide) (by omega) dL_law_976 dL_law_977 dL_law_979 dL_law_980 dL_law_981 ?_
    refine lv_aload_n hx hb dL_law_982 rfl (lv_at hl 3 rfl) ?_
    refine lw_callW (n := 5) (As := [.ref ax, .int (xs (i + 1)), .int (xs (i + 2)), .int (xs (i + 3)), .ref qo]) (rest := []) (wn_message (v := v) h1 hok.1.1 hf0) rfl G hpt (by rw [hax]) (xt4 49 rfl rfl) (xt4 47 rfl rfl) (xt4 48 rfl rfl) (xt1 0 rfl rfl) (by decide +kernel) rfl (by decide) hl.1 (Nat.le_of_ble_eq_true rfl) dL_law_983 hdd (by show _ ≤ 601024; omega) (by show _ ≤ 7293034; omega) (fun H1 locs1 w1 hag hpt => ?_)
    have hax1 : w1.1 x = ax := (hag x hok.1.1).1.trans hax
    have ham1 : w1.1 mm = am := (hag mm hok.2.1).1.trans ham
    refine lv_istore (lv' := (5, .int 0) :: [(0, .ref b), (1, .ref ax), (2, .ref am), (3, .ref qo), (4, .int (nI i))]) hx hb dL_law_986 hl (by decide) rfl (fun ls1 hl => ?_)
    refine lv_aload_n hx hb dL_law_988 rfl (lv_at hl 3 rfl) ?_
    refine lw_arg (k := 1) G hL hpt hl (List.mem_of_getElem? (i := 1) rfl) (List.mem_of_getElem? (i := 5) rfl) (by decide) (by omega) dL_law_989 dL_law_990 dL_law_992 dL_law_993 dL_law_994 ?_
    refine lw_arg (k := 2) G hL hpt hl (List.mem_of_getElem? (i := 1) rfl) (List.mem_of_getElem? (i := 5) rfl) (by decide) (by omega) dL_law_995 dL_law_996 dL_law_998 dL_law_999 dL_law_1000 ?_
    refine lw_arg (k := 3) G hL hpt hl (List.mem_of_getElem? (i := 1) rfl) (List.mem_of_getElem? (i := 5) rfl) (by decide) (by omega) dL_law_1001 dL_law_1002 dL_law_1004 dL_law_1005 dL_law_1006 ?_
    refine lw_callM (is := [.int (xs (i + 1)), .int (xs (i + 2)), .int (xs (i + 3))]) (rest := []) h2 G hpt ham1 o1.2.1 hf1 rfl (by decide) (xok_ints [(xs (i + 1)), (xs (i + 2)), (xs (i + 3))]) rfl (xt5 138 rfl rfl) (xt5 139 rfl rfl) (xt5 140 rfl rfl) hl.1 (Nat.le_of_ble_eq_true rfl) dL_law_1007 hdd (by show _ ≤ 601024; omega) (by show _ ≤ 7293034; omega) (fun H2 locs2 w2 hag2 hpt => ?_)
    have hax2 : w2.1 x = ax := (hag2 x o1.1.1).1.trans hax1
    have ham2 : w2.1 mm = am := (hag2 mm o1.2.1).1.trans ham1
    refine lv_istore (lv' := (6, .int r) :: (5, .int 0) :: [(0, .ref b), (1, .ref ax), (2, .ref am), (3, .ref qo), (4, .int (nI i))]) hx hb dL_law_1010 hl (by decide) rfl (fun ls2 hl => ?_)
    refine lv_aload_n hx hb dL_law_1012 rfl (lv_at hl 4 rfl) ?_
    refine lw_callM (is := []) (rest := []) h3 G hpt ham2 o2.2.1 hf2 rfl (by decide) (xok_ints []) rfl (xt4 216 rfl rfl) (xt4 217 rfl rfl) (xt4 218 rfl rfl) hl.1 (Nat.le_of_ble_eq_true rfl) dL_law_1013 hdd (by show _ ≤ 601024; omega) (by show _ ≤ 7293034; omega) (fun H3 locs3 w3 hag3 hpt => ?_)
    have hax3 : w3.1 x = ax := (hag3 x o2.1.1).1.trans hax2
    have ham3 : w3.1 mm = am := (hag3 mm o2.2.1).1.trans ham2
    refine lv_iload hx hb dL_law_1016 (lv_at hl 1 rfl) ?_
    refine lv_icmp_eq (tgt := 1023) hx hb dL_law_1018 (by decide) (fun _ => ?_) (fun hne => absurd rfl hne)
    refine lv_iload hx hb dL_law_1023 (lv_at hl 1 rfl) ?_
    refine lv_if_ne (tgt := 1040) hx hb dL_law_1025 (by decide) (fun hne => absurd rfl hne) (fun _ => ?_)
    refine lv_aload_n hx hb dL_law_1028 rfl (lv_at hl 5 rfl) ?_
    refine lv_iconst (v := 0) hx hb dL_law_1029 (by decide) ?_
    refine lw_laload G hpt dL_law_1030 ?_
    rw [pk_uLs]
    refine lv_iload hx hb dL_law_1031 (lv_at hl 0 rfl) ?_
    refine lv_i2l hx hb dL_law_1033 rfl ?_
    refine W.lcmp hx hb dL_law_1034 ?_
    rw [lg_cmp_self]
    refine lv_if_eq (tgt := 1040) hx hb dL_law_1035 (by decide) (fun _ => ?_) (fun hne => absurd rfl hne)
    refine lv_goto (tgt := 1247) hx hb dL_law_1040 (by decide) ?_
    exact lw_num (by omega) (by omega) (hk σ2 w3 _ H3 locs3 _ t hI hax3 ham3 hpt (lv_sub hl [2, 3, 4, 5, 6] rfl) (by omega))
  · have q1 := xcallX_mono _ _ _ _ _ _ h1
    have q2 := xcall_mono _ _ _ _ _ _ h2
    have q3 := hbd σ2 hI
    obtain ⟨fs1, hf1⟩ := o1.2.2
    obtain ⟨fs2, hf2⟩ := o2.2.2
    rcases List.mem_cons.mp hek with hek | hek
    · cases hek
      refine lv_aload_n hx hb dL_law_963 rfl (lv_at hl 1 rfl) ?_
      refine lw_arg (k := 1) G hL hpt hl (List.mem_of_getElem? (i := 0) rfl) (List.mem_of_getElem? (i := 4) rfl) (by decide) (by omega) dL_law_964 dL_law_965 dL_law_967 dL_law_968 dL_law_969 ?_
      refine lw_arg (k := 2) G hL hpt hl (List.mem_of_getElem? (i := 0) rfl) (List.mem_of_getElem? (i := 4) rfl) (by decide) (by omega) dL_law_970 dL_law_971 dL_law_973 dL_law_974 dL_law_975 ?_
      refine lw_arg (k := 3) G hL hpt hl (List.mem_of_getElem? (i := 0) rfl) (List.mem_of_getElem? (i := 4) rfl) (by decide) (by omega) dL_law_976 dL_law_977 dL_law_979 dL_law_980 dL_law_981 ?_
      refine lv_aload_n hx hb dL_law_982 rfl (lv_at hl 3 rfl) ?_
      refine lw_callW (n := 5) (As := [.ref ax, .int (xs (i + 1)), .int (xs (i + 2)), .int (xs (i + 3)), .ref qo]) (rest := []) (wx_message_2 (v := v) hls h1 hok.1.1 hf0) rfl G hpt (by rw [hax]) (xt4 49 rfl rfl) (xt4 47 rfl rfl) (xt4 48 rfl rfl) (xt1 0 rfl rfl) (by decide +kernel) rfl (by decide) hl.1 (Nat.le_of_ble_eq_true rfl) dL_law_983 hdd (by show _ ≤ 601024; omega) (by show _ ≤ 7293034; omega) (fun H1 locs1 w1 hag hpt => ?_)
      have hax1 : w1.1 x = ax := (hag x hok.1.1).1.trans hax
      have ham1 : w1.1 mm = am := (hag mm hok.2.1).1.trans ham
      refine lv_istore (lv' := (5, .int 1) :: [(0, .ref b), (1, .ref ax), (2, .ref am), (3, .ref qo), (4, .int (nI i))]) hx hb dL_law_986 hl (by decide) rfl (fun ls1 hl => ?_)
      refine lv_aload_n hx hb dL_law_988 rfl (lv_at hl 3 rfl) ?_
      refine lw_arg (k := 1) G hL hpt hl (List.mem_of_getElem? (i := 1) rfl) (List.mem_of_getElem? (i := 5) rfl) (by decide) (by omega) dL_law_989 dL_law_990 dL_law_992 dL_law_993 dL_law_994 ?_
      refine lw_arg (k := 2) G hL hpt hl (List.mem_of_getElem? (i := 1) rfl) (List.mem_of_getElem? (i := 5) rfl) (by decide) (by omega) dL_law_995 dL_law_996 dL_law_998 dL_law_999 dL_law_1000 ?_
      refine lw_arg (k := 3) G hL hpt hl (List.mem_of_getElem? (i := 1) rfl) (List.mem_of_getElem? (i := 5) rfl) (by decide) (by omega) dL_law_1001 dL_law_1002 dL_law_1004 dL_law_1005 dL_law_1006 ?_
      refine lw_callM (is := [.int (xs (i + 1)), .int (xs (i + 2)), .int (xs (i + 3))]) (rest := []) h2 G hpt ham1 o1.2.1 hf1 rfl (by decide) (xok_ints [(xs (i + 1)), (xs (i + 2)), (xs (i + 3))]) rfl (xt5 138 rfl rfl) (xt5 139 rfl rfl) (xt5 140 rfl rfl) hl.1 (Nat.le_of_ble_eq_true rfl) dL_law_1007 hdd (by show _ ≤ 601024; omega) (by show _ ≤ 7293034; omega) (fun H2 locs2 w2 hag2 hpt => ?_)
      have hax2 : w2.1 x = ax := (hag2 x o1.1.1).1.trans hax1
      have ham2 : w2.1 mm = am := (hag2 mm o1.2.1).1.trans ham1
      refine lv_istore (lv' := (6, .int b9) :: (5, .int 1) :: [(0, .ref b), (1, .ref ax), (2, .ref am), (3, .ref qo), (4, .int (nI i))]) hx hb dL_law_1010 hl (by decide) rfl (fun ls2 hl => ?_)
      refine lv_aload_n hx hb dL_law_1012 rfl (lv_at hl 4 rfl) ?_
      refine lw_callM (is := []) (rest := []) h3 G hpt ham2 o2.2.1 hf2 rfl (by decide) (xok_ints []) rfl (xt4 216 rfl rfl) (xt4 217 rfl rfl) (xt4 218 rfl rfl) hl.1 (Nat.le_of_ble_eq_true rfl) dL_law_1013 hdd (by show _ ≤ 601024; omega) (by show _ ≤ 7293034; omega) (fun H3 locs3 w3 hag3 hpt => ?_)
      have hax3 : w3.1 x = ax := (hag3 x o2.1.1).1.trans hax2
      have ham3 : w3.1 mm = am := (hag3 mm o2.2.1).1.trans ham2
      refine lv_iload hx hb dL_law_1016 (lv_at hl 1 rfl) ?_
      refine lv_icmp_eq (tgt := 1023) hx hb dL_law_1018 (by decide) (fun _ => ?_) (fun hne => absurd rfl hne)
      refine lv_iload hx hb dL_law_1023 (lv_at hl 1 rfl) ?_
      refine lv_if_ne (tgt := 1040) hx hb dL_law_1025 (by decide) (fun _ => ?_) (fun hz0 => absurd hz0 (by decide))
      refine lv_goto (tgt := 1247) hx hb dL_law_1040 (by decide) ?_
      exact lw_num (by omega) (by omega) (hk σ2 w3 _ H3 locs3 _ (t + 1) hI hax3 ham3 hpt (lv_sub hl [2, 3, 4, 5, 6] rfl) (by omega))
    rcases List.mem_cons.mp hek with hek | hek
    · cases hek
      refine lv_aload_n hx hb dL_law_963 rfl (lv_at hl 1 rfl) ?_
      refine lw_arg (k := 1) G hL hpt hl (List.mem_of_getElem? (i := 0) rfl) (List.mem_of_getElem? (i := 4) rfl) (by decide) (by omega) dL_law_964 dL_law_965 dL_law_967 dL_law_968 dL_law_969 ?_
      refine lw_arg (k := 2) G hL hpt hl (List.mem_of_getElem? (i := 0) rfl) (List.mem_of_getElem? (i := 4) rfl) (by decide) (by omega) dL_law_970 dL_law_971 dL_law_973 dL_law_974 dL_law_975 ?_
      refine lw_arg (k := 3) G hL hpt hl (List.mem_of_getElem? (i := 0) rfl) (List.mem_of_getElem? (i := 4) rfl) (by decide) (by omega) dL_law_976 dL_law_977 dL_law_979 dL_law_980 dL_law_981 ?_
      refine lv_aload_n hx hb dL_law_982 rfl (lv_at hl 3 rfl) ?_
      refine lw_callW (n := 5) (As := [.ref ax, .int (xs (i + 1)), .int (xs (i + 2)), .int (xs (i + 3)), .ref qo]) (rest := []) (wx_message_0 (v := v) hls h1 hok.1.1 hf0) rfl G hpt (by rw [hax]) (xt4 49 rfl rfl) (xt4 47 rfl rfl) (xt4 48 rfl rfl) (xt1 0 rfl rfl) (by decide +kernel) rfl (by decide) hl.1 (Nat.le_of_ble_eq_true rfl) dL_law_983 hdd (by show _ ≤ 601024; omega) (by show _ ≤ 7293034; omega) (fun H1 locs1 w1 hag hpt => ?_)
      have hax1 : w1.1 x = ax := (hag x hok.1.1).1.trans hax
      have ham1 : w1.1 mm = am := (hag mm hok.2.1).1.trans ham
      refine lv_istore (lv' := (5, .int 2) :: [(0, .ref b), (1, .ref ax), (2, .ref am), (3, .ref qo), (4, .int (nI i))]) hx hb dL_law_986 hl (by decide) rfl (fun ls1 hl => ?_)
      refine lv_aload_n hx hb dL_law_988 rfl (lv_at hl 3 rfl) ?_
      refine lw_arg (k := 1) G hL hpt hl (List.mem_of_getElem? (i := 1) rfl) (List.mem_of_getElem? (i := 5) rfl) (by decide) (by omega) dL_law_989 dL_law_990 dL_law_992 dL_law_993 dL_law_994 ?_
      refine lw_arg (k := 2) G hL hpt hl (List.mem_of_getElem? (i := 1) rfl) (List.mem_of_getElem? (i := 5) rfl) (by decide) (by omega) dL_law_995 dL_law_996 dL_law_998 dL_law_999 dL_law_1000 ?_
      refine lw_arg (k := 3) G hL hpt hl (List.mem_of_getElem? (i := 1) rfl) (List.mem_of_getElem? (i := 5) rfl) (by decide) (by omega) dL_law_1001 dL_law_1002 dL_law_1004 dL_law_1005 dL_law_1006 ?_
      refine lw_callM (is := [.int (xs (i + 1)), .int (xs (i + 2)), .int (xs (i + 3))]) (rest := []) h2 G hpt ham1 o1.2.1 hf1 rfl (by decide) (xok_ints [(xs (i + 1)), (xs (i + 2)), (xs (i + 3))]) rfl (xt5 138 rfl rfl) (xt5 139 rfl rfl) (xt5 140 rfl rfl) hl.1 (Nat.le_of_ble_eq_true rfl) dL_law_1007 hdd (by show _ ≤ 601024; omega) (by show _ ≤ 7293034; omega) (fun H2 locs2 w2 hag2 hpt => ?_)
      have hax2 : w2.1 x = ax := (hag2 x o1.1.1).1.trans hax1
      have ham2 : w2.1 mm = am := (hag2 mm o1.2.1).1.trans ham1
      refine lv_istore (lv' := (6, .int b9) :: (5, .int 2) :: [(0, .ref b), (1, .ref ax), (2, .ref am), (3, .ref qo), (4, .int (nI i))]) hx hb dL_law_1010 hl (by decide) rfl (fun ls2 hl => ?_)
      refine lv_aload_n hx hb dL_law_1012 rfl (lv_at hl 4 rfl) ?_
      refine lw_callM (is := []) (rest := []) h3 G hpt ham2 o2.2.1 hf2 rfl (by decide) (xok_ints []) rfl (xt4 216 rfl rfl) (xt4 217 rfl rfl) (xt4 218 rfl rfl) hl.1 (Nat.le_of_ble_eq_true rfl) dL_law_1013 hdd (by show _ ≤ 601024; omega) (by show _ ≤ 7293034; omega) (fun H3 locs3 w3 hag3 hpt => ?_)
      have hax3 : w3.1 x = ax := (hag3 x o2.1.1).1.trans hax2
      have ham3 : w3.1 mm = am := (hag3 mm o2.2.1).1.trans ham2
      refine lv_iload hx hb dL_law_1016 (lv_at hl 1 rfl) ?_
      refine lv_icmp_eq (tgt := 1023) hx hb dL_law_1018 (by decide) (fun _ => ?_) (fun hne => absurd rfl hne)
      refine lv_iload hx hb dL_law_1023 (lv_at hl 1 rfl) ?_
      refine lv_if_ne (tgt := 1040) hx hb dL_law_1025 (by decide) (fun _ => ?_) (fun hz0 => absurd hz0 (by decide))
      refine lv_goto (tgt := 1247) hx hb dL_law_1040 (by decide) ?_
      exact lw_num (by omega) (by omega) (hk σ2 w3 _ H3 locs3 _ (t + 1) hI hax3 ham3 hpt (lv_sub hl [2, 3, 4, 5, 6] rfl) (by omega))
    cases hek
set_option maxHeartbeats 2000000 in
set_option maxRecDepth 100000 in
theorem lc_row {p : Program} {l : Launch} {e : Env} {s : State} {m : MethodId} {below : List Frame} {meth : Method} {c : Code} {Q : State → Prop} {D : va_G} {H : Heap} {locs : List Loc} {ls : Array Slot} {w : XW} {σ : XS} {qo ax am : Nat} {cL : ClassId} {v : Nat → Int64} {b L d x mm i t : Nat} {xs : Nat → Int32} {Inv : XS → Prop} (hls : l.stackTraces = false) (G : lwH p s m meth c b L xs) (hL : L ≤ 3072) (hi : i + 6 ≤ L) (hop : lwI d x mm 89 146 [.int (xs (i + 1)), .int (xs (i + 2))] [(0, 1)] Inv σ) (hok : lwOk x mm σ) (hbd : ∀ σ, Inv σ → σ.1 ≤ 2000 ∧ σ.2.1 ≤ 100000) (ht : t ≤ 3072) (hdd : d ≤ 1000) (hpt : lwPt D (lwA s) s H locs w σ qo cL v) (hax : w.1 x = ax) (ham : w.1 mm = am) (hl : lv_has ls 7 [(0, .ref b), (1, .ref ax), (2, .ref am), (3, .ref qo), (4, .int (nI i))])
    (hk : ∀ (σ' : XS) (w' : XW) (v' : Nat → Int64) (H' : Heap) (locs' : List Loc) (ls' : Array Slot) (t' : Nat), Inv σ' → w'.1 x = ax → w'.1 mm = am → lwPt D (lwA s) s H' locs' w' σ' qo cL v' → lv_has ls' 7 [(0, .ref b), (1, .ref ax), (2, .ref am), (3, .ref qo), (4, .int (nI i))] → t' ≤ t + 1 → W p l e room_1 s m #[Value.ref b] below meth c H' locs' (σ'.1 + 1 + t') (σ'.2.1 + 1 + 6 * t') Q (F0 m 1247 ls' [])) :
    W p l e room_1 s m #[Value.ref b] below meth c H locs (σ.1 + 1 + t) (σ.2.1 + 1 + 6 * t) Q (F0 m 1043 ls []) := by
  obtain ⟨⟨hx, hb, hr, hml, hown, hts0, hX, hbl, hlocks, hgv⟩, hts, htn, hz, hnc⟩ := id G
  obtain ⟨fs0, hf0⟩ := hok.1.2
  rcases hop with ⟨N1, N2, N3, r, σ1, σ2, h1, o1, h2, o2, h3, hI⟩ | ⟨N1, N2, N3, E, k, b9, σ1, σ2, h1, hek, o1, h2, o2, h3, hI⟩
  · have q1 := xcall_mono _ _ _ _ _ _ h1
    have q2 := xcall_mono _ _ _ _ _ _ h2
    have q3 := hbd σ2 hI
    obtain ⟨fs1, hf1⟩ := o1.2.2
    obtain ⟨fs2, hf2⟩ := o2.2.2
    refine lv_aload_n hx hb dL_law_1043 rfl (lv_at hl 1 rfl) ?_
    refine lw_arg (k := 1) G hL hpt hl (List.mem_of_getElem? (i := 0) rfl) (List.mem_of_getElem? (i := 4) rfl) (by decide) (by omega) dL_law_1044 dL_law_1045 dL_law_1047 dL_law_1048 dL_law_1049 ?_
    refine lw_arg (k := 2) G hL hpt hl (List.mem_of_getElem? (i := 0) rfl) (List.mem_of_getElem? (i := 4) rfl) (by decide) (by omega) dL_law_1050 dL_law_1051 dL_law_1053 dL_law_1054 dL_law_1055 ?_
    refine lv_aload_n hx hb dL_law_1056 rfl (lv_at hl 3 rfl) ?_
    refine lw_callW (n := 4) (As := [.ref ax, .int (xs (i + 1)), .int (xs (i + 2)), .ref qo]) (rest := []) (wn_row (v := v) h1 hok.1.1 hf0) rfl G hpt (by rw [hax]) (xt4 58 rfl rfl) (xt4 56 rfl rfl) (xt4 57 rfl rfl) (xt1 0 rfl rfl) (by decide +kernel) rfl (by decide) hl.1 (Nat.le_of_ble_eq_true rfl) dL_law_1057 hdd (by show _ ≤ 601024; omega) (by show _ ≤ 7293034; omega) (fun H1 locs1 w1 hag hpt => ?_)
    have hax1 : w1.1 x = ax := (hag x hok.1.1).1.trans hax
    have ham1 : w1.1 mm = am := (hag mm hok.2.1).1.trans ham
    refine lv_istore (lv' := (5, .int 0) :: [(0, .ref b), (1, .ref ax), (2, .ref am), (3, .ref qo), (4, .int (nI i))]) hx hb dL_law_1060 hl (by decide) rfl (fun ls1 hl => ?_)
    refine lv_aload_n hx hb dL_law_1062 rfl (lv_at hl 3 rfl) ?_
    refine lw_arg (k := 1) G hL hpt hl (List.mem_of_getElem? (i := 1) rfl) (List.mem_of_getElem? (i := 5) rfl) (by decide) (by omega) dL_law_1063 dL_law_1064 dL_law_1066 dL_law_1067 dL_law_1068 ?_
    refine lw_arg (k := 2) G hL hpt hl (List.mem_of_getElem? (i := 1) rfl) (List.mem_of_getElem? (i := 5) rfl) (by decide) (by omega) dL_law_1069 dL_law_1070 dL_law_1072 dL_law_1073 dL_law_1074 ?_
    refine lw_callM (is := [.int (xs (i + 1)), .int (xs (i + 2))]) (rest := []) h2 G hpt ham1 o1.2.1 hf1 rfl (by decide) (xok_ints [(xs (i + 1)), (xs (i + 2))]) rfl (xt5 142 rfl rfl) (xt5 143 rfl rfl) (xt5 144 rfl rfl) hl.1 (Nat.le_of_ble_eq_true rfl) dL_law_1075 hdd (by show _ ≤ 601024; omega) (by show _ ≤ 7293034; omega) (fun H2 locs2 w2 hag2 hpt => ?_)
    have hax2 : w2.1 x = ax := (hag2 x o1.1.1).1.trans hax1
    have ham2 : w2.1 mm = am := (hag2 mm o1.2.1).1.trans ham1
    refine lv_istore (lv' := (6, .int r) :: (5, .int 0) :: [(0, .ref b), (1, .ref ax), (2, .ref am), (3, .ref qo), (4, .int (nI i))]) hx hb dL_law_1078 hl (by decide) rfl (fun ls2 hl => ?_)
    refine lv_aload_n hx hb dL_law_1080 rfl (lv_at hl 4 rfl) ?_
    refine lw_callM (is := []) (rest := []) h3 G hpt ham2 o2.2.1 hf2 rfl (by decide) (xok_ints []) rfl (xt4 216 rfl rfl) (xt4 217 rfl rfl) (xt4 218 rfl rfl) hl.1 (Nat.le_of_ble_eq_true rfl) dL_law_1081 hdd (by show _ ≤ 601024; omega) (by show _ ≤ 7293034; omega) (fun H3 locs3 w3 hag3 hpt => ?_)
    have hax3 : w3.1 x = ax := (hag3 x o2.1.1).1.trans hax2
    have ham3 : w3.1 mm = am := (hag3 mm o2.2.1).1.trans ham2
    refine lv_iload hx hb dL_law_1084 (lv_at hl 1 rfl) ?_
    refine lv_icmp_eq (tgt := 1091) hx hb dL_law_1086 (by decide) (fun _ => ?_) (fun hne => absurd rfl hne)
    refine lv_iload hx hb dL_law_1091 (lv_at hl 1 rfl) ?_
    refine lv_if_ne (tgt := 1108) hx hb dL_law_1093 (by decide) (fun hne => absurd rfl hne) (fun _ => ?_)
    refine lv_aload_n hx hb dL_law_1096 rfl (lv_at hl 5 rfl) ?_
    refine lv_iconst (v := 0) hx hb dL_law_1097 (by decide) ?_
    refine lw_laload G hpt dL_law_1098 ?_
    rw [pk_uLs]
    refine lv_iload hx hb dL_law_1099 (lv_at hl 0 rfl) ?_
    refine lv_i2l hx hb dL_law_1101 rfl ?_
    refine W.lcmp hx hb dL_law_1102 ?_
    rw [lg_cmp_self]
    refine lv_if_eq (tgt := 1108) hx hb dL_law_1103 (by decide) (fun _ => ?_) (fun hne => absurd rfl hne)
    refine lv_goto (tgt := 1247) hx hb dL_law_1108 (by decide) ?_
    exact lw_num (by omega) (by omega) (hk σ2 w3 _ H3 locs3 _ t hI hax3 ham3 hpt (lv_sub hl [2, 3, 4, 5, 6] rfl) (by omega))
  · have q1 := xcallX_mono _ _ _ _ _ _ h1
    have q2 := xcall_mono _ _ _ _ _ _ h2
    have q3 := hbd σ2 hI
    obtain ⟨fs1, hf1⟩ := o1.2.2
    obtain ⟨fs2, hf2⟩ := o2.2.2
    rcases List.mem_cons.mp hek with hek | hek
    · cases hek
      refine lv_aload_n hx hb dL_law_1043 rfl (lv_at hl 1 rfl) ?_
      refine lw_arg (k := 1) G hL hpt hl (List.mem_of_getElem? (i := 0) rfl) (List.mem_of_getElem? (i := 4) rfl) (by decide) (by omega) dL_law_1044 dL_law_1045 dL_law_1047 dL_law_1048 dL_law_1049 ?_
      refine lw_arg (k := 2) G hL hpt hl (List.mem_of_getElem? (i := 0) rfl) (List.mem_of_getElem? (i := 4) rfl) (by decide) (by omega) dL_law_1050 dL_law_1051 dL_law_1053 dL_law_1054 dL_law_1055 ?_
      refine lv_aload_n hx hb dL_law_1056 rfl (lv_at hl 3 rfl) ?_
      refine lw_callW (n := 4) (As := [.ref ax, .int (xs (i + 1)), .int (xs (i + 2)), .ref qo]) (rest := []) (wx_row_0 (v := v) hls h1 hok.1.1 hf0) rfl G hpt (by rw [hax]) (xt4 58 rfl rfl) (xt4 56 rfl rfl) (xt4 57 rfl rfl) (xt1 0 rfl rfl) (by decide +kernel) rfl (by decide) hl.1 (Nat.le_of_ble_eq_true rfl) dL_law_1057 hdd (by show _ ≤ 601024; omega) (by show _ ≤ 7293034; omega) (fun H1 locs1 w1 hag hpt => ?_)
      have hax1 : w1.1 x = ax := (hag x hok.1.1).1.trans hax
      have ham1 : w1.1 mm = am := (hag mm hok.2.1).1.trans ham
      refine lv_istore (lv' := (5, .int 1) :: [(0, .ref b), (1, .ref ax), (2, .ref am), (3, .ref qo), (4, .int (nI i))]) hx hb dL_law_1060 hl (by decide) rfl (fun ls1 hl => ?_)
      refine lv_aload_n hx hb dL_law_1062 rfl (lv_at hl 3 rfl) ?_
      refine lw_arg (k := 1) G hL hpt hl (List.mem_of_getElem? (i := 1) rfl) (List.mem_of_getElem? (i := 5) rfl) (by decide) (by omega) dL_law_1063 dL_law_1064 dL_law_1066 dL_law_1067 dL_law_1068 ?_
      refine lw_arg (k := 2) G hL hpt hl (List.mem_of_getElem? (i := 1) rfl) (List.mem_of_getElem? (i := 5) rfl) (by decide) (by omega) dL_law_1069 dL_law_1070 dL_law_1072 dL_law_1073 dL_law_1074 ?_
      refine lw_callM (is := [.int (xs (i + 1)), .int (xs (i + 2))]) (rest := []) h2 G hpt ham1 o1.2.1 hf1 rfl (by decide) (xok_ints [(xs (i + 1)), (xs (i + 2))]) rfl (xt5 142 rfl rfl) (xt5 143 rfl rfl) (xt5 144 rfl rfl) hl.1 (Nat.le_of_ble_eq_true rfl) dL_law_1075 hdd (by show _ ≤ 601024; omega) (by show _ ≤ 7293034; omega) (fun H2 locs2 w2 hag2 hpt => ?_)
      have hax2 : w2.1 x = ax := (hag2 x o1.1.1).1.trans hax1
      have ham2 : w2.1 mm = am := (hag2 mm o1.2.1).1.trans ham1
      refine lv_istore (lv' := (6, .int b9) :: (5, .int 1) :: [(0, .ref b), (1, .ref ax), (2, .ref am), (3, .ref qo), (4, .int (nI i))]) hx hb dL_law_1078 hl (by decide) rfl (fun ls2 hl => ?_)
      refine lv_aload_n hx hb dL_law_1080 rfl (lv_at hl 4 rfl) ?_
      refine lw_callM (is := []) (rest := []) h3 G hpt ham2 o2.2.1 hf2 rfl (by decide) (xok_ints []) rfl (xt4 216 rfl rfl) (xt4 217 rfl rfl) (xt4 218 rfl rfl) hl.1 (Nat.le_of_ble_eq_true rfl) dL_law_1081 hdd (by show _ ≤ 601024; omega) (by show _ ≤ 7293034; omega) (fun H3 locs3 w3 hag3 hpt => ?_)
      have hax3 : w3.1 x = ax := (hag3 x o2.1.1).1.trans hax2
      have ham3 : w3.1 mm = am := (hag3 mm o2.2.1).1.trans ham2
      refine lv_iload hx hb dL_law_1084 (lv_at hl 1 rfl) ?_
      refine lv_icmp_eq (tgt := 1091) hx hb dL_law_1086 (by decide) (fun _ => ?_) (fun hne => absurd rfl hne)
      refine lv_iload hx hb dL_law_1091 (lv_at hl 1 rfl) ?_
      refine lv_if_ne (tgt := 1108) hx hb dL_law_1093 (by decide) (fun _ => ?_) (fun hz0 => absurd hz0 (by decide))
      refine lv_goto (tgt := 1247) hx hb dL_law_1108 (by decide) ?_
      exact lw_num (by omega) (by omega) (hk σ2 w3 _ H3 locs3 _ (t + 1) hI hax3 ham3 hpt (lv_sub hl [2, 3, 4, 5, 6] rfl) (by omega))
    cases hek
set_option maxHeartbeats 2000000 in
set_option maxRecDepth 100000 in
theorem lc_told {p : Program} {l : Launch} {e : Env} {s : State} {m : MethodId} {below : List Frame} {meth : Method} {c : Code} {Q : State → Prop} {D : va_G} {H : Heap} {locs : List Loc} {ls : Array Slot} {w : XW} {σ : XS} {qo ax am : Nat} {cL : ClassId} {v : Nat → Int64} {b L d x mm i t : Nat} {xs : Nat → Int32} {Inv : XS → Prop} (hls : l.stackTraces = false) (G : lwH p s m meth c b L xs) (hL : L ≤ 3072) (hi : i + 6 ≤ L) (hop : lwI d x mm 90 147 [.int (xs (i + 1)), .int (xs (i + 2))] [(2, 1), (0, 2)] Inv σ) (hok : lwOk x mm σ) (hbd : ∀ σ, Inv σ → σ.1 ≤ 2000 ∧ σ.2.1 ≤ 100000) (ht : t ≤ 3072) (hdd : d ≤ 1000) (hpt : lwPt D (lwA s) s H locs w σ qo cL v) (hax : w.1 x = ax) (ham : w.1 mm = am) (hl : lv_has ls 7 [(0, .ref b), (1, .ref ax), (2, .ref am), (3, .ref qo), (4, .int (nI i))])
    (hk : ∀ (σ' : XS) (w' : XW) (v' : Nat → Int64) (H' : Heap) (locs' : List Loc) (ls' : Array Slot) (t' : Nat), Inv σ' → w'.1 x = ax → w'.1 mm = am → lwPt D (lwA s) s H' locs' w' σ' qo cL v' → lv_has ls' 7 [(0, .ref b), (1, .ref ax), (2, .ref am), (3, .ref qo), (4, .int (nI i))] → t' ≤ t + 1 → W p l e room_1 s m #[Value.ref b] below meth c H' locs' (σ'.1 + 1 + t') (σ'.2.1 + 1 + 6 * t') Q (F0 m 1247 ls' [])) :
    W p l e room_1 s m #[Value.ref b] below meth c H locs (σ.1 + 1 + t) (σ.2.1 + 1 + 6 * t) Q (F0 m 1111 ls []) := by
  obtain ⟨⟨hx, hb, hr, hml, hown, hts0, hX, hbl, hlocks, hgv⟩, hts, htn, hz, hnc⟩ := id G
  obtain ⟨fs0, hf0⟩ := hok.1.2
  rcases hop with ⟨N1, N2, N3, r, σ1, σ2, h1, o1, h2, o2, h3, hI⟩ | ⟨N1, N2, N3, E, k, b9, σ1, σ2, h1, hek, o1, h2, o2, h3, hI⟩
  · have q1 := xcall_mono _ _ _ _ _ _ h1
    have q2 := xcall_mono _ _ _ _ _ _ h2
    have q3 := hbd σ2 hI
    obtain ⟨fs1, hf1⟩ := o1.2.2
    obtain ⟨fs2, hf2⟩ := o2.2.2
    refine lv_aload_n hx hb dL_law_1111 rfl (lv_at hl 1 rfl) ?_
    refine lw_arg (k := 1) G hL hpt hl (List.mem_of_getElem? (i := 0) rfl) (List.mem_of_getElem? (i := 4) rfl) (by decide) (by omega) dL_law_1112 dL_law_1113 dL_law_1115 dL_law_1116 dL_law_1117 ?_
    refine lw_arg (k := 2) G hL hpt hl (List.mem_of_getElem? (i := 0) rfl) (List.mem_of_getElem? (i := 4) rfl) (by decide) (by omega) dL_law_1118 dL_law_1119 dL_law_1121 dL_law_1122 dL_law_1123 ?_
    refine lv_aload_n hx hb dL_law_1124 rfl (lv_at hl 3 rfl) ?_
    refine lw_callW (n := 4) (As := [.ref ax, .int (xs (i + 1)), .int (xs (i + 2)), .ref qo]) (rest := []) (wn_told (v := v) h1 hok.1.1 hf0) rfl G hpt (by rw [hax]) (xt4 66 rfl rfl) (xt4 64 rfl rfl) (xt4 65 rfl rfl) (xt1 0 rfl rfl) (by decide +kernel) rfl (by decide) hl.1 (Nat.le_of_ble_eq_true rfl) dL_law_1125 hdd (by show _ ≤ 601024; omega) (by show _ ≤ 7293034; omega) (fun H1 locs1 w1 hag hpt => ?_)
    have hax1 : w1.1 x = ax := (hag x hok.1.1).1.trans hax
    have ham1 : w1.1 mm = am := (hag mm hok.2.1).1.trans ham
    refine lv_istore (lv' := (5, .int 0) :: [(0, .ref b), (1, .ref ax), (2, .ref am), (3, .ref qo), (4, .int (nI i))]) hx hb dL_law_1128 hl (by decide) rfl (fun ls1 hl => ?_)
    refine lv_aload_n hx hb dL_law_1130 rfl (lv_at hl 3 rfl) ?_
    refine lw_arg (k := 1) G hL hpt hl (List.mem_of_getElem? (i := 1) rfl) (List.mem_of_getElem? (i := 5) rfl) (by decide) (by omega) dL_law_1131 dL_law_1132 dL_law_1134 dL_law_1135 dL_law_1136 ?_
    refine lw_arg (k := 2) G hL hpt hl (List.mem_of_getElem? (i := 1) rfl) (List.mem_of_getElem? (i := 5) rfl) (by decide) (by omega) dL_law_1137 dL_law_1138 dL_law_1140 dL_law_1141 dL_law_1142 ?_
    refine lw_callM (is := [.int (xs (i + 1)), .int (xs (i + 2))]) (rest := []) h2 G hpt ham1 o1.2.1 hf1 rfl (by decide) (xok_ints [(xs (i + 1)), (xs (i + 2))]) rfl (xt5 146 rfl rfl) (xt5 147 rfl rfl) (xt5 148 rfl rfl) hl.1 (Nat.le_of_ble_eq_true rfl) dL_law_1143 hdd (by show _ ≤ 601024; omega) (by show _ ≤ 7293034; omega) (fun H2 locs2 w2 hag2 hpt => ?_)
    have hax2 : w2.1 x = ax := (hag2 x o1.1.1).1.trans hax1
    have ham2 : w2.1 mm = am := (hag2 mm o1.2.1).1.trans ham1
    refine lv_istore (lv' := (6, .int r) :: (5, .int 0) :: [(0, .ref b), (1, .ref ax), (2, .ref am), (3, .ref qo), (4, .int (nI i))]) hx hb dL_law_1146 hl (by decide) rfl (fun ls2 hl => ?_)
    refine lv_aload_n hx hb dL_law_1148 rfl (lv_at hl 4 rfl) ?_
    refine lw_callM (is := []) (rest := []) h3 G hpt ham2 o2.2.1 hf2 rfl (by decide) (xok_ints []) rfl (xt4 216 rfl rfl) (xt4 217 rfl rfl) (xt4 218 rfl rfl) hl.1 (Nat.le_of_ble_eq_true rfl) dL_law_1149 hdd (by show _ ≤ 601024; omega) (by show _ ≤ 7293034; omega) (fun H3 locs3 w3 hag3 hpt => ?_)
    have hax3 : w3.1 x = ax := (hag3 x o2.1.1).1.trans hax2
    have ham3 : w3.1 mm = am := (hag3 mm o2.2.1).1.trans ham2
    refine lv_iload hx hb dL_law_1152 (lv_at hl 1 rfl) ?_
    refine lv_icmp_eq (tgt := 1159) hx hb dL_law_1154 (by decide) (fun _ => ?_) (fun hne => absurd rfl hne)
    refine lv_iload hx hb dL_law_1159 (lv_at hl 1 rfl) ?_
    refine lv_if_ne (tgt := 1176) hx hb dL_law_1161 (by decide) (fun hne => absurd rfl hne) (fun _ => ?_)
    refine lv_aload_n hx hb dL_law_1164 rfl (lv_at hl 5 rfl) ?_
    refine lv_iconst (v := 0) hx hb dL_law_1165 (by decide) ?_
    refine lw_laload G hpt dL_law_1166 ?_
    rw [pk_uLs]
    refine lv_iload hx hb dL_law_1167 (lv_at hl 0 rfl) ?_
    refine lv_i2l hx hb dL_law_1169 rfl ?_
    refine W.lcmp hx hb dL_law_1170 ?_
    rw [lg_cmp_self]
    refine lv_if_eq (tgt := 1176) hx hb dL_law_1171 (by decide) (fun _ => ?_) (fun hne => absurd rfl hne)
    refine lv_goto (tgt := 1247) hx hb dL_law_1176 (by decide) ?_
    exact lw_num (by omega) (by omega) (hk σ2 w3 _ H3 locs3 _ t hI hax3 ham3 hpt (lv_sub hl [2, 3, 4, 5, 6] rfl) (by omega))
  · have q1 := xcallX_mono _ _ _ _ _ _ h1
    have q2 := xcall_mono _ _ _ _ _ _ h2
    have q3 := hbd σ2 hI
    obtain ⟨fs1, hf1⟩ := o1.2.2
    obtain ⟨fs2, hf2⟩ := o2.2.2
    rcases List.mem_cons.mp hek with hek | hek
    · cases hek
      refine lv_aload_n hx hb dL_law_1111 rfl (lv_at hl 1 rfl) ?_
      refine lw_arg (k := 1) G hL hpt hl (List.mem_of_getElem? (i := 0) rfl) (List.mem_of_getElem? (i := 4) rfl) (by decide) (by omega) dL_law_1112 dL_law_1113 dL_law_1115 dL_law_1116 dL_law_1117 ?_
      refine lw_arg (k := 2) G hL hpt hl (List.mem_of_getElem? (i := 0) rfl) (List.mem_of_getElem? (i := 4) rfl) (by decide) (by omega) dL_law_1118 dL_law_1119 dL_law_1121 dL_law_1122 dL_law_1123 ?_
      refine lv_aload_n hx hb dL_law_1124 rfl (lv_at hl 3 rfl) ?_
      refine lw_callW (n := 4) (As := [.ref ax, .int (xs (i + 1)), .int (xs (i + 2)), .ref qo]) (rest := []) (wx_told_2 (v := v) hls h1 hok.1.1 hf0) rfl G hpt (by rw [hax]) (xt4 66 rfl rfl) (xt4 64 rfl rfl) (xt4 65 rfl rfl) (xt1 0 rfl rfl) (by decide +kernel) rfl (by decide) hl.1 (Nat.le_of_ble_eq_true rfl) dL_law_1125 hdd (by show _ ≤ 601024; omega) (by show _ ≤ 7293034; omega) (fun H1 locs1 w1 hag hpt => ?_)
      have hax1 : w1.1 x = ax := (hag x hok.1.1).1.trans hax
      have ham1 : w1.1 mm = am := (hag mm hok.2.1).1.trans ham
      refine lv_istore (lv' := (5, .int 1) :: [(0, .ref b), (1, .ref ax), (2, .ref am), (3, .ref qo), (4, .int (nI i))]) hx hb dL_law_1128 hl (by decide) rfl (fun ls1 hl => ?_)
      refine lv_aload_n hx hb dL_law_1130 rfl (lv_at hl 3 rfl) ?_
      refine lw_arg (k := 1) G hL hpt hl (List.mem_of_getElem? (i := 1) rfl) (List.mem_of_getElem? (i := 5) rfl) (by decide) (by omega) dL_law_1131 dL_law_1132 dL_law_1134 dL_law_1135 dL_law_1136 ?_
      refine lw_arg (k := 2) G hL hpt hl (List.mem_of_getElem? (i := 1) rfl) (List.mem_of_getElem? (i := 5) rfl) (by decide) (by omega) dL_law_1137 dL_law_1138 dL_law_1140 dL_law_1141 dL_law_1142 ?_
      refine lw_callM (is := [.int (xs (i + 1)), .int (xs (i + 2))]) (rest := []) h2 G hpt ham1 o1.2.1 hf1 rfl (by decide) (xok_ints [(xs (i + 1)), (xs (i + 2))]) rfl (xt5 146 rfl rfl) (xt5 147 rfl rfl) (xt5 148 rfl rfl) hl.1 (Nat.le_of_ble_eq_true rfl) dL_law_1143 hdd (by show _ ≤ 601024; omega) (by show _ ≤ 7293034; omega) (fun H2 locs2 w2 hag2 hpt => ?_)
      have hax2 : w2.1 x = ax := (hag2 x o1.1.1).1.trans hax1
      have ham2 : w2.1 mm = am := (hag2 mm o1.2.1).1.trans ham1
      refine lv_istore (lv' := (6, .int b9) :: (5, .int 1) :: [(0, .ref b), (1, .ref ax), (2, .ref am), (3, .ref qo), (4, .int (nI i))]) hx hb dL_law_1146 hl (by decide) rfl (fun ls2 hl => ?_)
      refine lv_aload_n hx hb dL_law_1148 rfl (lv_at hl 4 rfl) ?_
      refine lw_callM (is := []) (rest := []) h3 G hpt ham2 o2.2.1 hf2 rfl (by decide) (xok_ints []) rfl (xt4 216 rfl rfl) (xt4 217 rfl rfl) (xt4 218 rfl rfl) hl.1 (Nat.le_of_ble_eq_true rfl) dL_law_1149 hdd (by show _ ≤ 601024; omega) (by show _ ≤ 7293034; omega) (fun H3 locs3 w3 hag3 hpt => ?_)
      have hax3 : w3.1 x = ax := (hag3 x o2.1.1).1.trans hax2
      have ham3 : w3.1 mm = am := (hag3 mm o2.2.1).1.trans ham2
      refine lv_iload hx hb dL_law_1152 (lv_at hl 1 rfl) ?_
      refine lv_icmp_eq (tgt := 1159) hx hb dL_law_1154 (by decide) (fun _ => ?_) (fun hne => absurd rfl hne)
      refine lv_iload hx hb dL_law_1159 (lv_at hl 1 rfl) ?_
      refine lv_if_ne (tgt := 1176) hx hb dL_law_1161 (by decide) (fun _ => ?_) (fun hz0 => absurd hz0 (by decide))
      refine lv_goto (tgt := 1247) hx hb dL_law_1176 (by decide) ?_
      exact lw_num (by omega) (by omega) (hk σ2 w3 _ H3 locs3 _ (t + 1) hI hax3 ham3 hpt (lv_sub hl [2, 3, 4, 5, 6] rfl) (by omega))
    rcases List.mem_cons.mp hek with hek | hek
    · cases hek
      refine lv_aload_n hx hb dL_law_1111 rfl (lv_at hl 1 rfl) ?_
      refine lw_arg (k := 1) G hL hpt hl (List.mem_of_getElem? (i := 0) rfl) (List.mem_of_getElem? (i := 4) rfl) (by decide) (by omega) dL_law_1112 dL_law_1113 dL_law_1115 dL_law_1116 dL_law_1117 ?_
      refine lw_arg (k := 2) G hL hpt hl (List.mem_of_getElem? (i := 0) rfl) (List.mem_of_getElem? (i := 4) rfl) (by decide) (by omega) dL_law_1118 dL_law_1119 dL_law_1121 dL_law_1122 dL_law_1123 ?_
      refine lv_aload_n hx hb dL_law_1124 rfl (lv_at hl 3 rfl) ?_
      refine lw_callW (n := 4) (As := [.ref ax, .int (xs (i + 1)), .int (xs (i + 2)), .ref qo]) (rest := []) (wx_told_0 (v := v) hls h1 hok.1.1 hf0) rfl G hpt (by rw [hax]) (xt4 66 rfl rfl) (xt4 64 rfl rfl) (xt4 65 rfl rfl) (xt1 0 rfl rfl) (by decide +kernel) rfl (by decide) hl.1 (Nat.le_of_ble_eq_true rfl) dL_law_1125 hdd (by show _ ≤ 601024; omega) (by show _ ≤ 7293034; omega) (fun H1 locs1 w1 hag hpt => ?_)
      have hax1 : w1.1 x = ax := (hag x hok.1.1).1.trans hax
      have ham1 : w1.1 mm = am := (hag mm hok.2.1).1.trans ham
      refine lv_istore (lv' := (5, .int 2) :: [(0, .ref b), (1, .ref ax), (2, .ref am), (3, .ref qo), (4, .int (nI i))]) hx hb dL_law_1128 hl (by decide) rfl (fun ls1 hl => ?_)
      refine lv_aload_n hx hb dL_law_1130 rfl (lv_at hl 3 rfl) ?_
      refine lw_arg (k := 1) G hL hpt hl (List.mem_of_getElem? (i := 1) rfl) (List.mem_of_getElem? (i := 5) rfl) (by decide) (by omega) dL_law_1131 dL_law_1132 dL_law_1134 dL_law_1135 dL_law_1136 ?_
      refine lw_arg (k := 2) G hL hpt hl (List.mem_of_getElem? (i := 1) rfl) (List.mem_of_getElem? (i := 5) rfl) (by decide) (by omega) dL_law_1137 dL_law_1138 dL_law_1140 dL_law_1141 dL_law_1142 ?_
      refine lw_callM (is := [.int (xs (i + 1)), .int (xs (i + 2))]) (rest := []) h2 G hpt ham1 o1.2.1 hf1 rfl (by decide) (xok_ints [(xs (i + 1)), (xs (i + 2))]) rfl (xt5 146 rfl rfl) (xt5 147 rfl rfl) (xt5 148 rfl rfl) hl.1 (Nat.le_of_ble_eq_true rfl) dL_law_1143 hdd (by show _ ≤ 601024; omega) (by show _ ≤ 7293034; omega) (fun H2 locs2 w2 hag2 hpt => ?_)
      have hax2 : w2.1 x = ax := (hag2 x o1.1.1).1.trans hax1
      have ham2 : w2.1 mm = am := (hag2 mm o1.2.1).1.trans ham1
      refine lv_istore (lv' := (6, .int b9) :: (5, .int 2) :: [(0, .ref b), (1, .ref ax), (2, .ref am), (3, .ref qo), (4, .int (nI i))]) hx hb dL_law_1146 hl (by decide) rfl (fun ls2 hl => ?_)
      refine lv_aload_n hx hb dL_law_1148 rfl (lv_at hl 4 rfl) ?_
      refine lw_callM (is := []) (rest := []) h3 G hpt ham2 o2.2.1 hf2 rfl (by decide) (xok_ints []) rfl (xt4 216 rfl rfl) (xt4 217 rfl rfl) (xt4 218 rfl rfl) hl.1 (Nat.le_of_ble_eq_true rfl) dL_law_1149 hdd (by show _ ≤ 601024; omega) (by show _ ≤ 7293034; omega) (fun H3 locs3 w3 hag3 hpt => ?_)
      have hax3 : w3.1 x = ax := (hag3 x o2.1.1).1.trans hax2
      have ham3 : w3.1 mm = am := (hag3 mm o2.2.1).1.trans ham2
      refine lv_iload hx hb dL_law_1152 (lv_at hl 1 rfl) ?_
      refine lv_icmp_eq (tgt := 1159) hx hb dL_law_1154 (by decide) (fun _ => ?_) (fun hne => absurd rfl hne)
      refine lv_iload hx hb dL_law_1159 (lv_at hl 1 rfl) ?_
      refine lv_if_ne (tgt := 1176) hx hb dL_law_1161 (by decide) (fun _ => ?_) (fun hz0 => absurd hz0 (by decide))
      refine lv_goto (tgt := 1247) hx hb dL_law_1176 (by decide) ?_
      exact lw_num (by omega) (by omega) (hk σ2 w3 _ H3 locs3 _ (t + 1) hI hax3 ham3 hpt (lv_sub hl [2, 3, 4, 5, 6] rfl) (by omega))
    cases hek
set_option maxHeartbeats 2000000 in
set_option maxRecDepth 100000 in
theorem lc_result {p : Program} {l : Launch} {e : Env} {s : State} {m : MethodId} {below : List Frame} {meth : Method} {c : Code} {Q : State → Prop} {D : va_G} {H : Heap} {locs : List Loc} {ls : Array Slot} {w : XW} {σ : XS} {qo ax am : Nat} {cL : ClassId} {v : Nat → Int64} {b L d x mm i t : Nat} {xs : Nat → Int32} {Inv : XS → Prop} (hls : l.stackTraces = false) (G : lwH p s m meth c b L xs) (hL : L ≤ 3072) (hi : i + 6 ≤ L) (hop : lwI d x mm 91 148 [.int (xs (i + 1)), .int (xs (i + 2))] [(2, 1)] Inv σ) (hok : lwOk x mm σ) (hbd : ∀ σ, Inv σ → σ.1 ≤ 2000 ∧ σ.2.1 ≤ 100000) (ht : t ≤ 3072) (hdd : d ≤ 1000) (hpt : lwPt D (lwA s) s H locs w σ qo cL v) (hax : w.1 x = ax) (ham : w.1 mm = am) (hl : lv_has ls 7 [(0, .ref b), (1, .ref ax), (2, .ref am), (3, .ref qo), (4, .int (nI i))])
    (hk : ∀ (σ' : XS) (w' : XW) (v' : Nat → Int64) (H' : Heap) (locs' : List Loc) (ls' : Array Slot) (t' : Nat), Inv σ' → w'.1 x = ax → w'.1 mm = am → lwPt D (lwA s) s H' locs' w' σ' qo cL v' → lv_has ls' 7 [(0, .ref b), (1, .ref ax), (2, .ref am), (3, .ref qo), (4, .int (nI i))] → t' ≤ t + 1 → W p l e room_1 s m #[Value.ref b] below meth c H' locs' (σ'.1 + 1 + t') (σ'.2.1 + 1 + 6 * t') Q (F0 m 1247 ls' [])) :
    W p l e room_1 s m #[Value.ref b] below meth c H locs (σ.1 + 1 + t) (σ.2.1 + 1 + 6 * t) Q (F0 m 1179 ls []) := by
  obtain ⟨⟨hx, hb, hr, hml, hown, hts0, hX, hbl, hlocks, hgv⟩, hts, htn, hz, hnc⟩ := id G
  obtain ⟨fs0, hf0⟩ := hok.1.2
  rcases hop with ⟨N1, N2, N3, r, σ1, σ2, h1, o1, h2, o2, h3, hI⟩ | ⟨N1, N2, N3, E, k, b9, σ1, σ2, h1, hek, o1, h2, o2, h3, hI⟩
  · have q1 := xcall_mono _ _ _ _ _ _ h1
    have q2 := xcall_mono _ _ _ _ _ _ h2
    have q3 := hbd σ2 hI
    obtain ⟨fs1, hf1⟩ := o1.2.2
    obtain ⟨fs2, hf2⟩ := o2.2.2
    refine lv_aload_n hx hb dL_law_1179 rfl (lv_at hl 1 rfl) ?_
    refine lw_arg (k := 1) G hL hpt hl (List.mem_of_getElem? (i := 0) rfl) (List.mem_of_getElem? (i := 4) rfl) (by decide) (by omega) dL_law_1180 dL_law_1181 dL_law_1183 dL_law_1184 dL_law_1185 ?_
    refine lw_arg (k := 2) G hL hpt hl (List.mem_of_getElem? (i := 0) rfl) (List.mem_of_getElem? (i := 4) rfl) (by decide) (by omega) dL_law_1186 dL_law_1187 dL_law_1189 dL_law_1190 dL_law_1191 ?_
    refine lv_aload_n hx hb dL_law_1192 rfl (lv_at hl 3 rfl) ?_
    refine lw_callW (n := 4) (As := [.ref ax, .int (xs (i + 1)), .int (xs (i + 2)), .ref qo]) (rest := []) (wn_result (v := v) h1 hok.1.1 hf0) rfl G hpt (by rw [hax]) (xt4 81 rfl rfl) (xt4 79 rfl rfl) (xt4 80 rfl rfl) (xt1 0 rfl rfl) (by decide +kernel) rfl (by decide) hl.1 (Nat.le_of_ble_eq_true rfl) dL_law_1193 hdd (by show _ ≤ 601024; omega) (by show _ ≤ 7293034; omega) (fun H1 locs1 w1 hag hpt => ?_)
    have hax1 : w1.1 x = ax := (hag x hok.1.1).1.trans hax
    have ham1 : w1.1 mm = am := (hag mm hok.2.1).1.trans ham
    refine lv_istore (lv' := (5, .int 0) :: [(0, .ref b), (1, .ref ax), (2, .ref am), (3, .ref qo), (4, .int (nI i))]) hx hb dL_law_1196 hl (by decide) rfl (fun ls1 hl => ?_)
    refine lv_aload_n hx hb dL_law_1198 rfl (lv_at hl 3 rfl) ?_
    refine lw_arg (k := 1) G hL hpt hl (List.mem_of_getElem? (i := 1) rfl) (List.mem_of_getElem? (i := 5) rfl) (by decide) (by omega) dL_law_1199 dL_law_1200 dL_law_1202 dL_law_1203 dL_law_1204 ?_
    refine lw_arg (k := 2) G hL hpt hl (List.mem_of_getElem? (i := 1) rfl) (List.mem_of_getElem? (i := 5) rfl) (by decide) (by omega) dL_law_1205 dL_law_1206 dL_law_1208 dL_law_1209 dL_law_1210 ?_
    refine lw_callM (is := [.int (xs (i + 1)), .int (xs (i + 2))]) (rest := []) h2 G hpt ham1 o1.2.1 hf1 rfl (by decide) (xok_ints [(xs (i + 1)), (xs (i + 2))]) rfl (xt5 150 rfl rfl) (xt5 151 rfl rfl) (xt5 152 rfl rfl) hl.1 (Nat.le_of_ble_eq_true rfl) dL_law_1211 hdd (by show _ ≤ 601024; omega) (by show _ ≤ 7293034; omega) (fun H2 locs2 w2 hag2 hpt => ?_)
    have hax2 : w2.1 x = ax := (hag2 x o1.1.1).1.trans hax1
    have ham2 : w2.1 mm = am := (hag2 mm o1.2.1).1.trans ham1
    refine lv_istore (lv' := (6, .int r) :: (5, .int 0) :: [(0, .ref b), (1, .ref ax), (2, .ref am), (3, .ref qo), (4, .int (nI i))]) hx hb dL_law_1214 hl (by decide) rfl (fun ls2 hl => ?_)
    refine lv_aload_n hx hb dL_law_1216 rfl (lv_at hl 4 rfl) ?_
    refine lw_callM (is := []) (rest := []) h3 G hpt ham2 o2.2.1 hf2 rfl (by decide) (xok_ints []) rfl (xt4 216 rfl rfl) (xt4 217 rfl rfl) (xt4 218 rfl rfl) hl.1 (Nat.le_of_ble_eq_true rfl) dL_law_1217 hdd (by show _ ≤ 601024; omega) (by show _ ≤ 7293034; omega) (fun H3 locs3 w3 hag3 hpt => ?_)
    have hax3 : w3.1 x = ax := (hag3 x o2.1.1).1.trans hax2
    have ham3 : w3.1 mm = am := (hag3 mm o2.2.1).1.trans ham2
    refine lv_iload hx hb dL_law_1220 (lv_at hl 1 rfl) ?_
    refine lv_icmp_eq (tgt := 1227) hx hb dL_law_1222 (by decide) (fun _ => ?_) (fun hne => absurd rfl hne)
    refine lv_iload hx hb dL_law_1227 (lv_at hl 1 rfl) ?_
    refine lv_if_ne (tgt := 1244) hx hb dL_law_1229 (by decide) (fun hne => absurd rfl hne) (fun _ => ?_)
    refine lv_aload_n hx hb dL_law_1232 rfl (lv_at hl 5 rfl) ?_
    refine lv_iconst (v := 0) hx hb dL_law_1233 (by decide) ?_
    refine lw_laload G hpt dL_law_1234 ?_
    rw [pk_uLs]
    refine lv_iload hx hb dL_law_1235 (lv_at hl 0 rfl) ?_
    refine lv_i2l hx hb dL_law_1237 rfl ?_
    refine W.lcmp hx hb dL_law_1238 ?_
    rw [lg_cmp_self]
    refine lv_if_eq (tgt := 1244) hx hb dL_law_1239 (by decide) (fun _ => ?_) (fun hne => absurd rfl hne)
    refine lv_goto (tgt := 1247) hx hb dL_law_1244 (by decide) ?_
    exact lw_num (by omega) (by omega) (hk σ2 w3 _ H3 locs3 _ t hI hax3 ham3 hpt (lv_sub hl [2, 3, 4, 5, 6] rfl) (by omega))
  · have q1 := xcallX_mono _ _ _ _ _ _ h1
    have q2 := xcall_mono _ _ _ _ _ _ h2
    have q3 := hbd σ2 hI
    obtain ⟨fs1, hf1⟩ := o1.2.2
    obtain ⟨fs2, hf2⟩ := o2.2.2
    rcases List.mem_cons.mp hek with hek | hek
    · cases hek
      refine lv_aload_n hx hb dL_law_1179 rfl (lv_at hl 1 rfl) ?_
      refine lw_arg (k := 1) G hL hpt hl (List.mem_of_getElem? (i := 0) rfl) (List.mem_of_getElem? (i := 4) rfl) (by decide) (by omega) dL_law_1180 dL_law_1181 dL_law_1183 dL_law_1184 dL_law_1185 ?_
      refine lw_arg (k := 2) G hL hpt hl (List.mem_of_getElem? (i := 0) rfl) (List.mem_of_getElem? (i := 4) rfl) (by decide) (by omega) dL_law_1186 dL_law_1187 dL_law_1189 dL_law_1190 dL_law_1191 ?_
      refine lv_aload_n hx hb dL_law_1192 rfl (lv_at hl 3 rfl) ?_
      refine lw_callW (n := 4) (As := [.ref ax, .int (xs (i + 1)), .int (xs (i + 2)), .ref qo]) (rest := []) (wx_result_2 (v := v) hls h1 hok.1.1 hf0) rfl G hpt (by rw [hax]) (xt4 81 rfl rfl) (xt4 79 rfl rfl) (xt4 80 rfl rfl) (xt1 0 rfl rfl) (by decide +kernel) rfl (by decide) hl.1 (Nat.le_of_ble_eq_true rfl) dL_law_1193 hdd (by show _ ≤ 601024; omega) (by show _ ≤ 7293034; omega) (fun H1 locs1 w1 hag hpt => ?_)
      have hax1 : w1.1 x = ax := (hag x hok.1.1).1.trans hax
      have ham1 : w1.1 mm = am := (hag mm hok.2.1).1.trans ham
      refine lv_istore (lv' := (5, .int 1) :: [(0, .ref b), (1, .ref ax), (2, .ref am), (3, .ref qo), (4, .int (nI i))]) hx hb dL_law_1196 hl (by decide) rfl (fun ls1 hl => ?_)
      refine lv_aload_n hx hb dL_law_1198 rfl (lv_at hl 3 rfl) ?_
      refine lw_arg (k := 1) G hL hpt hl (List.mem_of_getElem? (i := 1) rfl) (List.mem_of_getElem? (i := 5) rfl) (by decide) (by omega) dL_law_1199 dL_law_1200 dL_law_1202 dL_law_1203 dL_law_1204 ?_
      refine lw_arg (k := 2) G hL hpt hl (List.mem_of_getElem? (i := 1) rfl) (List.mem_of_getElem? (i := 5) rfl) (by decide) (by omega) dL_law_1205 dL_law_1206 dL_law_1208 dL_law_1209 dL_law_1210 ?_
      refine lw_callM (is := [.int (xs (i + 1)), .int (xs (i + 2))]) (rest := []) h2 G hpt ham1 o1.2.1 hf1 rfl (by decide) (xok_ints [(xs (i + 1)), (xs (i + 2))]) rfl (xt5 150 rfl rfl) (xt5 151 rfl rfl) (xt5 152 rfl rfl) hl.1 (Nat.le_of_ble_eq_true rfl) dL_law_1211 hdd (by show _ ≤ 601024; omega) (by show _ ≤ 7293034; omega) (fun H2 locs2 w2 hag2 hpt => ?_)
      have hax2 : w2.1 x = ax := (hag2 x o1.1.1).1.trans hax1
      have ham2 : w2.1 mm = am := (hag2 mm o1.2.1).1.trans ham1
      refine lv_istore (lv' := (6, .int b9) :: (5, .int 1) :: [(0, .ref b), (1, .ref ax), (2, .ref am), (3, .ref qo), (4, .int (nI i))]) hx hb dL_law_1214 hl (by decide) rfl (fun ls2 hl => ?_)
      refine lv_aload_n hx hb dL_law_1216 rfl (lv_at hl 4 rfl) ?_
      refine lw_callM (is := []) (rest := []) h3 G hpt ham2 o2.2.1 hf2 rfl (by decide) (xok_ints []) rfl (xt4 216 rfl rfl) (xt4 217 rfl rfl) (xt4 218 rfl rfl) hl.1 (Nat.le_of_ble_eq_true rfl) dL_law_1217 hdd (by show _ ≤ 601024; omega) (by show _ ≤ 7293034; omega) (fun H3 locs3 w3 hag3 hpt => ?_)
      have hax3 : w3.1 x = ax := (hag3 x o2.1.1).1.trans hax2
      have ham3 : w3.1 mm = am := (hag3 mm o2.2.1).1.trans ham2
      refine lv_iload hx hb dL_law_1220 (lv_at hl 1 rfl) ?_
      refine lv_icmp_eq (tgt := 1227) hx hb dL_law_1222 (by decide) (fun _ => ?_) (fun hne => absurd rfl hne)
      refine lv_iload hx hb dL_law_1227 (lv_at hl 1 rfl) ?_
      refine lv_if_ne (tgt := 1244) hx hb dL_law_1229 (by decide) (fun _ => ?_) (fun hz0 => absurd hz0 (by decide))
      refine lv_goto (tgt := 1247) hx hb dL_law_1244 (by decide) ?_
      exact lw_num (by omega) (by omega) (hk σ2 w3 _ H3 locs3 _ (t + 1) hI hax3 ham3 hpt (lv_sub hl [2, 3, 4, 5, 6] rfl) (by omega))
    cases hek
end
section
/-! the law's loop -/
theorem lw_gt {L i : Nat} (hL : L ≤ 3072) (hi : i ≤ 3072) (h : L < i + 6) : Int32.ofNat L - 6 < nI i := by
  rw [Int32.lt_iff_toInt_lt, nI_toInt (by omega), show Int32.ofNat L - 6 = nI L - nI 6 from rfl, pk_sub_toInt (by omega) (by omega)]
  omega
def lw_offs : Array Int := #[80, 172, 240, 320, 376, 444, 512, 575, 679, 727, 787, 855, 923, 1003, 1071, 1139]
theorem lw_sw1 {j : Nat} (h : j < 16) : ¬ (nI j).toInt < 0 := by rw [nI_toInt (by omega)]; omega
theorem lw_sw2 {j : Nat} (h : j < 16) : ¬ 15 < (nI j).toInt := by rw [nI_toInt (by omega)]; omega
theorem lw_sw3 {j : Nat} (h : j < 16) : (#[80, 172, 240, 320, 376, 444, 512, 575, 679, 727, 787, 855, 923, 1003, 1071, 1139] : Array Int)[((nI j).toInt - 0).toNat]? = some (([80, 172, 240, 320, 376, 444, 512, 575, 679, 727, 787, 855, 923, 1003, 1071, 1139] : List Nat).getD j 0 : Int) := by
  rw [nI_toInt (by omega)]
  match j, h with
  | 0, _ => rfl
  | 1, _ => rfl
  | 2, _ => rfl
  | 3, _ => rfl
  | 4, _ => rfl
  | 5, _ => rfl
  | 6, _ => rfl
  | 7, _ => rfl
  | 8, _ => rfl
  | 9, _ => rfl
  | 10, _ => rfl
  | 11, _ => rfl
  | 12, _ => rfl
  | 13, _ => rfl
  | 14, _ => rfl
  | 15, _ => rfl
  | k + 16, hk => exact absurd hk (by omega)
theorem lw_sw4 {j : Nat} (h : j < 16) : ((40 : Nat) : Int) + (([80, 172, 240, 320, 376, 444, 512, 575, 679, 727, 787, 855, 923, 1003, 1071, 1139] : List Nat).getD j 0 : Int) = ((40 + ([80, 172, 240, 320, 376, 444, 512, 575, 679, 727, 787, 855, 923, 1003, 1071, 1139] : List Nat).getD j 0 : Nat) : Int) := by omega
/-- every call on both, from every good state: they agree -/
def lwAll (d x mm : Nat) (Inv : XS → Prop) : Prop := ∀ σ, Inv σ → lwOk x mm σ ∧ ∀ a : Nat → Int32, (lwI d x mm 76 105 [.int (a 1), .int (a 2), .int (a 3), .int (a 4)] [(0, 1), (1, 2)] Inv σ) ∧ (lwI d x mm 77 133 [.int (a 1), .int (a 2)] [(2, 1)] Inv σ) ∧ (lwI d x mm 78 134 [.int (a 1), .int (a 2), .int (a 3)] [(2, 1), (0, 2)] Inv σ) ∧ (lwI d x mm 79 136 [.int (a 1)] [(2, 1)] Inv σ) ∧ (lwI d x mm 80 137 [.int (a 1), .int (a 2)] [(2, 1), (0, 2)] Inv σ) ∧ (lwI d x mm 81 138 [.int (a 1), .int (a 2)] [(2, 1)] Inv σ) ∧ (lwI d x mm 82 139 [.int (a 1)] [(2, 1)] Inv σ) ∧ (lwI d x mm 83 140 [.int (a 1), .int (a 2), .int (a 3), .int (a 4), .int (a 5)] [(2, 1), (1, 2), (0, 3)] Inv σ) ∧ (lwV d x mm 84 141 [.int (a 1), .int (a 2)] [(2, 1), (1, 2), (0, 3)] Inv σ) ∧ (lwV d x mm 85 142 [.int (a 1), .int (a 2), .int (a 3)] [(2, 1), (1, 2)] Inv σ) ∧ (lwI d x mm 86 143 [.int (a 1), .int (a 2)] [(2, 1), (0, 2)] Inv σ) ∧ (lwI d x mm 87 144 [.int (a 1), .int (a 2)] [(2, 1)] Inv σ) ∧ (lwI d x mm 88 145 [.int (a 1), .int (a 2), .int (a 3)] [(2, 1), (0, 2)] Inv σ) ∧ (lwI d x mm 89 146 [.int (a 1), .int (a 2)] [(0, 1)] Inv σ) ∧ (lwI d x mm 90 147 [.int (a 1), .int (a 2)] [(2, 1), (0, 2)] Inv σ) ∧ (lwI d x mm 91 148 [.int (a 1), .int (a 2)] [(2, 1)] Inv σ)
set_option maxHeartbeats 4000000 in
set_option maxRecDepth 100000 in
theorem law_loop {p : Program} {l : Launch} {e : Env} {s : State} {m : MethodId} {below : List Frame} {meth : Method} {c : Code} {D : va_G} {qo ax am : Nat} {cL : ClassId} {b L d x mm : Nat} {xs : Nat → Int32} {Inv : XS → Prop} (hls : l.stackTraces = false) (G : lwH p s m meth c b L xs) (hL : L ≤ 3072) (hAll : lwAll d x mm Inv) (hbd : ∀ σ, Inv σ → σ.1 ≤ 2000 ∧ σ.2.1 ≤ 100000) (hdd : d ≤ 1000) :
    ∀ (n i t : Nat) (σ : XS) (w : XW) (v : Nat → Int64) (H : Heap) (locs : List Loc) (ls : Array Slot), L ≤ i + 6 * n → i ≤ 3072 → t ≤ i → Inv σ → w.1 x = ax → w.1 mm = am → lwPt D (lwA s) s H locs w σ qo cL v → lv_has ls 7 [(0, .ref b), (1, .ref ax), (2, .ref am), (3, .ref qo), (4, .int (nI i))] → W p l e room_1 s m #[Value.ref b] below meth c H locs (σ.1 + 1 + t) (σ.2.1 + 1 + 6 * t) (lw_Z below #[Value.ref b] s) (F0 m 23 ls []) := by
  intro n
  induction n with
  | zero =>
    intro i t σ w v H locs ls hn hi3 hti hI hax ham hpt hl
    obtain ⟨⟨hx, hb, hr, hml, hown, hts0, hX, hbl, hlocks, hgv⟩, hts, htn, hz, hnc⟩ := id G
    have hb3 := hbd σ hI
    refine lv_iload hx hb dL_law_23 (lv_at hl 4 rfl) ?_
    refine lv_aload_n hx hb dL_law_25 rfl (lv_at hl 0 rfl) ?_
    refine va_slen (A := lwA s) hx hb hX hbl (Nat.not_le.mpr hbl) hpt.2.2.1 dL_law_26 ?_
    refine lv_bipush (v := 6) hx hb dL_law_27 (by decide) ?_
    refine lv_isub hx hb dL_law_29 ?_
    refine lv_icmp_gt (tgt := 1253) hx hb dL_law_30 (by decide) (fun _ => ?_) (fun hc => ?_)
    · refine lv_iconst (v := 1) hx hb dL_law_1253 (by decide) ?_
      refine va_forget (fun q hq => hpt.2.2.1.2.2 q hq) ?_
      refine W.widen (k := 601024) (n := 7293034) (by omega) (by omega) ?_
      exact lw_ret hx hb hr hlocks dL_law_1254
    · exact absurd (lw_gt (L := L) (i := i) (by omega) (by omega) (by omega)) hc
  | succ n ih =>
    intro i t σ w v H locs ls hn hi3 hti hI hax ham hpt hl
    obtain ⟨⟨hx, hb, hr, hml, hown, hts0, hX, hbl, hlocks, hgv⟩, hts, htn, hz, hnc⟩ := id G
    have hb3 := hbd σ hI
    refine lv_iload hx hb dL_law_23 (lv_at hl 4 rfl) ?_
    refine lv_aload_n hx hb dL_law_25 rfl (lv_at hl 0 rfl) ?_
    refine va_slen (A := lwA s) hx hb hX hbl (Nat.not_le.mpr hbl) hpt.2.2.1 dL_law_26 ?_
    refine lv_bipush (v := 6) hx hb dL_law_27 (by decide) ?_
    refine lv_isub hx hb dL_law_29 ?_
    refine lv_icmp_gt (tgt := 1253) hx hb dL_law_30 (by decide) (fun _ => ?_) (fun hc => ?_)
    · refine lv_iconst (v := 1) hx hb dL_law_1253 (by decide) ?_
      refine va_forget (fun q hq => hpt.2.2.1.2.2 q hq) ?_
      refine W.widen (k := 601024) (n := 7293034) (by omega) (by omega) ?_
      exact lw_ret hx hb hr hlocks dL_law_1254
    · have hi : i + 6 ≤ L := by
        rcases Nat.lt_or_ge L (i + 6) with q | q
        · exact absurd (lw_gt (L := L) (i := i) (by omega) (by omega) q) hc
        · exact q
      refine lv_aload_n hx hb dL_law_33 rfl (lv_at hl 0 rfl) ?_
      refine lv_iload hx hb dL_law_34 (lv_at hl 4 rfl) ?_
      refine va_sld (A := lwA s) hx hb hX hbl (Nat.not_le.mpr hbl) hpt.2.2.1 (vp_in_nI (show i < L by omega) (by omega)) dL_law_36 ?_
      refine lv_bipush (v := 15) hx hb dL_law_37 (by decide) ?_
      refine lv_iand hx hb dL_law_39 ?_
      obtain ⟨j, hj, ej⟩ := pk_andE (xs (nI i).toNatClampNeg) (m := 15) 4 (by decide)
      rw [ej]
      obtain ⟨hok, hall⟩ := hAll σ hI
      have hall := hall (fun k => xs (i + k))
      have ht : t ≤ 3072 := by omega
      have hgo : ∀ (σ' : XS) (w' : XW) (v' : Nat → Int64) (H' : Heap) (locs' : List Loc) (ls' : Array Slot) (t' : Nat), Inv σ' → w'.1 x = ax → w'.1 mm = am → lwPt D (lwA s) s H' locs' w' σ' qo cL v' → lv_has ls' 7 [(0, .ref b), (1, .ref ax), (2, .ref am), (3, .ref qo), (4, .int (nI i))] → t' ≤ t + 1 → W p l e room_1 s m #[Value.ref b] below meth c H' locs' (σ'.1 + 1 + t') (σ'.2.1 + 1 + 6 * t') (lw_Z below #[Value.ref b] s) (F0 m 1247 ls' []) := by
        intro σ' w' v' H' locs' ls' t' hI' hax' ham' hpt' hl' ht'
        refine lv_iinc (v := nI (i + 6)) (lv' := [(4, .int (nI (i + 6))), (0, .ref b), (1, .ref ax), (2, .ref am), (3, .ref qo)]) hx hb dL_law_1247 hl' (k := 4) rfl (by show nI i + 6 = _; rw [show (6 : Int32) = nI 6 from rfl, nI_add]) (by decide) rfl (fun ls2 hl2 => ?_)
        refine lv_goto (tgt := 23) hx hb dL_law_1250 (by decide) ?_
        exact ih (i + 6) t' σ' w' v' H' locs' ls2 (by omega) (by omega) (by omega) hI' hax' ham' hpt' (lv_sub hl2 [1, 2, 3, 4, 0] rfl)
      refine lv_tableIn (off := (([80, 172, 240, 320, 376, 444, 512, 575, 679, 727, 787, 855, 923, 1003, 1071, 1139] : List Nat).getD j 0 : Nat)) (tgt := 40 + ([80, 172, 240, 320, 376, 444, 512, 575, 679, 727, 787, 855, 923, 1003, 1071, 1139] : List Nat).getD j 0) hx hb dL_law_40 (lw_sw1 hj) (lw_sw2 hj) (lw_sw3 hj) (lw_sw4 hj) ?_
      match j, hj with
      | 0, _ => obtain ⟨hq, -⟩ := hall; exact lc_request hls G hL hi hq hok hbd ht hdd hpt hax ham hl hgo
      | 1, _ => obtain ⟨-, hq, -⟩ := hall; exact lc_bring hls G hL hi hq hok hbd ht hdd hpt hax ham hl hgo
      | 2, _ => obtain ⟨-, -, hq, -⟩ := hall; exact lc_send hls G hL hi hq hok hbd ht hdd hpt hax ham hl hgo
      | 3, _ => obtain ⟨-, -, -, hq, -⟩ := hall; exact lc_late hls G hL hi hq hok hbd ht hdd hpt hax ham hl hgo
      | 4, _ => obtain ⟨-, -, -, -, hq, -⟩ := hall; exact lc_ask hls G hL hi hq hok hbd ht hdd hpt hax ham hl hgo
      | 5, _ => obtain ⟨-, -, -, -, -, hq, -⟩ := hall; exact lc_reply hls G hL hi hq hok hbd ht hdd hpt hax ham hl hgo
      | 6, _ => obtain ⟨-, -, -, -, -, -, hq, -⟩ := hall; exact lc_lie hls G hL hi hq hok hbd ht hdd hpt hax ham hl hgo
      | 7, _ => obtain ⟨-, -, -, -, -, -, -, hq, -⟩ := hall; exact lc_certify hls G hL hi hq hok hbd ht hdd hpt hax ham hl hgo
      | 8, _ => obtain ⟨-, -, -, -, -, -, -, -, hq, -⟩ := hall; exact lc_askFor hls G hL hi hq hok hbd ht hdd hpt hax ham hl hgo
      | 9, _ => obtain ⟨-, -, -, -, -, -, -, -, -, hq, -⟩ := hall; exact lc_replyWith hls G hL hi hq hok hbd ht hdd hpt hax ham hl hgo
      | 10, _ => obtain ⟨-, -, -, -, -, -, -, -, -, -, hq, -⟩ := hall; exact lc_state hls G hL hi hq hok hbd ht hdd hpt hax ham hl hgo
      | 11, _ => obtain ⟨-, -, -, -, -, -, -, -, -, -, -, hq, -⟩ := hall; exact lc_history hls G hL hi hq hok hbd ht hdd hpt hax ham hl hgo
      | 12, _ => obtain ⟨-, -, -, -, -, -, -, -, -, -, -, -, hq, -⟩ := hall; exact lc_message hls G hL hi hq hok hbd ht hdd hpt hax ham hl hgo
      | 13, _ => obtain ⟨-, -, -, -, -, -, -, -, -, -, -, -, -, hq, -⟩ := hall; exact lc_row hls G hL hi hq hok hbd ht hdd hpt hax ham hl hgo
      | 14, _ => obtain ⟨-, -, -, -, -, -, -, -, -, -, -, -, -, -, hq, -⟩ := hall; exact lc_told hls G hL hi hq hok hbd ht hdd hpt hax ham hl hgo
      | 15, _ => obtain ⟨-, -, -, -, -, -, -, -, -, -, -, -, -, -, -, hq⟩ := hall; exact lc_result hls G hL hi hq hok hbd ht hdd hpt hax ham hl hgo
      | k + 16, hk => exact absurd hk (by omega)
end
section
/-! the law's start, and the claim, out of the pure claim -/
def lwPure : Prop := ∃ (N1 N2 d : Nat) (Inv : XS → Prop) (σb σd : XS), d ≤ 1000 ∧ xcall N1 d 75 [.ref 0] (1, 4, va_up (fun _ => .inl (9, [])) 0 (.inl (9, xdef 9))) = some (none, σb) ∧ xcall N2 d 103 [.ref σb.1] (σb.1 + 1, σb.2.1 + 41, va_up σb.2.2 σb.1 (.inl (10, xdef 10))) = some (none, σd) ∧ Inv σd ∧ (∀ σ, Inv σ → σ.1 ≤ 2000 ∧ σ.2.1 ≤ 100000) ∧ lwAll d 0 σb.1 Inv
theorem lw_ex : ∀ q ∈ xSt, Cond.exactly (.string RX9 q.1) "java/lang/String" ∈ flatC (Jvm.Cond.and given_1 narrow_1) := by decide +kernel
theorem lw_i1 : Cond.isRef (.static Jvm.Bundle.tN "UNASSIGNED_STACK" Jvm.Bundle.steD) ∈ flatC (Jvm.Cond.and given_1 narrow_1) := by decide +kernel
theorem lw_i2 : Cond.isRef (.static Jvm.Bundle.tN "SUPPRESSED_SENTINEL" Jvm.Bundle.listD) ∈ flatC (Jvm.Cond.and given_1 narrow_1) := by decide +kernel
theorem lw_nc : ∀ q ∈ lwNC, Cond.not (.castable q.1 q.2) ∈ flatC (Jvm.Cond.and given_1 narrow_1) := by decide +kernel
theorem xinst {ci : Nat} {q : vw_C} (h : vwCl[ci]? = some q) : Cond.instantiable q.1 q.2.2 ∈ xT := match ci, h with
  | 0, h => by cases h; exact (xt1 99 rfl rfl)
  | 1, h => by cases h; exact (xt1 58 rfl rfl)
  | 2, h => by cases h; exact (xt1 162 rfl rfl)
  | 3, h => by cases h; exact (xt1 67 rfl rfl)
  | 4, h => by cases h; exact (xt1 125 rfl rfl)
  | 5, h => by cases h; exact (xt1 29 rfl rfl)
  | 6, h => by cases h; exact (xt1 119 rfl rfl)
  | 7, h => by cases h; exact (xt1 177 rfl rfl)
  | 8, h => by cases h; exact (xt1 138 rfl rfl)
  | 9, h => by cases h; exact (xt1 21 rfl rfl)
  | 10, h => by cases h; exact (xt4 87 rfl rfl)
  | k + 11, h => by simp [vwCl] at h
theorem lw_G {p : Program} {s : State} {m : MethodId} {meth : Method} {c : Code} {b L : Nat} {xs : Nat → Int32} (C0 : lw_At p s m meth c b L xs) : lwH p s m meth c b L xs := by
  obtain ⟨hx, hb, hr, hml, hown, hts, hX, hbl, hlocks, hgv⟩ := id C0
  have hfl := flat_of_before _ hgv
  have hnA : ∀ a : Nat, a < s.heap.size → ¬ lwA s a := fun a ha => Nat.not_le.mpr ha
  refine ⟨C0, fun w hw => hts w (List.mem_filter.mp hw).1, fun w hw => (List.mem_append.mp hw).elim (fun h => hts w (List.mem_filter.mp h).1) (fun h => hts w (xO_in w h)), ⟨fun w hw => va_Nw.of (xCs_tab hw) (hts w (xCs_in w hw)), fun q hq => ?_, ?_, ?_⟩, fun q hq => va_Nc.of (hfl _ (lw_nc q hq))⟩
  · obtain ⟨a, _, _, _, h1, -⟩ := Cond.exactly_spec (hfl _ (lw_ex q hq))
    exact ⟨a, vk_R.of (hts _ (xSt_in q hq)) h1⟩
  · exact vx_Zqof (hts _ (xl2 (List.mem_of_getElem? (i := 44) rfl))) (hts _ (xl1 (List.mem_of_getElem? (i := 12) rfl))) (hfl _ lw_i1) hnA
  · exact vx_Zqof (hts _ (xl2 (List.mem_of_getElem? (i := 46) rfl))) (hts _ (xl1 (List.mem_of_getElem? (i := 12) rfl))) (hfl _ lw_i2) hnA
theorem lw_D {s : State} {args : Array Value} (hts : ∀ w ∈ xT, w.before args s = true) : ∃ D : va_G, ∀ (c : Nat) (q : vw_C), vwCl[c]? = some q → u_Kn s q.1 q.2.1 q.2.2 (D.1 c) (D.2 c) := by
  have h : ∀ c : Nat, ∃ z : ClassId × (Nat → Nat), ∀ q : vw_C, vwCl[c]? = some q → u_Kn s q.1 q.2.1 q.2.2 z.1 z.2 := by
    intro c
    cases hq : vwCl[c]? with
    | none => exact ⟨((0 : Nat), fun _ => 0), fun q h => nomatch h⟩
    | some q =>
      obtain ⟨cC, iS, hk⟩ := u_known (n := q.2.2) hts (xcls hq).1 (hts _ (xinst hq))
      exact ⟨(cC, iS), fun q' h => by cases h; exact hk⟩
  exact ⟨(fun c => (h c).choose.1, fun c => (h c).choose.2), fun c q hq => (h c).choose_spec q hq⟩
section LWS
variable {p : Program} {l : Launch} {e : Env} {s : State} {m : MethodId} {below : List Frame} {meth : Method} {c : Code} {Q : State → Prop} {D : va_G} {H : Heap} {locs : List Loc} {ls : Array Slot} {ad : Nat → Nat} {ca : Nat → ClassId} {σ σ1 : XS} {cells slots b L : Nat} {xs : Nat → Int32} {ad0 : Nat → Nat} {ca0 : Nat → ClassId}
theorem xPt.relo {A : Nat → Prop} {n0 s0 : Nat} {st : List Value} {ls' : Array Slot} {lv : List (Nat × Value)} (h : xPt D A s 7 n0 s0 ad0 ca0 H locs ls ad ca (List.replicate 7 none) st σ) (hl : lv_has ls' 7 lv) : xPt D A s 7 n0 s0 ad0 ca0 H locs ls' ad ca (List.replicate 7 none) st σ :=
  ⟨h.1, ⟨hl.1, hl.2.1, by simp, fun i v hi => by
    rw [List.getElem?_replicate] at hi
    split at hi
    · cases hi
    · cases hi⟩, h.2.2⟩
/-- a constructor of the abstract machine's, called by the law -/
theorem lw_init {N d u j pc bb : Nat} {restc : List Value} {rest : List Value} (hcall : xcall N d u [.ref bb] σ = some (none, σ1)) (G : lwH p s m meth c b L xs) (hpt : xPt D (lwA s) s 7 0 0 ad0 ca0 H locs ls ad ca (List.replicate 7 none) (.ref bb :: rest) σ) (hret : (xM u).2.2.2.2 = none) (hname : (xM u).2.1.name = "<init>") (hA0 : xA u = 0) (hu : u < 149)
    (c1 : Cond.methodLink lwRL j (xM u).2.1 ∈ xT) (c2 : Cond.instanceMethod (xM u).2.1 ∈ xT) (hcat : (restc.map fun v => v.category).sum ≤ 8) (hd : decode code pc = .ok (.invokespecial j, 3)) (hdd : d ≤ 1000) (hRc : cells + (σ1.1 - σ.1) ≤ room_1.cells) (hRs : slots + (σ1.2.1 - σ.2.1) ≤ room_1.slots)
    (hk : ∀ (H' : Heap) (locs' : List Loc) (w' : XW), xAg σ.1 ad ca w' → xPt D (lwA s) s 7 0 0 ad0 ca0 H' locs' ls w'.1 w'.2 (List.replicate 7 none) rest σ1 → W p l e room_1 s m #[Value.ref b] below meth c H' locs' (cells + (σ1.1 - σ.1)) (slots + (σ1.2.1 - σ.2.1)) Q (F0 m (pc + 3) ls restc)) :
    W p l e room_1 s m #[Value.ref b] below meth c H locs cells slots Q (F0 m pc ls (.ref (ad bb) :: restc)) := by
  obtain ⟨⟨hx, hb, hr, hml, hown, hts0, hX, hbl, hlocks, hgv⟩, hts, htn, hz, hnc⟩ := id G
  obtain ⟨m1, m2, m3, m4, m5, m6⟩ := xM_ok u
  have hF := hpt.free (fun q h => h)
  have hmm := xcall_mono _ _ _ _ _ _ hcall
  have hvs : ∀ v ∈ ([.ref bb] : List Value), xok σ.1 v := fun v hv => by
    rcases List.mem_cons.mp hv with rfl | hv
    · exact hpt.top
    · cases hv
  have hroom : (xRoom d σ σ1).frames + 1 ≤ room_1.frames ∧ 8 + ((xM u).2.2.2.1 + 11) + (xRoom d σ σ1).locals ≤ room_1.locals := by
    refine ⟨?_, ?_⟩
    · show d + 1 ≤ 2048
      omega
    · show 8 + ((xM u).2.2.2.1 + 11) + d * 40 ≤ 84000
      omega
  have hn := xA_ok hu
  rw [hA0] at hn
  have hrun := va_runI (p := p) (l := l) (e := e) (R := room_1) (s := s) (m := m) (args := #[Value.ref b]) (below := below) (meth := meth) (c := c) (H := H) (locs := locs) (cells := cells) (slots := slots) (b := ad bb) (As := []) (rest := restc) (g := F0 m pc ls (.ref (ad bb) :: restc)) ⟨hx, hb, hml, hown, hts⟩ (xcall_ok l D N d _ _ _ _ _ hcall ad ca H.size) (cwI 0 hts (xgoodT (xW_in u)) (by unfold xW; rw [hret]) rfl rfl (hts _ m6) (hts _ c1) (hts _ c2) hname ⟨m4.1, m4.2, hn⟩ hroom) ⟨xPre_blind, fun U hU hW => hpt.pre htn hvs hU hW⟩ rfl rfl hpt.2.1.1 rfl (lv_room hcat) hd ⟨hRc, hRs⟩
  refine va_callv (a := #[Value.ref (ad bb)]) hrun hpt.1.2.2.1 (fun q _ h => hF q h) hF (fun w1 t H1 locs1 ht hvm hw hB hz1 hk1 hS => ?_)
  exact hk H1 locs1 w1 hw (hpt.after (fun q h => h) hw hB ht hvm hS hmm (fun v hv => xok_le (hpt.2.2.1 v (List.mem_cons_of_mem _ hv)) hmm.1))
end LWS
set_option maxHeartbeats 4000000 in
set_option maxRecDepth 100000 in
theorem whole_start (hpure : lwPure) {p : Program} {e : Env} {s : State} {m : MethodId} {below : List Frame} {meth : Method} {c : Code} (l : Launch) (hls : l.stackTraces = false) {b L : Nat} {xs : Nat → Int32} (hL : L ≤ 3072) (C0 : lw_At p s m meth c b L xs) : W p l e room_1 s m #[Value.ref b] below meth c s.heap [] 0 0 (lw_Z below #[Value.ref b] s) (entryFrame m ([Value.ref b] : List Value).toArray 7) := by
  obtain ⟨N1, N2, d, Inv, σb, σd, hdd, hc1, hc2, hI, hbd, hAll⟩ := hpure
  have G := lw_G C0
  obtain ⟨-, hts, htn, hz, hnc⟩ := id G
  obtain ⟨hx, hb, hr, hml, hown, hts0, hX, hbl, hlocks, hgv⟩ := id C0
  obtain ⟨D, hD⟩ := lw_D hts
  have hA : ∀ q, s.heap.size ≤ q → lwA s q := fun _ h => h
  have q1 := xcall_mono _ _ _ _ _ _ hc1
  have q2 := xcall_mono _ _ _ _ _ _ hc2
  have q3 := hbd σd hI
  dsimp only at q1 q2
  have hl := lv_entry ([.ref b]) (n := 7) (Nat.le_of_ble_eq_true rfl)
  rw [lg_entry_eq]
  generalize (lg_sl ([.ref b]) ++ List.replicate (7 - (lg_sl ([.ref b])).length) Slot.unset).toArray = ls at hl ⊢
  have hl : lv_has ls 7 [(0, .ref b)] := hl
  have hpt0 : xPt D (lwA s) s 7 0 0 (fun _ => 0) (fun _ => (0 : Nat)) s.heap [] ls (fun _ => 0) (fun _ => (0 : Nat)) (List.replicate 7 none) [] (0, 0, fun _ => .inl (9, [])) := by
    refine ⟨⟨fun k q h => by simp [xws] at h, ⟨fun i j p q h => by simp [xws] at h, fun k q h => by simp [xws] at h⟩, va_S.rf, ⟨hD, fun i hi => absurd hi (Nat.not_lt_zero _)⟩, fun i hi => absurd hi (Nat.not_lt_zero _)⟩, ⟨hl.1, hl.2.1, by simp, fun i v hi => ?_⟩, fun v hv => by simp at hv, Nat.le_refl _, Nat.le_refl _, fun i hi => absurd hi (Nat.not_lt_zero _)⟩
    rw [List.getElem?_replicate] at hi
    split at hi
    · cases hi
    · cases hi
  refine va_new (C := RX9) (T := TX9) (N := 4) (ci := 9) (fs := xdef 9) hx hb hts (xcls (ci := 9) rfl).1 (xFty 9) (xcls (ci := 9) rfl).2.1 hown (hts _ (xt1 20 rfl rfl)) (hts _ (xt1 21 rfl rfl)) (hts _ (xt1 1 rfl rfl)) hpt0.K hpt0.1.1 hpt0.1.2.1 hpt0.1.2.2.1 hA rfl (fun j hj => xdef_at (c := 9) hj) (by show 0 + 1 ≤ 601024; omega) (by show 0 + 4 ≤ 7293034; omega) dL_law_0 (fun a1 H1 k2 k3 k4 => ?_)
  have hpt1 := hpt0.alloc (q := a1) (cA := (0 : Nat)) (x := .inl (9, xdef 9)) (dn := 4) (st' := []) (fun v hv => nomatch hv) (fun t n' b e => nomatch e) (fun ci' fs e b hb' => by cases e; exact absurd hb' (xdef_nr b)) (fun _ _ _ e => nomatch e) (by show va_P D vwCl (_ ++ [(a1, .inr (9, (xdef 9).map (xcv _)))]) H1; rw [xdef_map]; exact k2) (by show va_D (lwA s) (_ ++ [(a1, .inr (9, (xdef 9).map (xcv _)))]); rw [xdef_map]; exact k3) k4
  refine lv_dup hx hb dL_law_3 rfl ?_
  have hpt1 := hpt1.push hpt1.top
  have hax1 : va_up (fun _ => 0) 0 a1 0 = a1 := va_up_self _ _ _
  rw [show (F0 m (0 + 3 + 1) ls [Value.ref a1, Value.ref a1]) = F0 m 4 ls [Value.ref (va_up (fun _ => 0) 0 a1 0), Value.ref a1] by rw [hax1]]
  refine lw_init (rest := [.ref 0]) hc1 G hpt1 rfl rfl rfl (by decide) (xt1 22 rfl rfl) (xt1 23 rfl rfl) (Nat.le_of_ble_eq_true rfl) dL_law_4 hdd (by show _ ≤ 601024; omega) (by show _ ≤ 7293034; omega) (fun H2 locs2 w2 hag2 hpt2 => ?_)
  have hax2 : w2.1 0 = a1 := (hag2 0 (by decide)).1.trans hax1
  refine lv_astore_n (lv' := [(1, .ref a1), (0, .ref b)]) hx hb dL_law_7 rfl hl (by decide) rfl (fun ls1 hl => ?_)
  have hpt2 := hpt2.pop.relo hl
  refine va_new (C := RX10) (T := TX10) (N := 41) (ci := 10) (fs := xdef 10) hx hb hts (xcls (ci := 10) rfl).1 (xFty 10) (xcls (ci := 10) rfl).2.1 hown (hts _ (xt4 86 rfl rfl)) (hts _ (xt4 87 rfl rfl)) (hts _ (xt1 11 rfl rfl)) hpt2.K hpt2.1.1 hpt2.1.2.1 hpt2.1.2.2.1 hA rfl (fun j hj => xdef_at (c := 10) hj) (by show _ ≤ 601024; omega) (by show _ ≤ 7293034; omega) dL_law_8 (fun a2 H3 k2 k3 k4 => ?_)
  have hpt3 := hpt2.alloc (q := a2) (cA := (0 : Nat)) (x := .inl (10, xdef 10)) (dn := 41) (st' := []) (fun v hv => nomatch hv) (fun t n' b e => nomatch e) (fun ci' fs e b hb' => by cases e; exact absurd hb' (xdef_nr b)) (fun _ _ _ e => nomatch e) (by show va_P D vwCl (_ ++ [(a2, .inr (10, (xdef 10).map (xcv _)))]) H3; rw [xdef_map]; exact k2) (by show va_D (lwA s) (_ ++ [(a2, .inr (10, (xdef 10).map (xcv _)))]); rw [xdef_map]; exact k3) k4
  refine lv_dup hx hb dL_law_11 rfl ?_
  have hpt3 := hpt3.push hpt3.top
  have ham3 : va_up w2.1 σb.1 a2 σb.1 = a2 := va_up_self _ _ _
  have hx0 : 0 < σb.1 := by omega
  have hax3 : va_up w2.1 σb.1 a2 0 = a1 := (va_up_ne _ _ (Nat.ne_of_lt hx0)).trans hax2
  rw [show (F0 m (8 + 3 + 1) ls1 [Value.ref a2, Value.ref a2]) = F0 m 12 ls1 [Value.ref (va_up w2.1 σb.1 a2 σb.1), Value.ref a2] by rw [ham3]]
  refine lw_init (rest := [.ref σb.1]) hc2 G hpt3 rfl rfl rfl (by decide) (xt4 88 rfl rfl) (xt4 89 rfl rfl) (Nat.le_of_ble_eq_true rfl) dL_law_12 hdd (by show _ ≤ 601024; omega) (by show _ ≤ 7293034; omega) (fun H4 locs4 w4 hag4 hpt4 => ?_)
  have hax4 : w4.1 0 = a1 := (hag4 0 (by show 0 < σb.1 + 1; omega)).1.trans hax3
  have ham4 : w4.1 σb.1 = a2 := (hag4 σb.1 (by show σb.1 < σb.1 + 1; omega)).1.trans ham3
  refine lv_astore_n (lv' := [(2, .ref a2), (1, .ref a1), (0, .ref b)]) hx hb dL_law_15 rfl hl (by decide) rfl (fun ls2 hl => ?_)
  have hpt4 := hpt4.pop.relo hl
  refine lv_iconst (v := 1) hx hb dL_law_16 (by decide) ?_
  refine va_newa (atype := .long) (a0 := (1, .inr (.inl (fun _ => 0)))) (ty := .long) hx hb (hts _ (xt5 154 rfl rfl)) rfl hpt4.K hpt4.1.1 hpt4.1.2.1 hpt4.1.2.2.1 hA (fun _ => rfl) (by decide) rfl (by decide) (by show _ ≤ 601024; omega) (by show _ ≤ 7293034; omega) dL_law_17 (fun qo cL H5 k1 k2 k3 k4 => ?_)
  have hpt5 : lwPt D (lwA s) s H5 locs4 w4 σd qo cL (fun _ => 0) := ⟨k2, k3, k4, hpt4.1.2.2.2.1, k1.2 0 _ rfl, hpt4.1.2.2.2.2⟩
  refine lv_astore_n (lv' := [(3, .ref qo), (2, .ref a2), (1, .ref a1), (0, .ref b)]) hx hb dL_law_19 rfl hl (by decide) rfl (fun ls3 hl => ?_)
  refine lv_iconst (v := 0) hx hb dL_law_20 (by decide) ?_
  refine lv_istore (lv' := [(4, .int (nI 0)), (3, .ref qo), (2, .ref a2), (1, .ref a1), (0, .ref b)]) hx hb dL_law_21 hl (by decide) rfl (fun ls4 hl => ?_)
  exact lw_num (by first | omega | (dsimp only; omega)) (by first | omega | (dsimp only; omega)) (law_loop hls G hL hAll hbd hdd 512 0 0 σd w4 (fun _ => 0) H5 locs4 ls4 (by omega) (by omega) (Nat.le_refl _) hI hax4 ham4 hpt5 (lv_sub hl [4, 3, 2, 1, 0] rfl))
end
section
set_option maxHeartbeats 4000000 in
theorem lw_walk (hpure : lwPure) (l : Launch) (hls : l.stackTraces = false) (b : Addr) (xs : List Int32) : MetFree l x (headSpec (Jvm.Cond.code x code maxLocals ret :: tables_1) room_1) (lw_P b xs) (fun _ _ _ _ _ => True) lw_Q := by
  refine MetFree.of_bodyS (code := code) (maxLocals := maxLocals) (ret := ret) (by decide) ?_ ?_
  · intro args s m h hn
    obtain ⟨meth, c, h1, h2, h3, h4, h5, h6, -, -⟩ := Cond.code_spec hn (atoms_spec (ws := Jvm.Cond.code x code maxLocals ret :: tables_1) h _ List.mem_cons_self)
    exact ⟨meth, c, h1, h2, h3, h4, h5, h6⟩
  · intro p e s m args below meth c s₁ B hml0 hP _
    obtain ⟨rfl, hx, hbd, hgv⟩ := hP
    obtain ⟨scr, harrAt, hlist, hof, hsmall⟩ := hx
    obtain ⟨hcb, hkn, -, -⟩ := State.arrayAt?_spec harrAt
    have hown : s.vm.findClass R_law = some m.cls := findClass_of_methodNamed B.named
    have hts0 : ∀ c ∈ (Jvm.Cond.code x code maxLocals ret :: tables_1), c.before #[Value.ref b] s = true := atoms_spec (ws := Jvm.Cond.code x code maxLocals ret :: tables_1) B.pre
    have hts : ∀ w ∈ lw_tbl, w.before #[Value.ref b] s = true := k2_hts_sels lw_privs (fun w hw => hts0 w (List.mem_cons_of_mem _ hw)) lw_privs_ok
    have hml : c.maxLocals = 7 := B.maxLocals_eq (hts0 _ List.mem_cons_self)
    have X₀ : Stand p l e room_1 s m #[Value.ref b] below meth c s₁ [] 0 0 := Stand.of_body B
    have hh0 : s₁.heap = s.heap := by rw [B.state]; rfl
    have hsz : scr.slots.size = xs.length := by rw [← Array.length_toList, hlist, List.length_map]
    have hval : ∀ j : Nat, j < xs.length → scr.slots[j]? = some (.int (xs.getD j 0)) := fun j hj => by
      rw [← Array.getElem?_toList, hlist]
      simp [hj]
    have hbl : b < s.heap.size := (Array.getElem?_eq_some_iff.mp hcb).1
    have hX : va_X b xs.length (fun j => xs.getD j 0) s s.heap := ⟨scr, hcb, hof, hkn, hsz, hval⟩
    have K : W p l e room_1 s m #[Value.ref b] below meth c s₁.heap [] 0 0 (lw_Z below #[Value.ref b] s) (entryFrame m ([Value.ref b] : List Value).toArray 7) := by
      rw [hh0]
      exact whole_start hpure l hls hbd ⟨B.exec, B.bytes, B.returns, hml, hown, hts, hX, hbl, B.notSynchronized, hgv⟩
    obtain ⟨t, a1, o, b1, b2, b3⟩ := K s₁ rfl X₀
    exact ⟨t, o, a1, b1, b2, b3⟩
theorem lw_pre_spec {args : Array Value} {s : State} (h : (Jvm.Cond.and given_1 narrow_1).before args s = true) (hr : rest_1_c.before args s = true) : ∃ (b : Addr) (xs : List Int32), lw_P b xs args s := by
  have hs := flat_of_before _ h
  have hq := flat_of_before _ hr
  have hc : (Cond.count 1).before args s = true := hs _ (by decide +kernel)
  have harr : (Cond.arrayOf (.arg 0) .int).before args s = true := hs _ (by decide +kernel)
  have hle : (Cond.le (.length (.arg 0)) (.int 3072)).before args s = true := hs _ (by decide +kernel)
  have hlen : (Cond.isInt (.length (.arg 0))).before args s = true := hq _ (by decide +kernel)
  have hall : (Cond.all (.arg 0) (.isInt (.elem (.arg 0) (.index 0)))).before args s = true := hq _ (by decide +kernel)
  obtain ⟨b, xs, hb, hx⟩ := State.ints_of_pre rfl harr hlen hall
  have hsm : xs.length < 2 ^ 31 := hx.choose_spec.2.2.2
  have hev : (Term.length (.arg 0)).eval args s none [] s = some (.int xs.length.toInt32) := hx.length_eval hb
  have hv := Cond.le_ints hev (show (Term.int 3072).eval args s none [] s = some (.int 3072) from rfl)
  have hd : xs.length.toInt32 ≤ 3072 := by
    simpa [Cond.before, Cond.holds, hv] using hle
  have hN : xs.length ≤ 3072 := (Int32.ofNat_le_ofNat hsm (by decide)).mp (show Int32.ofNat xs.length ≤ Int32.ofNat 3072 from hd)
  exact ⟨b, xs, Cond.one_arg hc (show args[0]? = some (.ref b) from hb), hx, hN, h⟩
theorem lw_comes (hpure : lwPure) (l : Launch) (hls : l.stackTraces = false) : Comes l x (Jvm.Cond.code x code maxLocals ret :: tables_1) room_1 (fun tb e args s => Calls_1 tb e args s ∧ rest_1 tb e args s ∧ Pre_1 tb e args s)
    (fun _ _ args s o t => lw_Q args s o t) := by
  intro p e ha hc hk s m args below hf hfit hheap happ hpre
  obtain ⟨b, xs, hP⟩ := lw_pre_spec hpre.2.2 hpre.2.1
  obtain ⟨k, o, h1, h2, h3, hQ⟩ := lw_walk hpure l hls b xs p e ha hc hk s m args below hf ((Spec.applies_iff_loose hf).mp happ).1 hP trivial
  exact ⟨k, o, h1, h2, h3, hQ⟩
theorem lw_frame {s t : State} {o : Outcome} {args : Array Value} (h : Framed s o t [] 601024 7293034) :
    Framed s o t (fieldLocs frame_1_writes args s ++ arrayLocs frame_1_arrays args s ++ staticLocs frame_1_statics s) 601024 7293034 := h
theorem lw_limb (hpure : lwPure) (L : Cond) (hL : ∀ (args : Array Value) (s t : State), L.after args s (.returned (some (.int 1))) t = true) :
    ArmFor flags0 classFile x code maxLocals ret World_1 tables_1 room_1 Calls_1 rest_1 Pre_1
      (fun tb e a s o t => postC L tb e a s o t ∧ Framed s o t (fieldLocs frame_1_writes a s ++ arrayLocs frame_1_arrays a s ++ staticLocs frame_1_statics s) 601024 7293034) := by
  intro l hfl _ _ p e ha hc hk s m args below hf hfit hheap happ hpre
  obtain ⟨k, o, h1, h2, h3, rfl, hF⟩ := lw_comes hpure l (by unfold Launch.stackTraces; rw [hfl]; decide +kernel) p e ha hc hk s m args below hf hfit hheap happ hpre
  exact ⟨k, _, h1, h2, h3, hL args s _, lw_frame hF⟩
theorem i_vc_open (hpure : lwPure) : Claimed_1_1 ∧ Claimed_1_2 := ⟨lw_limb hpure limb_1_1 (fun args s t => by simp [limb_1_1, Cond.after, Cond.holds, Cond.value]), lw_limb hpure limb_1_2 (fun args s t => Cond.after_iff.mpr (by
  first | (rw [show limb_1_2 = Cond.eq .result (.int 1) from rfl, Cond.eq_ints (x := 1) (y := 1) rfl rfl]; simp; done) | (simp [limb_1_2, Cond.value, Term.eval]; done)))⟩
end
section
/-! more fuel, more depth: the same answer -/
theorem xjmp_le {α : Type} {pc : Nat} {off : Int} {k k' : Nat → Option α} {r : α} (hk : ∀ t, k t = some r → k' t = some r) (h : xjmp pc off k = some r) : xjmp pc off k' = some r := by
  unfold xjmp at h ⊢
  split at h
  · rename_i hc
    rw [if_pos hc]
    exact hk _ h
  · cases h
set_option maxHeartbeats 1000000 in
theorem xst_le {α : Type} {o : Nat} {ini : Bool} {pc : Nat} {i : Instr} {lo : XL} {st : List Value} {σ : XS} {k k' : Nat → XL → List Value → XS → Option α} {r : α} (hk : ∀ pc lo st σ, k pc lo st σ = some r → k' pc lo st σ = some r) (h : xst o ini pc i lo st σ k = some r) : xst o ini pc i lo st σ k' = some r := by
  cases i <;> dsimp only [xst] at h ⊢
  all_goals first
    | contradiction
    | skip
  all_goals repeat' split at h
  all_goals first
    | contradiction
    | skip
  all_goals first
    | exact hk _ _ _ _ h
    | exact xjmp_le (fun t ht => hk _ _ _ _ ht) h
    | (refine xjmp_le (fun t ht => ?_) h
       dsimp only at ht ⊢
       split at ht <;> rename_i hc <;> first
         | (rw [if_pos hc]; exact hk _ _ _ _ ht)
         | (rw [if_neg hc]; exact hk _ _ _ _ ht))
    | (simp only [*, if_true, if_false, not_false_eq_true, true_and, and_self, reduceIte]; exact hk _ _ _ _ h)
    | (simp only [*, if_true, if_false, not_false_eq_true, true_and, and_self, reduceIte]; exact xjmp_le (fun t ht => hk _ _ _ _ ht) h)
    | (simp only [*, if_true, if_false, not_false_eq_true, true_and, and_self, reduceIte]; done)
    | (rename_i hcc
       obtain ⟨rfl, h2, h3, h4⟩ := hcc
       simp only [*, if_true, if_false, not_false_eq_true, true_and, and_self, reduceIte]; done)
set_option maxHeartbeats 1000000 in
theorem xinv_le {α : Type} {call call' : Nat → List Value → XS → XO} {o j vk : Nat} {st : List Value} {σ : XS} {k k' : List Value → XS → Option α} {r : α} (hc : ∀ u vs σ r, call u vs σ = some r → call' u vs σ = some r) (hk : ∀ st σ, k st σ = some r → k' st σ = some r) (h : xinv call o j vk st σ k = some r) : xinv call' o j vk st σ k' = some r := by
  unfold xinv at h ⊢
  repeat' split at h
  all_goals first
    | contradiction
    | skip
  all_goals (try (have hcc := hc _ _ _ _ (by assumption)))
  all_goals first
    | (simp only [*, if_true, if_false, not_false_eq_true, true_and, and_self, and_true, reduceIte]; done)
    | (simp_all; done)
    | (simp_all; rw [if_neg (Int32.not_lt.mpr (by assumption))]; apply hk; assumption)
theorem xgo_le {call call' : Nat → List Value → XS → XO} {u : Nat} {r : Option Value × XS} (hc : ∀ u vs σ r, call u vs σ = some r → call' u vs σ = some r) : ∀ (n n' pc : Nat) (lo : XL) (st : List Value) (σ : XS), n ≤ n' → xgo call u n pc lo st σ = some r → xgo call' u n' pc lo st σ = some r := by
  intro n
  induction n with
  | zero => intro n' pc lo st σ _ h; cases h
  | succ n ih =>
    intro n' pc lo st σ hn h
    obtain ⟨n', rfl⟩ : ∃ q, n' = q + 1 := ⟨n' - 1, by omega⟩
    have ih' := fun pc lo st σ => ih n' pc lo st σ (by omega)
    unfold xgo at h ⊢
    split at h
    · cases h
    · rename_i i len hi
      split at h
      · exact h
      · exact h
      · exact h
      · exact xinv_le hc (fun st σ hq => ih' _ _ _ _ hq) h
      · exact xinv_le hc (fun st σ hq => ih' _ _ _ _ hq) h
      · exact xinv_le hc (fun st σ hq => ih' _ _ _ _ hq) h
      · exact xst_le (fun pc lo st σ hq => ih' _ _ _ _ hq) h
theorem xcall_le {N N' : Nat} (hN : N ≤ N') : ∀ (d d' u : Nat) (vs : List Value) (σ : XS) (r : Option Value × XS), d ≤ d' → xcall N d u vs σ = some r → xcall N' d' u vs σ = some r := by
  intro d
  induction d with
  | zero => intro d' u vs σ r _ h; cases h
  | succ d ih =>
    intro d' u vs σ r hd h
    obtain ⟨d', rfl⟩ : ∃ q, d' = q + 1 := ⟨d' - 1, by omega⟩
    unfold xcall at h ⊢
    split at h
    · rename_i hle
      rw [if_pos hle]
      exact xgo_le (fun u vs σ r hq => ih d' u vs σ r (by omega) hq) N N' 0 _ _ _ hN h
    · cases h
end
section
/-! a logic of runs: XR a call's answer, XG an answer from a point on; fuel is hidden -/
def XR (d u : Nat) (vs : List Value) (σ : XS) (r : Option Value × XS) : Prop := ∃ N, xcall N d u vs σ = some r
def XG (d u pc : Nat) (lo : XL) (st : List Value) (σ : XS) (r : Option Value × XS) : Prop := ∃ N n, xgo (xcall N d) u n pc lo st σ = some r
theorem XR.of {d u : Nat} {vs : List Value} {lo : XL} {σ : XS} {r : Option Value × XS} (hle : vs.length ≤ (xM u).2.2.2.1) (hlo : vs.map some ++ List.replicate ((xM u).2.2.2.1 - vs.length) none = lo) (h : XG d u 0 lo [] σ r) : XR (d + 1) u vs σ r := by
  obtain ⟨N, n, h⟩ := h
  subst hlo
  refine ⟨max N n, ?_⟩
  unfold xcall
  rw [if_pos hle]
  exact xgo_le (fun u vs σ r hq => xcall_le (Nat.le_max_left _ _) d d u vs σ r (Nat.le_refl _) hq) n _ 0 _ _ _ (Nat.le_max_right _ _) h
theorem XR.le {d d' u : Nat} {vs : List Value} {σ : XS} {r : Option Value × XS} (hd : d ≤ d') (h : XR d u vs σ r) : XR d' u vs σ r := by
  obtain ⟨N, h⟩ := h
  exact ⟨N, xcall_le (Nat.le_refl _) d d' u vs σ r hd h⟩
/-- plain: neither a call nor a return -/
def xpl (i : Instr) : Bool := match i with
  | .ireturn | .areturn | .return_ | .invokevirtual _ | .invokestatic _ | .invokespecial _ => false
  | _ => true
theorem xgo_plain {call : Nat → List Value → XS → XO} {u n pc len : Nat} {i : Instr} {lo : XL} {st : List Value} {σ : XS} (hi : xIn u pc = some (i, len)) (hp : xpl i = true) : xgo call u (n + 1) pc lo st σ = xst (xM u).1 (xini u) pc i lo st σ (fun pc' lo' st' σ' => xgo call u n pc' lo' st' σ') := by
  conv => lhs; unfold xgo
  rw [hi]
  cases i <;> first
    | rfl
    | exact absurd hp Bool.false_ne_true
/-- an instruction with one way on -/
theorem xg_step {d u pc len pc' : Nat} {i : Instr} {lo lo' : XL} {st st' : List Value} {σ σ' : XS} {r : Option Value × XS} (hi : xIn u pc = some (i, len)) (hp : xpl i = true) (he : ∀ k : Nat → XL → List Value → XS → XO, xst (xM u).1 (xini u) pc i lo st σ k = k pc' lo' st' σ') (h : XG d u pc' lo' st' σ' r) : XG d u pc lo st σ r := by
  obtain ⟨N, n, h⟩ := h
  exact ⟨N, n + 1, by rw [xgo_plain hi hp, he]; exact h⟩
/-- an instruction with two ways on -/
theorem xg_if {d u pc len pc1 pc2 : Nat} {i : Instr} {lo : XL} {st st' : List Value} {σ : XS} {r : Option Value × XS} {c : Prop} [Decidable c] (hi : xIn u pc = some (i, len)) (hp : xpl i = true) (he : ∀ k : Nat → XL → List Value → XS → XO, xst (xM u).1 (xini u) pc i lo st σ k = if c then k pc1 lo st' σ else k pc2 lo st' σ) (h1 : c → XG d u pc1 lo st' σ r) (h2 : ¬ c → XG d u pc2 lo st' σ r) : XG d u pc lo st σ r := by
  by_cases hc : c
  · exact xg_step hi hp (fun k => by rw [he, if_pos hc]) (h1 hc)
  · exact xg_step hi hp (fun k => by rw [he, if_neg hc]) (h2 hc)
theorem xg_ireturn {d u pc len : Nat} {x : Int32} {lo : XL} {σ : XS} {ty : FieldType} (hi : xIn u pc = some (.ireturn, len)) (ht : (xM u).2.2.2.2 = some ty) (hf : xfit ty (.int x) = true) : XG d u pc lo [.int x] σ (some (.int x), σ) := by
  refine ⟨0, 1, ?_⟩
  unfold xgo
  rw [hi]
  dsimp only
  rw [ht]
  dsimp only
  rw [if_pos hf]
theorem xg_areturn {d u pc len a : Nat} {lo : XL} {σ : XS} {ty : FieldType} (hi : xIn u pc = some (.areturn, len)) (ht : (xM u).2.2.2.2 = some ty) (hf : xfit ty (.ref a) = true) : XG d u pc lo [.ref a] σ (some (.ref a), σ) := by
  refine ⟨0, 1, ?_⟩
  unfold xgo
  rw [hi]
  dsimp only
  rw [ht]
  dsimp only
  rw [if_pos hf]
theorem xg_return {d u pc len : Nat} {lo : XL} {σ : XS} (hi : xIn u pc = some (.return_, len)) (ht : (xM u).2.2.2.2 = none) : XG d u pc lo [] σ (none, σ) := by
  refine ⟨0, 1, ?_⟩
  unfold xgo
  rw [hi]
  dsimp only
  rw [if_pos ht]
/-- a call: the way on, in terms of the callee's answer -/
theorem xg_call {d u pc len j vk u' : Nat} {i : Instr} {lo : XL} {st st' vs : List Value} {σ σ1 : XS} {rv : Option Value} {r : Option Value × XS} (hi : xIn u pc = some (i, len)) (hv : (vk = 0 ∧ i = .invokevirtual j) ∨ (vk = 1 ∧ i = .invokestatic j) ∨ (vk = 2 ∧ i = .invokespecial j)) (hc : XR d u' vs σ (rv, σ1))
    (he : ∀ (call : Nat → List Value → XS → XO) (k : List Value → XS → XO), call u' vs σ = some (rv, σ1) → xinv call (xM u).1 j vk st σ k = k st' σ1) (h : XG d u (pc + 3) lo st' σ1 r) : XG d u pc lo st σ r := by
  obtain ⟨N1, h1⟩ := hc
  obtain ⟨N2, n, h2⟩ := h
  have q1 := xcall_le (Nat.le_max_left N1 N2) d d u' vs σ (rv, σ1) (Nat.le_refl _) h1
  have q2 := xgo_le (call' := xcall (max N1 N2) d) (fun u vs σ r hq => xcall_le (Nat.le_max_right N1 N2) d d u vs σ r (Nat.le_refl _) hq) n n _ _ _ _ (Nat.le_refl _) h2
  refine ⟨max N1 N2, n + 1, ?_⟩
  unfold xgo
  rw [hi]
  rcases hv with ⟨rfl, rfl⟩ | ⟨rfl, rfl⟩ | ⟨rfl, rfl⟩
  · dsimp only
    rw [he _ _ q1]
    exact q2
  · dsimp only
    rw [he _ _ q1]
    exact q2
  · dsimp only
    rw [he _ _ q1]
    exact q2
set_option maxRecDepth 10000 in
/-- a first run: CountedHouse.leaderOf -/
theorem xr_leaderOf {d : Nat} {v : Int32} {σ : XS} : XR (d + 1) 99 [.int v] σ (some (.int (v - v / 3 * 3)), σ) := by
  refine XR.of (Nat.le_of_ble_eq_true rfl) rfl ?_
  refine xg_step rfl rfl (fun k => rfl) ?_
  refine xg_step rfl rfl (fun k => rfl) ?_
  refine xg_step rfl rfl (fun k => rfl) ?_
  exact xg_ireturn rfl rfl rfl
section XGH
variable {d u pc len a : Nat} {lo : XL} {st : List Value} {σ : XS} {r : Option Value × XS}
theorem xg_get {j ci kf : Nat} {nest : Bool} {fs : List Value} {v : Value} (hi : xIn u pc = some (.getfield j, len)) (hF : xF (xM u).1 j = some (ci, kf, nest)) (ha : a < σ.1) (hf : σ.2.2 a = .inl (ci, fs)) (hv : fs[kf]? = some v) (hiv : xiv v = true) (h : XG d u (pc + 3) lo (v :: st) σ r) : XG d u pc lo (.ref a :: st) σ r := by
  refine xg_step hi rfl (fun k => ?_) h
  simp only [xst, hF, ha, hf, hv, hiv, if_true]
theorem xg_put {j ci kf : Nat} {nest : Bool} {fs : List Value} {v : Value} (hi : xIn u pc = some (.putfield j, len)) (hF : xF (xM u).1 j = some (ci, kf, nest)) (ha : a < σ.1) (hf : σ.2.2 a = .inl (ci, fs)) (hl : kf < fs.length) (hp : xput (xM u).1 (xini u) ci kf nest = true) (hfit : xfit (xFty ci kf) v = true) (h : XG d u (pc + 3) lo st (σ.1, σ.2.1, va_up σ.2.2 a (.inl (ci, fs.set kf v))) r) : XG d u pc lo (v :: .ref a :: st) σ r := by
  refine xg_step hi rfl (fun k => ?_) h
  simp only [xst, hF, ha, hf, hl, hp, hfit, and_self, if_true]
theorem xg_iald {i : Int32} {n : Nat} {g : Nat → Int32} (hi : xIn u pc = some (.iaload, len)) (ha : a < σ.1) (hf : σ.2.2 a = .inr (0, n, .inl g)) (hin : vp_in i n) (h : XG d u (pc + 1) lo (.int (g i.toNatClampNeg) :: st) σ r) : XG d u pc lo (.int i :: .ref a :: st) σ r := by
  refine xg_step hi rfl (fun k => ?_) h
  simp only [xst, ha, hf, if_true]
  exact if_neg hin
theorem xg_zald {i : Int32} {n : Nat} {g : Nat → Int32} (hi : xIn u pc = some (.baload, len)) (ha : a < σ.1) (hf : σ.2.2 a = .inr (1, n, .inl g)) (hin : vp_in i n) (h : XG d u (pc + 1) lo (.int (g i.toNatClampNeg) :: st) σ r) : XG d u pc lo (.int i :: .ref a :: st) σ r := by
  refine xg_step hi rfl (fun k => ?_) h
  simp only [xst, ha, hf, if_true]
  exact if_neg hin
theorem xg_iast {i x : Int32} {n : Nat} {g : Nat → Int32} (hi : xIn u pc = some (.iastore, len)) (ha : a < σ.1) (hf : σ.2.2 a = .inr (0, n, .inl g)) (hin : vp_in i n) (h : XG d u (pc + 1) lo st (σ.1, σ.2.1, va_up σ.2.2 a (.inr (0, n, .inl (upd g i.toNatClampNeg x)))) r) : XG d u pc lo (.int x :: .int i :: .ref a :: st) σ r := by
  refine xg_step hi rfl (fun k => ?_) h
  simp only [xst, ha, hf, if_true]
  exact if_neg hin
theorem xg_zast {i x : Int32} {n : Nat} {g : Nat → Int32} (hi : xIn u pc = some (.bastore, len)) (ha : a < σ.1) (hf : σ.2.2 a = .inr (1, n, .inl g)) (hin : vp_in i n) (h : XG d u (pc + 1) lo st (σ.1, σ.2.1, va_up σ.2.2 a (.inr (1, n, .inl (upd g i.toNatClampNeg (vp_nar .boolean x))))) r) : XG d u pc lo (.int x :: .int i :: .ref a :: st) σ r := by
  refine xg_step hi rfl (fun k => ?_) h
  simp only [xst, ha, hf, if_true]
  exact if_neg hin
end XGH
set_option maxRecDepth 10000 in
/-- a run with a heap and branches: CountedHouse$Counter.has -/
theorem xr_Counter_has {d a : Nat} {k cnt gc : Int32} {ar : Value} {σ : XS} (ha : a < σ.1) (hf : σ.2.2 a = .inl (3, [ar, .int cnt, .int gc])) : XR (d + 1) 19 [.ref a, .int k] σ (some (.int (if k < 1 then 0 else if cnt < k then 0 else 1)), σ) := by
  refine XR.of (Nat.le_of_ble_eq_true rfl) rfl ?_
  refine xg_step rfl rfl (fun k => rfl) ?_
  refine xg_step rfl rfl (fun k => rfl) ?_
  refine xg_if (c := k < 1) rfl rfl (fun k => rfl) (fun hc => ?_) (fun hc => ?_)
  · rw [if_pos hc]
    refine xg_step rfl rfl (fun k => rfl) ?_
    exact xg_ireturn rfl rfl rfl
  · rw [if_neg hc]
    refine xg_step rfl rfl (fun k => rfl) ?_
    refine xg_step rfl rfl (fun k => rfl) ?_
    refine xg_get rfl rfl ha hf rfl rfl ?_
    refine xg_if (c := cnt < k) rfl rfl (fun k => rfl) (fun hc => ?_) (fun hc => ?_)
    · rw [if_pos hc]
      refine xg_step rfl rfl (fun k => rfl) ?_
      exact xg_ireturn rfl rfl rfl
    · rw [if_neg hc]
      refine xg_step rfl rfl (fun k => rfl) ?_
      refine xg_step rfl rfl (fun k => rfl) ?_
      exact xg_ireturn rfl rfl rfl
end
section
/-! runs of leaves -/
set_option maxRecDepth 10000 in
theorem xr_pairOf {d : Nat} {s k : Int32} {σ : XS} : XR (d + 1) 100 [.int s, .int k] σ (some (.int (k * 3 + s)), σ) := by
  refine XR.of (Nat.le_of_ble_eq_true rfl) rfl ?_
  iterate 5 refine xg_step rfl rfl (fun k => rfl) ?_
  exact xg_ireturn rfl rfl rfl
set_option maxRecDepth 10000 in
theorem xr_serverOf {d : Nat} {v : Int32} {σ : XS} : XR (d + 1) 101 [.int v] σ (some (.int (v - v / 3 * 3)), σ) := by
  refine XR.of (Nat.le_of_ble_eq_true rfl) rfl ?_
  iterate 3 refine xg_step rfl rfl (fun k => rfl) ?_
  exact xg_ireturn rfl rfl rfl
set_option maxRecDepth 10000 in
theorem xr_numberOf {d : Nat} {v : Int32} {σ : XS} : XR (d + 1) 102 [.int v] σ (some (.int (v / 3)), σ) := by
  refine XR.of (Nat.le_of_ble_eq_true rfl) rfl ?_
  iterate 3 refine xg_step rfl rfl (fun k => rfl) ?_
  exact xg_ireturn rfl rfl rfl
set_option maxRecDepth 10000 in
theorem xr_at {d : Nat} {s k : Int32} {σ : XS} : XR (d + 1) 106 [.int s, .int k] σ (some (.int (101 * s + k)), σ) := by
  refine XR.of (Nat.le_of_ble_eq_true rfl) rfl ?_
  iterate 5 refine xg_step rfl rfl (fun k => rfl) ?_
  exact xg_ireturn rfl rfl rfl
set_option maxRecDepth 10000 in
theorem xr_Requests_has {d a : Nat} {k cnt : Int32} {f0 f1 f2 f3 f4 f5 : Value} {σ : XS} (ha : a < σ.1) (hf : σ.2.2 a = .inl (5, [f0, f1, f2, f3, f4, f5, .int cnt])) : XR (d + 1) 35 [.ref a, .int k] σ (some (.int (if k < 0 then 0 else if k < cnt then 1 else 0)), σ) := by
  refine XR.of (Nat.le_of_ble_eq_true rfl) rfl ?_
  refine xg_step rfl rfl (fun k => rfl) ?_
  refine xg_if (c := k < 0) rfl rfl (fun k => rfl) (fun hc => ?_) (fun hc => ?_)
  · rw [if_pos hc]
    refine xg_step rfl rfl (fun k => rfl) ?_
    exact xg_ireturn rfl rfl rfl
  · rw [if_neg hc]
    iterate 2 refine xg_step rfl rfl (fun k => rfl) ?_
    refine xg_get rfl rfl ha hf rfl rfl ?_
    refine xg_if (c := k < cnt) rfl rfl (fun k => rfl) (fun hc => ?_) (fun hc => ?_)
    · rw [if_pos hc]
      iterate 2 refine xg_step rfl rfl (fun k => rfl) ?_
      exact xg_ireturn rfl rfl rfl
    · rw [if_neg hc]
      refine xg_step rfl rfl (fun k => rfl) ?_
      exact xg_ireturn rfl rfl rfl
set_option maxRecDepth 10000 in
theorem xr_Requests_isFull {d a : Nat} {cnt : Int32} {f0 f1 f2 f3 f4 f5 : Value} {σ : XS} (ha : a < σ.1) (hf : σ.2.2 a = .inl (5, [f0, f1, f2, f3, f4, f5, .int cnt])) : XR (d + 1) 34 [.ref a] σ (some (.int (if cnt < 60 then 0 else 1)), σ) := by
  refine XR.of (Nat.le_of_ble_eq_true rfl) rfl ?_
  refine xg_step rfl rfl (fun k => rfl) ?_
  refine xg_get rfl rfl ha hf rfl rfl ?_
  refine xg_step rfl rfl (fun k => rfl) ?_
  refine xg_if (c := cnt < 60) rfl rfl (fun k => rfl) (fun hc => ?_) (fun hc => ?_)
  · rw [if_pos hc]
    refine xg_step rfl rfl (fun k => rfl) ?_
    exact xg_ireturn rfl rfl rfl
  · rw [if_neg hc]
    iterate 2 refine xg_step rfl rfl (fun k => rfl) ?_
    exact xg_ireturn rfl rfl rfl
end
