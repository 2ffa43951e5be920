section
def lw_okq (q : MethodName × Nat) : Prop := (q.1.cls ≠ "java/lang/invoke/MethodHandle" ∧ q.1.cls ≠ "java/lang/invoke/VarHandle") ∧ Cond.instantiable q.1.cls q.2 ∈ tables_1 ∧ Cond.privateMethod q.1 ∈ tables_1 ∧ Cond.instanceMethod q.1 ∈ tables_1
theorem lw_p0 : lw_okq (⟨"ChannelRows", "forgetAll", "()V"⟩, 8) := ⟨⟨by decide +kernel, by decide +kernel⟩, List.mem_of_getElem? (i := 17) (by decide +kernel), List.mem_of_getElem? (i := 100) (by decide +kernel), List.mem_of_getElem? (i := 101) (by decide +kernel)⟩
theorem lw_p1 : lw_okq (⟨"java/lang/Throwable", "fillInStackTrace", "(I)Ljava/lang/Throwable;"⟩, 6) := ⟨⟨by decide +kernel, by decide +kernel⟩, List.mem_of_getElem? (i := 180) (by decide +kernel), List.mem_of_getElem? (i := 178) (by decide +kernel), List.mem_of_getElem? (i := 179) (by decide +kernel)⟩
theorem lw_p2 : lw_okq (⟨"ChannelRows", "place", "(LChannelRows$Stations;IIII)I"⟩, 8) := ⟨⟨by decide +kernel, by decide +kernel⟩, List.mem_of_getElem? (i := 17) (by decide +kernel), List.mem_of_getElem? (i := 235) (by decide +kernel), List.mem_of_getElem? (i := 236) (by decide +kernel)⟩
theorem lw_p3 : lw_okq (⟨"ChannelRows", "needPlace", "(III)V"⟩, 8) := ⟨⟨by decide +kernel, by decide +kernel⟩, List.mem_of_getElem? (i := 17) (by decide +kernel), List.mem_of_getElem? (i := 239) (by decide +kernel), List.mem_of_getElem? (i := 240) (by decide +kernel)⟩
theorem lw_p4 : lw_okq (⟨"ChannelRows", "isChannel", "(I)Z"⟩, 8) := ⟨⟨by decide +kernel, by decide +kernel⟩, List.mem_of_getElem? (i := 17) (by decide +kernel), List.mem_of_getElem? (i := 259) (by decide +kernel), List.mem_of_getElem? (i := 260) (by decide +kernel)⟩
theorem lw_p5 : lw_okq (⟨"ChannelRows", "needUnit", "(I)V"⟩, 8) := ⟨⟨by decide +kernel, by decide +kernel⟩, List.mem_of_getElem? (i := 17) (by decide +kernel), List.mem_of_getElem? (i := 300) (by decide +kernel), List.mem_of_getElem? (i := 301) (by decide +kernel)⟩
theorem lw_p6 : lw_okq (⟨"ChannelRows", "areJoined", "(II)Z"⟩, 8) := ⟨⟨by decide +kernel, by decide +kernel⟩, List.mem_of_getElem? (i := 17) (by decide +kernel), List.mem_of_getElem? (i := 321) (by decide +kernel), List.mem_of_getElem? (i := 322) (by decide +kernel)⟩
theorem lw_p7 : lw_okq (⟨"ChannelRows", "joinGroups", "(II)V"⟩, 8) := ⟨⟨by decide +kernel, by decide +kernel⟩, List.mem_of_getElem? (i := 17) (by decide +kernel), List.mem_of_getElem? (i := 325) (by decide +kernel), List.mem_of_getElem? (i := 326) (by decide +kernel)⟩
theorem lw_p8 : lw_okq (⟨"ChannelRows", "planAll", "()V"⟩, 8) := ⟨⟨by decide +kernel, by decide +kernel⟩, List.mem_of_getElem? (i := 17) (by decide +kernel), List.mem_of_getElem? (i := 329) (by decide +kernel), List.mem_of_getElem? (i := 330) (by decide +kernel)⟩
theorem lw_p9 : lw_okq (⟨"ChannelRows", "plan", "(I)V"⟩, 8) := ⟨⟨by decide +kernel, by decide +kernel⟩, List.mem_of_getElem? (i := 17) (by decide +kernel), List.mem_of_getElem? (i := 336) (by decide +kernel), List.mem_of_getElem? (i := 337) (by decide +kernel)⟩
theorem lw_p10 : lw_okq (⟨"ChannelRows", "meetsItsBetter", "(I)Z"⟩, 8) := ⟨⟨by decide +kernel, by decide +kernel⟩, List.mem_of_getElem? (i := 17) (by decide +kernel), List.mem_of_getElem? (i := 340) (by decide +kernel), List.mem_of_getElem? (i := 341) (by decide +kernel)⟩
theorem lw_p11 : lw_okq (⟨"ChannelRows", "keepsFromCalling", "(II)Z"⟩, 8) := ⟨⟨by decide +kernel, by decide +kernel⟩, List.mem_of_getElem? (i := 17) (by decide +kernel), List.mem_of_getElem? (i := 348) (by decide +kernel), List.mem_of_getElem? (i := 349) (by decide +kernel)⟩
theorem lw_p12 : lw_okq (⟨"ChannelRows", "putOn", "(II)V"⟩, 8) := ⟨⟨by decide +kernel, by decide +kernel⟩, List.mem_of_getElem? (i := 17) (by decide +kernel), List.mem_of_getElem? (i := 364) (by decide +kernel), List.mem_of_getElem? (i := 365) (by decide +kernel)⟩
theorem lw_p13 : lw_okq (⟨"ChannelRows", "needBegin", "(II)V"⟩, 8) := ⟨⟨by decide +kernel, by decide +kernel⟩, List.mem_of_getElem? (i := 17) (by decide +kernel), List.mem_of_getElem? (i := 392) (by decide +kernel), List.mem_of_getElem? (i := 393) (by decide +kernel)⟩
theorem lw_p14 : lw_okq (⟨"ChannelRows", "isSlot", "(I)Z"⟩, 8) := ⟨⟨by decide +kernel, by decide +kernel⟩, List.mem_of_getElem? (i := 17) (by decide +kernel), List.mem_of_getElem? (i := 396) (by decide +kernel), List.mem_of_getElem? (i := 397) (by decide +kernel)⟩
theorem lw_p15 : lw_okq (⟨"ChannelRows", "needFreeBegin", "(II)V"⟩, 8) := ⟨⟨by decide +kernel, by decide +kernel⟩, List.mem_of_getElem? (i := 17) (by decide +kernel), List.mem_of_getElem? (i := 403) (by decide +kernel), List.mem_of_getElem? (i := 404) (by decide +kernel)⟩
def lw_privs_1 : List (MethodName × Nat) := [(⟨"ChannelRows", "forgetAll", "()V"⟩, 8), (⟨"java/lang/Throwable", "fillInStackTrace", "(I)Ljava/lang/Throwable;"⟩, 6), (⟨"ChannelRows", "place", "(LChannelRows$Stations;IIII)I"⟩, 8), (⟨"ChannelRows", "needPlace", "(III)V"⟩, 8), (⟨"ChannelRows", "isChannel", "(I)Z"⟩, 8), (⟨"ChannelRows", "needUnit", "(I)V"⟩, 8), (⟨"ChannelRows", "areJoined", "(II)Z"⟩, 8), (⟨"ChannelRows", "joinGroups", "(II)V"⟩, 8), (⟨"ChannelRows", "planAll", "()V"⟩, 8), (⟨"ChannelRows", "plan", "(I)V"⟩, 8), (⟨"ChannelRows", "meetsItsBetter", "(I)Z"⟩, 8), (⟨"ChannelRows", "keepsFromCalling", "(II)Z"⟩, 8), (⟨"ChannelRows", "putOn", "(II)V"⟩, 8), (⟨"ChannelRows", "needBegin", "(II)V"⟩, 8), (⟨"ChannelRows", "isSlot", "(I)Z"⟩, 8), (⟨"ChannelRows", "needFreeBegin", "(II)V"⟩, 8)]
theorem lw_r1 : ∀ q ∈ lw_privs_1, lw_okq q := List.forall_mem_cons.mpr ⟨lw_p0, List.forall_mem_cons.mpr ⟨lw_p1, List.forall_mem_cons.mpr ⟨lw_p2, List.forall_mem_cons.mpr ⟨lw_p3, List.forall_mem_cons.mpr ⟨lw_p4, List.forall_mem_cons.mpr ⟨lw_p5, List.forall_mem_cons.mpr ⟨lw_p6, List.forall_mem_cons.mpr ⟨lw_p7, List.forall_mem_cons.mpr ⟨lw_p8, List.forall_mem_cons.mpr ⟨lw_p9, List.forall_mem_cons.mpr ⟨lw_p10, List.forall_mem_cons.mpr ⟨lw_p11, List.forall_mem_cons.mpr ⟨lw_p12, List.forall_mem_cons.mpr ⟨lw_p13, List.forall_mem_cons.mpr ⟨lw_p14, List.forall_mem_cons.mpr ⟨lw_p15, fun _ h => absurd h List.not_mem_nil⟩⟩⟩⟩⟩⟩⟩⟩⟩⟩⟩⟩⟩⟩⟩⟩
theorem lw_p16 : lw_okq (⟨"ChannelRows", "needRoomForMessage", "()V"⟩, 8) := ⟨⟨by decide +kernel, by decide +kernel⟩, List.mem_of_getElem? (i := 17) (by decide +kernel), List.mem_of_getElem? (i := 427) (by decide +kernel), List.mem_of_getElem? (i := 428) (by decide +kernel)⟩
theorem lw_p17 : lw_okq (⟨"ChannelRows", "tell", "(IIII)I"⟩, 8) := ⟨⟨by decide +kernel, by decide +kernel⟩, List.mem_of_getElem? (i := 17) (by decide +kernel), List.mem_of_getElem? (i := 432) (by decide +kernel), List.mem_of_getElem? (i := 433) (by decide +kernel)⟩
theorem lw_p18 : lw_okq (⟨"ChannelRows", "needMessage", "(I)V"⟩, 8) := ⟨⟨by decide +kernel, by decide +kernel⟩, List.mem_of_getElem? (i := 17) (by decide +kernel), List.mem_of_getElem? (i := 447) (by decide +kernel), List.mem_of_getElem? (i := 448) (by decide +kernel)⟩
theorem lw_p19 : lw_okq (⟨"ChannelRows", "heardAllSlots", "(II)Z"⟩, 8) := ⟨⟨by decide +kernel, by decide +kernel⟩, List.mem_of_getElem? (i := 17) (by decide +kernel), List.mem_of_getElem? (i := 452) (by decide +kernel), List.mem_of_getElem? (i := 453) (by decide +kernel)⟩
theorem lw_p20 : lw_okq (⟨"ChannelRows", "receives", "(II)Z"⟩, 8) := ⟨⟨by decide +kernel, by decide +kernel⟩, List.mem_of_getElem? (i := 17) (by decide +kernel), List.mem_of_getElem? (i := 456) (by decide +kernel), List.mem_of_getElem? (i := 457) (by decide +kernel)⟩
theorem lw_p21 : lw_okq (⟨"ChannelRows", "listensTo", "(II)Z"⟩, 8) := ⟨⟨by decide +kernel, by decide +kernel⟩, List.mem_of_getElem? (i := 17) (by decide +kernel), List.mem_of_getElem? (i := 460) (by decide +kernel), List.mem_of_getElem? (i := 461) (by decide +kernel)⟩
theorem lw_p22 : lw_okq (⟨"ChannelRows", "receivesByRepeater", "(II)Z"⟩, 8) := ⟨⟨by decide +kernel, by decide +kernel⟩, List.mem_of_getElem? (i := 17) (by decide +kernel), List.mem_of_getElem? (i := 468) (by decide +kernel), List.mem_of_getElem? (i := 469) (by decide +kernel)⟩
theorem lw_p23 : lw_okq (⟨"ChannelRows", "hasNoise", "(I)Z"⟩, 8) := ⟨⟨by decide +kernel, by decide +kernel⟩, List.mem_of_getElem? (i := 17) (by decide +kernel), List.mem_of_getElem? (i := 472) (by decide +kernel), List.mem_of_getElem? (i := 473) (by decide +kernel)⟩
theorem lw_p24 : lw_okq (⟨"ChannelRows", "needSlot", "(I)V"⟩, 8) := ⟨⟨by decide +kernel, by decide +kernel⟩, List.mem_of_getElem? (i := 17) (by decide +kernel), List.mem_of_getElem? (i := 488) (by decide +kernel), List.mem_of_getElem? (i := 489) (by decide +kernel)⟩
theorem lw_p25 : lw_okq (⟨"ChannelRows", "messageOn", "(II)I"⟩, 8) := ⟨⟨by decide +kernel, by decide +kernel⟩, List.mem_of_getElem? (i := 17) (by decide +kernel), List.mem_of_getElem? (i := 517) (by decide +kernel), List.mem_of_getElem? (i := 518) (by decide +kernel)⟩
theorem lw_p26 : lw_okq (⟨"ChannelRows", "needChannel", "(I)V"⟩, 8) := ⟨⟨by decide +kernel, by decide +kernel⟩, List.mem_of_getElem? (i := 17) (by decide +kernel), List.mem_of_getElem? (i := 532) (by decide +kernel), List.mem_of_getElem? (i := 533) (by decide +kernel)⟩
theorem lw_p27 : lw_okq (⟨"ChannelRows", "missed", "(II)Z"⟩, 8) := ⟨⟨by decide +kernel, by decide +kernel⟩, List.mem_of_getElem? (i := 17) (by decide +kernel), List.mem_of_getElem? (i := 559) (by decide +kernel), List.mem_of_getElem? (i := 560) (by decide +kernel)⟩
theorem lw_p28 : lw_okq (⟨"ChannelRowsModel", "goes", "(IZZZZ)Z"⟩, 25) := ⟨⟨by decide +kernel, by decide +kernel⟩, List.mem_of_getElem? (i := 577) (by decide +kernel), List.mem_of_getElem? (i := 667) (by decide +kernel), List.mem_of_getElem? (i := 668) (by decide +kernel)⟩
theorem lw_p29 : lw_okq (⟨"ChannelRowsModel", "isUnit", "(I)Z"⟩, 25) := ⟨⟨by decide +kernel, by decide +kernel⟩, List.mem_of_getElem? (i := 577) (by decide +kernel), List.mem_of_getElem? (i := 688) (by decide +kernel), List.mem_of_getElem? (i := 689) (by decide +kernel)⟩
theorem lw_p30 : lw_okq (⟨"ChannelRowsModel", "isSlot", "(I)Z"⟩, 25) := ⟨⟨by decide +kernel, by decide +kernel⟩, List.mem_of_getElem? (i := 577) (by decide +kernel), List.mem_of_getElem? (i := 708) (by decide +kernel), List.mem_of_getElem? (i := 709) (by decide +kernel)⟩
theorem lw_p31 : lw_okq (⟨"ChannelRowsModel", "begins", "(II)Z"⟩, 25) := ⟨⟨by decide +kernel, by decide +kernel⟩, List.mem_of_getElem? (i := 577) (by decide +kernel), List.mem_of_getElem? (i := 712) (by decide +kernel), List.mem_of_getElem? (i := 713) (by decide +kernel)⟩
def lw_privs_2 : List (MethodName × Nat) := [(⟨"ChannelRows", "needRoomForMessage", "()V"⟩, 8), (⟨"ChannelRows", "tell", "(IIII)I"⟩, 8), (⟨"ChannelRows", "needMessage", "(I)V"⟩, 8), (⟨"ChannelRows", "heardAllSlots", "(II)Z"⟩, 8), (⟨"ChannelRows", "receives", "(II)Z"⟩, 8), (⟨"ChannelRows", "listensTo", "(II)Z"⟩, 8), (⟨"ChannelRows", "receivesByRepeater", "(II)Z"⟩, 8), (⟨"ChannelRows", "hasNoise", "(I)Z"⟩, 8), (⟨"ChannelRows", "needSlot", "(I)V"⟩, 8), (⟨"ChannelRows", "messageOn", "(II)I"⟩, 8), (⟨"ChannelRows", "needChannel", "(I)V"⟩, 8), (⟨"ChannelRows", "missed", "(II)Z"⟩, 8), (⟨"ChannelRowsModel", "goes", "(IZZZZ)Z"⟩, 25), (⟨"ChannelRowsModel", "isUnit", "(I)Z"⟩, 25), (⟨"ChannelRowsModel", "isSlot", "(I)Z"⟩, 25), (⟨"ChannelRowsModel", "begins", "(II)Z"⟩, 25)]
theorem lw_r2 : ∀ q ∈ lw_privs_2, lw_okq q := List.forall_mem_cons.mpr ⟨lw_p16, List.forall_mem_cons.mpr ⟨lw_p17, List.forall_mem_cons.mpr ⟨lw_p18, List.forall_mem_cons.mpr ⟨lw_p19, List.forall_mem_cons.mpr ⟨lw_p20, List.forall_mem_cons.mpr ⟨lw_p21, List.forall_mem_cons.mpr ⟨lw_p22, List.forall_mem_cons.mpr ⟨lw_p23, List.forall_mem_cons.mpr ⟨lw_p24, List.forall_mem_cons.mpr ⟨lw_p25, List.forall_mem_cons.mpr ⟨lw_p26, List.forall_mem_cons.mpr ⟨lw_p27, List.forall_mem_cons.mpr ⟨lw_p28, List.forall_mem_cons.mpr ⟨lw_p29, List.forall_mem_cons.mpr ⟨lw_p30, List.forall_mem_cons.mpr ⟨lw_p31, fun _ h => absurd h List.not_mem_nil⟩⟩⟩⟩⟩⟩⟩⟩⟩⟩⟩⟩⟩⟩⟩⟩
theorem lw_p32 : lw_okq (⟨"ChannelRowsModel", "add", "(IIII)I"⟩, 25) := ⟨⟨by decide +kernel, by decide +kernel⟩, List.mem_of_getElem? (i := 577) (by decide +kernel), List.mem_of_getElem? (i := 716) (by decide +kernel), List.mem_of_getElem? (i := 717) (by decide +kernel)⟩
theorem lw_p33 : lw_okq (⟨"ChannelRowsModel", "isMessage", "(I)Z"⟩, 25) := ⟨⟨by decide +kernel, by decide +kernel⟩, List.mem_of_getElem? (i := 577) (by decide +kernel), List.mem_of_getElem? (i := 724) (by decide +kernel), List.mem_of_getElem? (i := 725) (by decide +kernel)⟩
theorem lw_p34 : lw_okq (⟨"ChannelRowsModel", "heardAll", "(II)Z"⟩, 25) := ⟨⟨by decide +kernel, by decide +kernel⟩, List.mem_of_getElem? (i := 577) (by decide +kernel), List.mem_of_getElem? (i := 728) (by decide +kernel), List.mem_of_getElem? (i := 729) (by decide +kernel)⟩
theorem lw_p35 : lw_okq (⟨"ChannelRowsModel", "day0", "(I)V"⟩, 25) := ⟨⟨by decide +kernel, by decide +kernel⟩, List.mem_of_getElem? (i := 577) (by decide +kernel), List.mem_of_getElem? (i := 732) (by decide +kernel), List.mem_of_getElem? (i := 733) (by decide +kernel)⟩
theorem lw_p36 : lw_okq (⟨"ChannelRowsModel", "caller", "(II)I"⟩, 25) := ⟨⟨by decide +kernel, by decide +kernel⟩, List.mem_of_getElem? (i := 577) (by decide +kernel), List.mem_of_getElem? (i := 736) (by decide +kernel), List.mem_of_getElem? (i := 737) (by decide +kernel)⟩
theorem lw_p37 : lw_okq (⟨"ChannelRowsModel", "most", "(I)I"⟩, 25) := ⟨⟨by decide +kernel, by decide +kernel⟩, List.mem_of_getElem? (i := 577) (by decide +kernel), List.mem_of_getElem? (i := 740) (by decide +kernel), List.mem_of_getElem? (i := 741) (by decide +kernel)⟩
theorem lw_p38 : lw_okq (⟨"ChannelRowsModel", "endOf", "(I)I"⟩, 25) := ⟨⟨by decide +kernel, by decide +kernel⟩, List.mem_of_getElem? (i := 577) (by decide +kernel), List.mem_of_getElem? (i := 744) (by decide +kernel), List.mem_of_getElem? (i := 745) (by decide +kernel)⟩
theorem lw_p39 : lw_okq (⟨"ChannelRowsModel", "gets", "(II)Z"⟩, 25) := ⟨⟨by decide +kernel, by decide +kernel⟩, List.mem_of_getElem? (i := 577) (by decide +kernel), List.mem_of_getElem? (i := 748) (by decide +kernel), List.mem_of_getElem? (i := 749) (by decide +kernel)⟩
theorem lw_p40 : lw_okq (⟨"ChannelRowsModel", "reaches", "(III)Z"⟩, 25) := ⟨⟨by decide +kernel, by decide +kernel⟩, List.mem_of_getElem? (i := 577) (by decide +kernel), List.mem_of_getElem? (i := 752) (by decide +kernel), List.mem_of_getElem? (i := 753) (by decide +kernel)⟩
def lw_privs_3 : List (MethodName × Nat) := [(⟨"ChannelRowsModel", "add", "(IIII)I"⟩, 25), (⟨"ChannelRowsModel", "isMessage", "(I)Z"⟩, 25), (⟨"ChannelRowsModel", "heardAll", "(II)Z"⟩, 25), (⟨"ChannelRowsModel", "day0", "(I)V"⟩, 25), (⟨"ChannelRowsModel", "caller", "(II)I"⟩, 25), (⟨"ChannelRowsModel", "most", "(I)I"⟩, 25), (⟨"ChannelRowsModel", "endOf", "(I)I"⟩, 25), (⟨"ChannelRowsModel", "gets", "(II)Z"⟩, 25), (⟨"ChannelRowsModel", "reaches", "(III)Z"⟩, 25)]
theorem lw_r3 : ∀ q ∈ lw_privs_3, lw_okq q := List.forall_mem_cons.mpr ⟨lw_p32, List.forall_mem_cons.mpr ⟨lw_p33, List.forall_mem_cons.mpr ⟨lw_p34, List.forall_mem_cons.mpr ⟨lw_p35, List.forall_mem_cons.mpr ⟨lw_p36, List.forall_mem_cons.mpr ⟨lw_p37, List.forall_mem_cons.mpr ⟨lw_p38, List.forall_mem_cons.mpr ⟨lw_p39, List.forall_mem_cons.mpr ⟨lw_p40, fun _ h => absurd h List.not_mem_nil⟩⟩⟩⟩⟩⟩⟩⟩⟩
def lw_privs : List (MethodName × Nat) := lw_privs_1 ++ (lw_privs_2 ++ (lw_privs_3))
def lw_tbl : List Cond := k2_sels lw_privs ++ tables_1
theorem lw_privs_ok : ∀ q ∈ lw_privs, lw_okq q := by
  show ∀ q ∈ lw_privs_1 ++ (lw_privs_2 ++ (lw_privs_3)), lw_okq q
  exact List.forall_mem_append.mpr ⟨lw_r1, List.forall_mem_append.mpr ⟨lw_r2, lw_r3⟩⟩
end
section
theorem goodIn_r {big : List Cond} (ws : List Cond) (ps : List Nat) (hp : ws = ps.filterMap (fun i => big[i]?)) (h : ws.all goodWord = true) : GoodIn big ws := by
  intro w hw
  have h1 := List.all_eq_true.mp h w hw
  rw [hp] at hw
  obtain ⟨i, -, hi⟩ := List.mem_filterMap.mp hw
  have hm : w ∈ big := by first | exact List.mem_of_getElem? hi | exact List.getElem?_mem hi
  exact ⟨hm, good_of_word h1⟩
theorem goodIn_app {big a b : List Cond} (ha : GoodIn big a) (hb : GoodIn big b) : GoodIn big (a ++ b) := fun w h => (List.mem_append.mp h).elim (ha w) (hb w)
theorem goodIn_ca {big a b : List Cond} {c : Cond} (ha : GoodIn big (c :: a)) (hb : GoodIn big b) : GoodIn big (c :: (a ++ b)) := fun w h => (List.mem_cons.mp h).elim (fun e => ha w (List.mem_cons.mpr (Or.inl e))) (fun h => (List.mem_append.mp h).elim (fun h => ha w (List.mem_cons.mpr (Or.inr h))) (hb w))
theorem goodIn_sub {big ws : List Cond} (hm : ∀ w ∈ ws, w ∈ big) (h : ws.all goodWord = true) : GoodIn big ws := fun w hw => ⟨hm w hw, good_of_word (List.all_eq_true.mp h w hw)⟩
section VXA
def vx_T (XC : String → State → State → Prop) (st : State) (q : Addr) (t : State) (mc ms : Nat) (free : Addr → Prop) : Prop :=
  ∃ (E : String) (ce : Cell) (L : List Loc), XC E st t ∧ t.heap[q]? = some ce ∧ ce.vm = .none ∧ st.vm.findClass E = some ce.cls ∧ st.WarmedH t.vm ∧ st.sameButNew ({ t with vm := st.vm } : State) L mc ms ∧ ∀ z ∈ L, free z.base
def vx_Q (Qc : Array Value → State → Outcome → State → Prop) (XC : String → State → State → Prop) (mc ms : Nat) (free : Addr → Prop) : Array Value → State → Outcome → State → Prop := fun a st o t =>
  (Qc a st o t ∧ ∃ L, FrameEnd st o t L mc ms ∧ ∀ q ∈ L, free q.base) ∨ ∃ q, o = .threw q ∧ vx_T XC st q t mc ms free
def vx_Met (l : Launch) (y : MethodName) (ws : List Cond) (rm : Room) (Pc : Array Value → State → Prop) (Qc : Array Value → State → Outcome → State → Prop) (XC : String → State → State → Prop) (mc ms : Nat) (free : Addr → Prop) : Prop :=
  MetFree l y (headSpec ws rm) Pc (fun _ _ _ _ _ => True) (vx_Q Qc XC mc ms free)
def vx_Post (XC : String → State → State → Prop) (mc ms : Nat) (free : Addr → Prop) : Pt → Array Value → Addr → Pt → Prop := fun A a q B =>
  ∃ (g : JFrame) (mk : MethodId) (t : State) (L : List Loc) (E : String) (ce : Cell), B.U.heap = t.heap ∧ B.U.vm = t.vm ∧ XC E (A.U.calling g mk a) t ∧ t.heap[q]? = some ce ∧ ce.vm = .none ∧ A.U.vm.findClass E = some ce.cls ∧ B.locs = A.locs ++ L ∧ (∀ z ∈ L, free z.base) ∧ B.cells = A.cells + mc ∧ B.slots = A.slots + ms
def vx_Back (l : Launch) (R : Room) (p : Program) (e : Env) (below : List Frame) (s : State) (sargs : Array Value) (y : MethodName) (len W9 : Nat)
    (Pre : Pt → Array Value → Prop) (Post : Pt → Array Value → Option Value → Pt → Prop) (PostX : Pt → Array Value → Addr → Pt → Prop) : Prop :=
  ∀ (m : MethodId) (meth : Method) (c : Code) (A : Pt) (g : JFrame) (ig : Instr) (mk : MethodId) (a : Array Value),
    Stand p l e R s m sargs below meth c A.U A.locs A.cells A.slots → g.method = m → g.locals.size = c.maxLocals → decode c.code g.pc = .ok (ig, len) →
    2 * g.monitorRoom + (g.stack.map fun v => v.category).sum ≤ W9 → A.U.methodNamed? y = some mk → Pre A a →
    (∃ (v : Option Value) (B : Pt), Stand p l e R s m sargs below meth c B.U B.locs B.cells B.slots ∧ Post A a v B ∧
      Steps p.tables e below (doInvoke e (A.U.setTop g) [] mk a).1 (B.U.setTop { g with pc := g.pc + len, stack := v.toList ++ g.stack })) ∨
    (∃ (q : Addr) (B : Pt), Stand p l e R s m sargs below meth c B.U B.locs B.cells B.slots ∧ PostX A a q B ∧
      Steps p.tables e below (doInvoke e (A.U.setTop g) [] mk a).1 ((B.U.setTop g).pushFrame (.throwing q)))
section Payer
variable {l : Launch} {R : Room} {p : Program} {e : Env} {below : List Frame} {s : State} {sargs : Array Value} {y : MethodName} {len W9 : Nat}
theorem vx_back {ws : List Cond} {rm : Room} {Pc : Array Value → State → Prop} {Qc : Array Value → State → Outcome → State → Prop} {XC : String → State → State → Prop} {mc ms : Nat} {free : Addr → Prop} {bytes : ByteArray} {maxL : Nat} {ret : Option FieldType}
    (hM : vx_Met l y ws rm Pc Qc XC mc ms free) (hblind : FrameBlind Pc) (hrc : rm.cells = mc) (hrs : rm.slots = ms)
    (hframes : rm.frames + 1 ≤ R.frames) (hlocals : W9 + (maxL + 11) + rm.locals ≤ R.locals)
    (hws : ∀ w ∈ ws, ∀ a' U, s.WarmedH U.vm → w.before a' U = true) (hcode : Cond.code y bytes maxL ret ∈ ws) (hinit : ∀ a' U, s.WarmedH U.vm → (Cond.initialized y.cls).before a' U = true) :
    vx_Back l R p e below s sargs y len W9 (PreOf R mc ms Pc) (PostOf Qc mc ms free) (vx_Post XC mc ms free) := by
  intro m meth c A g ig mk a X hg hsize hdg hW hn hp
  have h1 : (headSpec ws rm).pre.before a A.U = true := atoms_intro fun w hw => hws w hw _ _ X.warmed
  have h2 : (Cond.code y bytes maxL ret).before a A.U = true := hws _ hcode _ _ X.warmed
  have h3 : (Cond.initialized y.cls).before a A.U = true := hinit _ _ X.warmed
  have h4 : A.cells + (headSpec ws rm).room.cells ≤ R.cells := by rw [show (headSpec ws rm).room.cells = mc from hrc]; exact hp.1
  have h5 : A.slots + (headSpec ws rm).room.slots ≤ R.slots := by rw [show (headSpec ws rm).room.slots = ms from hrs]; exact hp.2.1
  have hPc : Pc a (A.U.calling g mk a) := hblind _ _ _ _ hp.2.2
  obtain ⟨U, Ls, c0, s0⟩ := A
  dsimp only [Pt.U, Pt.locs, Pt.cells, Pt.slots] at h1 h2 h3 h4 h5 X hn hPc ⊢
  obtain ⟨methY, cY, hmY, hcY, -, hlY, -, -, -, -⟩ := Cond.code_spec hn h2
  obtain ⟨kY, hkY, -⟩ := className_of_methodNamed hn
  have hinitY : kY.init = .initialized := Cond.initialized_spec (findClass_of_methodNamed hn) hkY h3
  have h : At U g.method c below := by rw [hg]; exact X.here
  have hlocals9 : W9 + (maxL + 11) + (headSpec ws rm).room.locals ≤ R.locals := hlocals
  have happ : (headSpec ws rm).appliesLoose y e.platform (U.calling g mk a) = true :=
    Spec.appliesLoose_calling (g := g) h hdg hn hkY hinitY
      (X.room_calling (g := g) (R' := (headSpec ws rm).room) hsize hmY hcY hframes (by rw [hlY]; omega) h4 h5) h1
  obtain ⟨mid, hmid⟩ := h.above
  have hfr : (U.setTop g).frames = (.java g :: mid) ++ below := by rw [State.frames_setTop' g h.top, hmid]; rfl
  obtain ⟨o, s₂, hsteps, -, hend, hq⟩ := Steps.callFree hM p X.admits X.cas X.clock (acts := []) hfr happ hPc trivial
  have hq' : vx_Q Qc XC mc ms free a (U.calling g mk a) o s₂ := hq
  rw [State.frames_setTop' g h.top] at hend
  obtain ⟨g₀, hg0⟩ := Option.isSome_iff_exists.mp h.top
  obtain ⟨r, hr⟩ := State.topJava?_eq_some.mp hg0
  have hr' : (({ U with heap := s₂.heap, slotsUsed := s₂.slotsUsed } : State).setVm s₂.vm).frames = .java g₀ :: r := hr
  rcases hq' with ⟨hqc, L, hfe, hL⟩ | ⟨q, rfl, E, ce, L, hx, hce, hcv, hcl, hW₂, hsm, hL⟩
  · obtain ⟨⟨v, rfl⟩, hW₂, e2, q2, q3, q4, q5, q6⟩ := id hfe
    have e3 : s₂ = ({ (U.calling g mk a).setFrames s₂.frames with heap := s₂.heap, slotsUsed := s₂.slotsUsed } : State).setVm s₂.vm := by
      have : s₂ = ({ s₂ with vm := (U.calling g mk a).vm } : State).setVm s₂.vm := rfl
      rw [e2] at this
      exact this
    obtain ⟨c₂, i₂, len₂, hc₂, hd₂, hf₂⟩ := hend
    have hW' : U.WarmedH s₂.vm := hW₂
    have hcc : c₂ = c := by
      have h1 : s₂.code? g.method = U.code? g.method := by
        rw [State.code?_eq, State.code?_eq, hW'.alike.method?]
      exact Option.some.inj (hc₂.symm.trans (h1.trans h.code))
    subst hcc
    have hlen : len₂ = len := by rw [hdg] at hd₂; cases hd₂; rfl
    subst hlen
    have hs₂ : s₂ = (({ U with heap := s₂.heap, slotsUsed := s₂.slotsUsed } : State).setVm s₂.vm).setTop { g with pc := g.pc + len₂, stack := v.toList ++ g.stack } := by
      refine e3.trans ?_
      rw [hf₂, State.calling_eq h.top, State.setFrames_setFrames, State.setTop_of_frames _ hr', hr]
      rfl
    have hsame : U.sameButNew ({ U with heap := s₂.heap, slotsUsed := s₂.slotsUsed } : State) L mc ms := by
      refine ⟨?_, q2, q3, q4, q5, q6⟩
      obtain ⟨t, ht, -⟩ := State.frames_cons hr
      show ({ U with heap := s₂.heap, slotsUsed := s₂.slotsUsed } : State) = { U.setFrames U.frames with heap := s₂.heap, slotsUsed := s₂.slotsUsed }
      rw [State.setFrames_self ht]
    subst hg
    refine Or.inl ⟨v, ⟨(({ U with heap := s₂.heap, slotsUsed := s₂.slotsUsed } : State).setVm s₂.vm), Ls ++ L, c0 + mc, s0 + ms⟩,
      ⟨X.admits, X.cas, X.clock, X.frames, X.room, X.hears, X.method, X.code, (X.here.setHeapUsed s₂.heap s₂.slotsUsed).setVm hW'.alike, X.tail, State.WarmedH.trans X.warmed hW', X.limits, X.bytes, X.same.trans (hsame.setVm s.vm)⟩,
      ⟨g, mk, s₂, L, rfl, rfl, hqc, rfl, hL, rfl, rfl⟩, ?_⟩
    show Steps p.tables e below _ ((({ U with heap := s₂.heap, slotsUsed := s₂.slotsUsed } : State).setVm s₂.vm).setTop { g with pc := g.pc + len₂, stack := v.toList ++ g.stack })
    rw [← hs₂]
    exact hsteps
  · obtain ⟨e2, q2, q3, q4, q5, q6⟩ := id hsm
    have e3 : s₂ = ({ (U.calling g mk a).setFrames s₂.frames with heap := s₂.heap, slotsUsed := s₂.slotsUsed } : State).setVm s₂.vm := by
      have : s₂ = ({ s₂ with vm := (U.calling g mk a).vm } : State).setVm s₂.vm := rfl
      rw [e2] at this
      exact this
    have hf₂ : s₂.frames = .throwing q :: .java g :: U.frames.tail := hend
    have hW' : U.WarmedH s₂.vm := hW₂
    have hs₂ : s₂ = ((({ U with heap := s₂.heap, slotsUsed := s₂.slotsUsed } : State).setVm s₂.vm).setTop g).pushFrame (.throwing q) := by
      refine e3.trans ?_
      rw [hf₂, State.calling_eq h.top, State.setFrames_setFrames, State.pushFrame, State.frames_setTop _ hr', State.setTop_of_frames _ hr', State.setFrames_setFrames, hr]
      rfl
    have hsame : U.sameButNew ({ U with heap := s₂.heap, slotsUsed := s₂.slotsUsed } : State) L mc ms := by
      refine ⟨?_, q2, q3, q4, q5, q6⟩
      obtain ⟨t, ht, -⟩ := State.frames_cons hr
      show ({ U with heap := s₂.heap, slotsUsed := s₂.slotsUsed } : State) = { U.setFrames U.frames with heap := s₂.heap, slotsUsed := s₂.slotsUsed }
      rw [State.setFrames_self ht]
    subst hg
    refine Or.inr ⟨q, ⟨(({ U with heap := s₂.heap, slotsUsed := s₂.slotsUsed } : State).setVm s₂.vm), Ls ++ L, c0 + mc, s0 + ms⟩,
      ⟨X.admits, X.cas, X.clock, X.frames, X.room, X.hears, X.method, X.code, (X.here.setHeapUsed s₂.heap s₂.slotsUsed).setVm hW'.alike, X.tail, State.WarmedH.trans X.warmed hW', X.limits, X.bytes, X.same.trans (hsame.setVm s.vm)⟩,
      ⟨g, mk, s₂, L, E, ce, rfl, rfl, hx, hce, hcv, hcl, rfl, hL, rfl, rfl⟩, ?_⟩
    show Steps p.tables e below _ (((({ U with heap := s₂.heap, slotsUsed := s₂.slotsUsed } : State).setVm s₂.vm).setTop g).pushFrame (.throwing q))
    rw [← hs₂]
    exact hsteps
end Payer
section Calls
variable {p : Program} {l : Launch} {e : Env} {R : Room} {s : State} {m : MethodId} {args : Array Value} {below : List Frame} {meth : Method} {c : Code} {T : State} {locs : List Loc} {cells slots : Nat}
theorem vx_callV (X : Stand p l e R s m args below meth c T locs cells slots) (hexec : p.tables.exec = Jvm.exec) {own C : String} {index : Nat} {y : MethodName} {bytes : ByteArray} {maxL : Nat} {ret : Option FieldType}
    (hown : s.vm.findClass own = some m.cls) (hlink : (Cond.methodLink own index y).before args s = true) (hinst : (Cond.instanceMethod y).before args s = true) (hsel : (Cond.selects C y y).before args s = true)
    (hcode : (Cond.code y bytes maxL ret).before args s = true) (hy : y.cls ≠ "java/lang/invoke/MethodHandle" ∧ y.cls ≠ "java/lang/invoke/VarHandle")
    {W9 : Nat} {Pre : Pt → Array Value → Prop} {Post : Pt → Array Value → Option Value → Pt → Prop} {PostX : Pt → Array Value → Addr → Pt → Prop} (hK : vx_Back l R p e below s args y 3 W9 Pre Post PostX)
    {b : Addr} {cellB : Cell} (hcell : T.heap[b]? = some cellB) (hobj : cellB.vm.isStatics = false) (hcls : s.vm.findClass C = some cellB.cls)
    {g : JFrame} (hg : g.method = m) (hsize : g.locals.size = c.maxLocals) {argsL rest : List Value} (hlen : ∀ sig, parseMethodDescriptor y.desc = some sig → argsL.length = sig.parameters.length)
    (hstack : g.stack = argsL.reverse ++ .ref b :: rest) (hW : 2 * g.monitorRoom + (rest.map fun v => v.category).sum ≤ W9) (hdg : decode c.code g.pc = .ok (.invokevirtual index, 3))
    (hpre : ∀ vm₁, s.WarmedH vm₁ → Pre ⟨T.setVm vm₁, locs, cells, slots⟩ (Value.ref b :: argsL).toArray) :
    (∃ (v : Option Value) (vm₁ : Vm) (B : Pt), s.WarmedH vm₁ ∧ Stand p l e R s m args below meth c B.U B.locs B.cells B.slots ∧ Post ⟨T.setVm vm₁, locs, cells, slots⟩ (Value.ref b :: argsL).toArray v B ∧
      ∀ target, Steps p.tables e below (B.U.setTop { g with pc := g.pc + 3, stack := v.toList ++ rest }) target → Steps p.tables e below (T.setTop g) target) ∨
    (∃ (q : Addr) (vm₁ : Vm) (B : Pt), s.WarmedH vm₁ ∧ Stand p l e R s m args below meth c B.U B.locs B.cells B.slots ∧ PostX ⟨T.setVm vm₁, locs, cells, slots⟩ (Value.ref b :: argsL).toArray q B ∧
      Steps p.tables e below (T.setTop g) ((B.U.setTop { g with stack := rest }).pushFrame (.throwing q))) := by
  obtain ⟨mk, methM, hnamed, hmethM, hstM, habM⟩ := Cond.instanceMethod_spec hinst
  obtain ⟨methM', cM, hmethM', -, -, -, -, -, -, hsigM⟩ := Cond.code_spec hnamed hcode
  cases hmethM.symm.trans hmethM'
  obtain ⟨c2, r2, m2, q1, q2, q3, q4, kP, hkP, hkPi⟩ := Cond.selects_spec hsel
  cases hcls.symm.trans q1
  cases (State.methodFound?_of_named hnamed hy).symm.trans q2
  cases hnamed.symm.trans q3
  have hselP : selectMethod e.platform s.vm cellB.cls mk = .method mk := by rw [Launch.admits_selectMethod X.admits]; exact q4
  obtain ⟨vm₁, X₁, hstep₁⟩ := X.invokevirtual hexec hown hlink hnamed hmethM hstM hkP hkPi hy (a := b) (cell := cellB) hcell
    (fun z h => by rw [h] at hobj; cases hobj) hselP hmethM habM hkP hkPi (g := g) hg (argsL := argsL) (rest := rest) (hlen _ hsigM) hstack hdg
  rcases hK m meth c ⟨T.setVm vm₁, locs, cells, slots⟩ { g with stack := rest } (.invokevirtual index) mk (Value.ref b :: argsL).toArray X₁ hg hsize hdg hW (X₁.named hnamed) (hpre vm₁ X₁.warmed) with ⟨v, B, X', hpost, hsteps⟩ | ⟨q, B, X', hpost, hsteps⟩
  · exact Or.inl ⟨v, vm₁, B, X₁.warmed, X', hpost, fun target h => hstep₁ _ fun acts => by rw [doInvoke_state]; exact hsteps.trans h⟩
  · exact Or.inr ⟨q, vm₁, B, X₁.warmed, X', hpost, hstep₁ _ fun acts => by rw [doInvoke_state]; exact hsteps⟩
theorem vx_callS (X : Stand p l e R s m args below meth c T locs cells slots) (hexec : p.tables.exec = Jvm.exec) {own : String} {index : Nat} {y : MethodName} {bytes : ByteArray} {maxL : Nat} {ret : Option FieldType}
    (hown : s.vm.findClass own = some m.cls) (hlink : (Cond.methodLink own index y).before args s = true) (hstat : (Cond.static y).before args s = true) (hinit : (Cond.initialized y.cls).before args s = true)
    (hcode : (Cond.code y bytes maxL ret).before args s = true) (hy : y.cls ≠ "java/lang/invoke/MethodHandle" ∧ y.cls ≠ "java/lang/invoke/VarHandle")
    {W9 : Nat} {Pre : Pt → Array Value → Prop} {Post : Pt → Array Value → Option Value → Pt → Prop} {PostX : Pt → Array Value → Addr → Pt → Prop} (hK : vx_Back l R p e below s args y 3 W9 Pre Post PostX)
    {g : JFrame} (hg : g.method = m) (hsize : g.locals.size = c.maxLocals) {argsL rest : List Value} (hlen : ∀ sig, parseMethodDescriptor y.desc = some sig → argsL.length = sig.parameters.length)
    (hstack : g.stack = argsL.reverse ++ rest) (hW : 2 * g.monitorRoom + (rest.map fun v => v.category).sum ≤ W9) (hdg : decode c.code g.pc = .ok (.invokestatic index, 3))
    (hpre : ∀ vm₁, s.WarmedH vm₁ → Pre ⟨T.setVm vm₁, locs, cells, slots⟩ argsL.toArray) :
    (∃ (v : Option Value) (vm₁ : Vm) (B : Pt), s.WarmedH vm₁ ∧ Stand p l e R s m args below meth c B.U B.locs B.cells B.slots ∧ Post ⟨T.setVm vm₁, locs, cells, slots⟩ argsL.toArray v B ∧
      ∀ target, Steps p.tables e below (B.U.setTop { g with pc := g.pc + 3, stack := v.toList ++ rest }) target → Steps p.tables e below (T.setTop g) target) ∨
    (∃ (q : Addr) (vm₁ : Vm) (B : Pt), s.WarmedH vm₁ ∧ Stand p l e R s m args below meth c B.U B.locs B.cells B.slots ∧ PostX ⟨T.setVm vm₁, locs, cells, slots⟩ argsL.toArray q B ∧
      Steps p.tables e below (T.setTop g) ((B.U.setTop { g with stack := rest }).pushFrame (.throwing q))) := by
  obtain ⟨mk, hnamed⟩ := Cond.code_named hcode
  obtain ⟨methM, cM, hmethM, -, -, -, -, -, -, hsigM⟩ := Cond.code_spec hnamed hcode
  have hstatic : methM.isStatic = true := Cond.static_spec hnamed hmethM hstat
  obtain ⟨kP, hkP, -⟩ := className_of_methodNamed hnamed
  have hinitP : kP.init = .initialized := Cond.initialized_spec (findClass_of_methodNamed hnamed) hkP hinit
  obtain ⟨vm₁, X₁, hstep₁⟩ := X.invokestatic hexec hown hlink hnamed hmethM hstatic hkP hinitP hy (g := g) hg (argsL := argsL) (rest := rest) (hlen _ hsigM) hstack hdg
  rcases hK m meth c ⟨T.setVm vm₁, locs, cells, slots⟩ { g with stack := rest } (.invokestatic index) mk argsL.toArray X₁ hg hsize hdg hW (X₁.named hnamed) (hpre vm₁ X₁.warmed) with ⟨v, B, X', hpost, hsteps⟩ | ⟨q, B, X', hpost, hsteps⟩
  · exact Or.inl ⟨v, vm₁, B, X₁.warmed, X', hpost, fun target h => hstep₁ _ fun acts => by rw [doInvoke_state]; exact hsteps.trans h⟩
  · exact Or.inr ⟨q, vm₁, B, X₁.warmed, X', hpost, hstep₁ _ fun acts => by rw [doInvoke_state]; exact hsteps⟩
end Calls
theorem vx_cls {s : State} {T : State} {vm₁ : Vm} {E : String} {k : ClassId} (hW : s.WarmedH vm₁) (h : (T.setVm vm₁).vm.findClass E = some k) : s.vm.findClass E = some k := by
  have h1 : vm₁.findClass E = some k := h
  rw [hW.alike.findClass] at h1
  exact h1
def vx_W (p : Program) (l : Launch) (e : Env) (R : Room) (s : State) (m : MethodId) (args : Array Value) (below : List Frame) (meth : Method) (c : Code) (H : Heap) (locs : List Loc) (cells slots : Nat) (Q : State → Prop) (g : JFrame) (q : Addr) : Prop :=
  ∀ T : State, T.heap = H → Stand p l e R s m args below meth c T locs cells slots → ∃ t, Steps p.tables e below ((T.setTop g).pushFrame (.throwing q)) t ∧ Q t
def vx_Run (p : Program) (l : Launch) (e : Env) (R : Room) (s : State) (m : MethodId) (args : Array Value) (below : List Frame) (meth : Method) (c : Code) (H : Heap) (locs : List Loc) (cells slots mc ms : Nat) (g : JFrame) (rest : List Value) (Qa : State → Outcome → State → Prop) (XC : String → State → State → Prop) (free : Addr → Prop) : Prop :=
  ∀ T : State, T.heap = H → Stand p l e R s m args below meth c T locs cells slots →
    (∃ (v : Option Value) (st₀ t T' : State) (L : List Loc), st₀.heap = H ∧ Stand p l e R s m args below meth c T' (locs ++ L) (cells + mc) (slots + ms) ∧ (∀ q ∈ L, free q.base) ∧ T'.heap = t.heap ∧ T'.vm = t.vm ∧ Qa st₀ (.returned v) t ∧
      Goes p e below T g T' { g with pc := g.pc + 3, stack := v.toList ++ rest }) ∨
    (∃ (q : Addr) (st₀ t T' : State) (L : List Loc) (E : String) (ce : Cell), st₀.heap = H ∧ Stand p l e R s m args below meth c T' (locs ++ L) (cells + mc) (slots + ms) ∧ (∀ z ∈ L, free z.base) ∧ T'.heap = t.heap ∧ T'.vm = t.vm ∧ XC E st₀ t ∧ t.heap[q]? = some ce ∧ ce.vm = .none ∧ s.vm.findClass E = some ce.cls ∧
      Steps p.tables e below (T.setTop g) ((T'.setTop { g with stack := rest }).pushFrame (.throwing q)))
def vx_X {S : Type} (px : S → Prop) (B : String → S → State → Prop) (A : Nat → Prop) : String → State → State → Prop := fun E st t => ∃ u : S, px u ∧ B E u t ∧ va_F A st t
section Runs
variable {p : Program} {l : Launch} {e : Env} {R : Room} {s : State} {m : MethodId} {args : Array Value} {below : List Frame} {meth : Method} {c : Code} {H : Heap} {locs : List Loc} {cells slots : Nat}
variable {y : MethodName} {bytes cc : ByteArray} {maxL nL mc ms n index : Nat} {ret : Option FieldType} {ws : List Cond} {rm : Room} {Pc : Array Value → State → Prop} {Qc : Array Value → State → Outcome → State → Prop} {XC : String → State → State → Prop} {free : Addr → Prop} {Ts : List Cond} {own C : String} {b : Addr} {As rest : List Value} {g : JFrame}
theorem vx_callBack (cb : CallB R s args own index y bytes maxL ret ws rm mc ms n) (hM : vx_Met l y ws rm Pc Qc XC mc ms free) (hbl : FrameBlind Pc) : vx_Back l R p e below s args y 3 8 (PreOf R mc ms Pc) (PostOf Qc mc ms free) (vx_Post XC mc ms free) := by
  obtain ⟨hrc, hrs, hfr, hlo, hws, hcw, -, hini, -⟩ := cb
  exact vx_back (bytes := bytes) (maxL := maxL) (ret := ret) hM hbl hrc hrs hfr hlo hws hcw (fun a' U hW => word_at hW (Or.inl (by first | rfl | simp [Cond.onTables, Cond.keeps, Cond.steady])) hini)
theorem vx_runV (S : CallFix p m c cc nL s args Ts own) (hM : vx_Met l y ws rm Pc Qc XC mc ms free) (cw : CallW R s args own C index y bytes maxL ret ws rm mc ms n) (hp : PreV s H C b Pc As)
    (hg : g.method = m) (hn : As.length = n) (hsize : g.locals.size = nL) (hstack : g.stack = As.reverse ++ .ref b :: rest) (hW : 2 * g.monitorRoom + (rest.map fun v => v.category).sum ≤ 8) (hdg : decode cc g.pc = .ok (.invokevirtual index, 3)) (hf : cells + mc ≤ R.cells ∧ slots + ms ≤ R.slots) :
    vx_Run p l e R s m args below meth c H locs cells slots mc ms g rest (Qc (Value.ref b :: As).toArray) XC free := by
  have hK : vx_Back l R p e below s args y 3 8 (PreOf R mc ms Pc) (PostOf Qc mc ms free) (vx_Post XC mc ms free) := vx_callBack cw.1 hM hp.1
  obtain ⟨⟨-, -, -, -, -, -, hcode, -, hy, hlen, hl⟩, hin, hse⟩ := cw
  obtain ⟨hx, hb, hml, ho, -⟩ := S
  obtain ⟨-, ⟨cellB, hcB, hoB, hclB⟩, hPc⟩ := hp
  intro T hT X
  rcases vx_callV X hx (C := C) (bytes := bytes) (maxL := maxL) (ret := ret) ho hl hin hse hcode hy hK (by rw [hT]; exact hcB) hoB hclB hg (hsize.trans hml.symm) (argsL := As) (rest := rest) (fun sig h => hn.trans (hlen sig h)) hstack hW (by rw [hb]; exact hdg)
    (fun vm₁ hW₁ => ⟨hf.1, hf.2, hPc (T.setVm vm₁) hT hW₁⟩) with ⟨v, vm₁, ⟨U', l2, c2, s2⟩, hW₁, X', ⟨g', mk, t, L, e1, e2, hq, h1, hL, h2, h3⟩, st⟩ | ⟨q, vm₁, ⟨U', l2, c2, s2⟩, hW₁, X', ⟨g', mk, t, L, E, ce, e1, e2, hq, hce, hcv, hcl, h1, hL, h2, h3⟩, st⟩
  · dsimp only [Pt.U, Pt.locs, Pt.cells, Pt.slots] at X' e1 e2 h1 h2 h3 st
    subst h1; subst h2; subst h3
    exact Or.inl ⟨v, (T.setVm vm₁).calling g' mk (Value.ref b :: As).toArray, t, U', L, hT, X', hL, e1, e2, hq, st⟩
  · dsimp only [Pt.U, Pt.locs, Pt.cells, Pt.slots] at X' e1 e2 h1 h2 h3 st hcl
    subst h1; subst h2; subst h3
    exact Or.inr ⟨q, (T.setVm vm₁).calling g' mk (Value.ref b :: As).toArray, t, U', L, E, ce, hT, X', hL, e1, e2, hq, hce, hcv, vx_cls hW₁ hcl, st⟩
theorem vx_runS (S : CallFix p m c cc nL s args Ts own) (hM : vx_Met l y ws rm Pc Qc XC mc ms free) (cw : CallB R s args own index y bytes maxL ret ws rm mc ms n ∧ (Cond.static y).before args s = true) (hp : PreS s H Pc As)
    (hg : g.method = m) (hn : As.length = n) (hsize : g.locals.size = nL) (hstack : g.stack = As.reverse ++ rest) (hW : 2 * g.monitorRoom + (rest.map fun v => v.category).sum ≤ 8) (hdg : decode cc g.pc = .ok (.invokestatic index, 3)) (hf : cells + mc ≤ R.cells ∧ slots + ms ≤ R.slots) :
    vx_Run p l e R s m args below meth c H locs cells slots mc ms g rest (Qc As.toArray) XC free := by
  have hK : vx_Back l R p e below s args y 3 8 (PreOf R mc ms Pc) (PostOf Qc mc ms free) (vx_Post XC mc ms free) := vx_callBack cw.1 hM hp.1
  obtain ⟨⟨-, -, -, -, -, -, hcode, hini, hy, hlen, hl⟩, hstt⟩ := cw
  obtain ⟨hx, hb, hml, ho, -⟩ := S
  intro T hT X
  rcases vx_callS X hx (bytes := bytes) (maxL := maxL) (ret := ret) ho hl hstt hini hcode hy hK hg (hsize.trans hml.symm) (argsL := As) (rest := rest) (fun sig h => hn.trans (hlen sig h)) hstack hW (by rw [hb]; exact hdg)
    (fun vm₁ hW₁ => ⟨hf.1, hf.2, hp.2 (T.setVm vm₁) hT hW₁⟩) with ⟨v, vm₁, ⟨U', l2, c2, s2⟩, hW₁, X', ⟨g', mk, t, L, e1, e2, hq, h1, hL, h2, h3⟩, st⟩ | ⟨q, vm₁, ⟨U', l2, c2, s2⟩, hW₁, X', ⟨g', mk, t, L, E, ce, e1, e2, hq, hce, hcv, hcl, h1, hL, h2, h3⟩, st⟩
  · dsimp only [Pt.U, Pt.locs, Pt.cells, Pt.slots] at X' e1 e2 h1 h2 h3 st
    subst h1; subst h2; subst h3
    exact Or.inl ⟨v, (T.setVm vm₁).calling g' mk As.toArray, t, U', L, hT, X', hL, e1, e2, hq, st⟩
  · dsimp only [Pt.U, Pt.locs, Pt.cells, Pt.slots] at X' e1 e2 h1 h2 h3 st hcl
    subst h1; subst h2; subst h3
    exact Or.inr ⟨q, (T.setVm vm₁).calling g' mk As.toArray, t, U', L, E, ce, hT, X', hL, e1, e2, hq, hce, hcv, vx_cls hW₁ hcl, st⟩
end Runs
section Rows
variable {p : Program} {l : Launch} {e : Env} {R : Room} {s : State} {m : MethodId} {args : Array Value} {below : List Frame} {meth : Method} {c : Code} {H : Heap} {locs : List Loc} {cells slots : Nat} {Q : State → Prop}
variable {mc ms : Nat} {free : Addr → Prop} {A0 A1 : Nat → Prop} {H0 : Heap} {a : Array Value} {pc : Nat} {ls : Array Slot} {st0 rest : List Value}
theorem vx_keep {st₀ t T' : State} {L : List Loc} (h0 : st₀.heap = H) (e1 : T'.heap = t.heap) (hS : va_S A0 H0 H locs) (hA : ∀ q, q < H.size → A1 q → A0 q) (hf : ∀ q, free q → A0 q) (hL : ∀ q ∈ L, free q.base) (hF : va_F A1 st₀ t) :
    H.size ≤ T'.heap.size ∧ (∀ q : Nat, q < H.size → ¬ A1 q → T'.heap[q]? = H[q]?) ∧ va_S A0 H0 T'.heap (locs ++ L) := by
  obtain ⟨hz, hk⟩ := hF
  rw [h0] at hz hk
  exact ⟨by rw [e1]; exact hz, fun q h1 h2 => by rw [e1]; exact hk q h1 h2,
    ⟨Nat.le_trans hS.1 (by rw [e1]; exact hz), fun q h1 h2 => by rw [e1, hk q (Nat.lt_of_lt_of_le h1 hS.1) (fun z => h2 (hA q (Nat.lt_of_lt_of_le h1 hS.1) z))]; exact hS.2.1 q h1 h2, fun q hq => by
      rcases List.mem_append.mp hq with h | h
      · exact hS.2.2 q h
      · exact hf _ (hL q h)⟩⟩
theorem vx_calli {S SX : Type} {post : Int32 → S → Prop} {px : SX → Prop} {B : S → State → Prop} {BX : String → SX → State → Prop} {AX : Nat → Prop} (hr : vx_Run p l e R s m args below meth c H locs cells slots mc ms (F0 m pc ls st0) rest (va_Qi post B A1 a) (vx_X px BX AX) free) (hS : va_S A0 H0 H locs) (hA : ∀ q, q < H.size → A1 q → A0 q) (hf : ∀ q, free q → A0 q) (hAX : ∀ q, q < H.size → AX q → A0 q)
    (kx : ∀ (E : String) (ce : Cell) (q9 : Addr) (u : SX) (t : State) (H1 : Heap) (locs1 : List Loc), t.heap = H1 → s.vm.Alike t.vm → px u → BX E u t → H.size ≤ H1.size → (∀ q : Nat, q < H.size → ¬ AX q → H1[q]? = H[q]?) → va_S A0 H0 H1 locs1 → H1[q9]? = some ce → ce.vm = .none → s.vm.findClass E = some ce.cls → vx_W p l e R s m args below meth c H1 locs1 (cells + mc) (slots + ms) Q (F0 m pc ls rest) q9)
    (kk : ∀ (r : Int32) (u : S) (t : State) (H1 : Heap) (locs1 : List Loc), t.heap = H1 → s.vm.Alike t.vm → post r u → B u t → H.size ≤ H1.size → (∀ q : Nat, q < H.size → ¬ A1 q → H1[q]? = H[q]?) → va_S A0 H0 H1 locs1 → W p l e R s m args below meth c H1 locs1 (cells + mc) (slots + ms) Q (F0 m (pc + 3) ls (.int r :: rest))) : W p l e R s m args below meth c H locs cells slots Q (F0 m pc ls st0) := by
  intro T hT X
  rcases hr T hT X with ⟨v, st₀, t, T', L, h0, X', hL, e1, e2, ⟨⟨r, u, hv, hp, hb⟩, hF⟩, st⟩ | ⟨q, st₀, t, T', L, E, ce, h0, X', hL, e1, e2, ⟨u, hp, hb, hF⟩, hce, hcv, hcl, st⟩
  · cases hv
    obtain ⟨k1, k2, k3⟩ := vx_keep h0 e1 hS hA hf hL hF
    obtain ⟨t2, a1, b1⟩ := kk r u t T'.heap (locs ++ L) e1.symm (by rw [← e2]; exact X'.warmed.alike) hp hb k1 k2 k3 T' rfl X'
    exact ⟨t2, st t2 a1, b1⟩
  · obtain ⟨k1, k2, k3⟩ := vx_keep h0 e1 hS hAX hf hL hF
    obtain ⟨t2, a1, b1⟩ := kx E ce q u t T'.heap (locs ++ L) e1.symm (by rw [← e2]; exact X'.warmed.alike) hp hb k1 k2 k3 (by rw [e1]; exact hce) hcv hcl T' rfl X'
    exact ⟨t2, st.trans a1, b1⟩
theorem vx_calll {S SX : Type} {post : Int64 → S → Prop} {px : SX → Prop} {B : S → State → Prop} {BX : String → SX → State → Prop} {AX : Nat → Prop} (hr : vx_Run p l e R s m args below meth c H locs cells slots mc ms (F0 m pc ls st0) rest (va_Ql post B A1 a) (vx_X px BX AX) free) (hS : va_S A0 H0 H locs) (hA : ∀ q, q < H.size → A1 q → A0 q) (hf : ∀ q, free q → A0 q) (hAX : ∀ q, q < H.size → AX q → A0 q)
    (kx : ∀ (E : String) (ce : Cell) (q9 : Addr) (u : SX) (t : State) (H1 : Heap) (locs1 : List Loc), t.heap = H1 → s.vm.Alike t.vm → px u → BX E u t → H.size ≤ H1.size → (∀ q : Nat, q < H.size → ¬ AX q → H1[q]? = H[q]?) → va_S A0 H0 H1 locs1 → H1[q9]? = some ce → ce.vm = .none → s.vm.findClass E = some ce.cls → vx_W p l e R s m args below meth c H1 locs1 (cells + mc) (slots + ms) Q (F0 m pc ls rest) q9)
    (kk : ∀ (r : Int64) (u : S) (t : State) (H1 : Heap) (locs1 : List Loc), t.heap = H1 → s.vm.Alike t.vm → post r u → B u t → H.size ≤ H1.size → (∀ q : Nat, q < H.size → ¬ A1 q → H1[q]? = H[q]?) → va_S A0 H0 H1 locs1 → W p l e R s m args below meth c H1 locs1 (cells + mc) (slots + ms) Q (F0 m (pc + 3) ls (.long r :: rest))) : W p l e R s m args below meth c H locs cells slots Q (F0 m pc ls st0) := by
  intro T hT X
  rcases hr T hT X with ⟨v, st₀, t, T', L, h0, X', hL, e1, e2, ⟨⟨r, u, hv, hp, hb⟩, hF⟩, st⟩ | ⟨q, st₀, t, T', L, E, ce, h0, X', hL, e1, e2, ⟨u, hp, hb, hF⟩, hce, hcv, hcl, st⟩
  · cases hv
    obtain ⟨k1, k2, k3⟩ := vx_keep h0 e1 hS hA hf hL hF
    obtain ⟨t2, a1, b1⟩ := kk r u t T'.heap (locs ++ L) e1.symm (by rw [← e2]; exact X'.warmed.alike) hp hb k1 k2 k3 T' rfl X'
    exact ⟨t2, st t2 a1, b1⟩
  · obtain ⟨k1, k2, k3⟩ := vx_keep h0 e1 hS hAX hf hL hF
    obtain ⟨t2, a1, b1⟩ := kx E ce q u t T'.heap (locs ++ L) e1.symm (by rw [← e2]; exact X'.warmed.alike) hp hb k1 k2 k3 (by rw [e1]; exact hce) hcv hcl T' rfl X'
    exact ⟨t2, st.trans a1, b1⟩
theorem vx_callf {S SX : Type} {post : UInt32 → S → Prop} {px : SX → Prop} {B : S → State → Prop} {BX : String → SX → State → Prop} {AX : Nat → Prop} (hr : vx_Run p l e R s m args below meth c H locs cells slots mc ms (F0 m pc ls st0) rest (va_Qf post B A1 a) (vx_X px BX AX) free) (hS : va_S A0 H0 H locs) (hA : ∀ q, q < H.size → A1 q → A0 q) (hf : ∀ q, free q → A0 q) (hAX : ∀ q, q < H.size → AX q → A0 q)
    (kx : ∀ (E : String) (ce : Cell) (q9 : Addr) (u : SX) (t : State) (H1 : Heap) (locs1 : List Loc), t.heap = H1 → s.vm.Alike t.vm → px u → BX E u t → H.size ≤ H1.size → (∀ q : Nat, q < H.size → ¬ AX q → H1[q]? = H[q]?) → va_S A0 H0 H1 locs1 → H1[q9]? = some ce → ce.vm = .none → s.vm.findClass E = some ce.cls → vx_W p l e R s m args below meth c H1 locs1 (cells + mc) (slots + ms) Q (F0 m pc ls rest) q9)
    (kk : ∀ (r : UInt32) (u : S) (t : State) (H1 : Heap) (locs1 : List Loc), t.heap = H1 → s.vm.Alike t.vm → post r u → B u t → H.size ≤ H1.size → (∀ q : Nat, q < H.size → ¬ A1 q → H1[q]? = H[q]?) → va_S A0 H0 H1 locs1 → W p l e R s m args below meth c H1 locs1 (cells + mc) (slots + ms) Q (F0 m (pc + 3) ls (.float r :: rest))) : W p l e R s m args below meth c H locs cells slots Q (F0 m pc ls st0) := by
  intro T hT X
  rcases hr T hT X with ⟨v, st₀, t, T', L, h0, X', hL, e1, e2, ⟨⟨r, u, hv, hp, hb⟩, hF⟩, st⟩ | ⟨q, st₀, t, T', L, E, ce, h0, X', hL, e1, e2, ⟨u, hp, hb, hF⟩, hce, hcv, hcl, st⟩
  · cases hv
    obtain ⟨k1, k2, k3⟩ := vx_keep h0 e1 hS hA hf hL hF
    obtain ⟨t2, a1, b1⟩ := kk r u t T'.heap (locs ++ L) e1.symm (by rw [← e2]; exact X'.warmed.alike) hp hb k1 k2 k3 T' rfl X'
    exact ⟨t2, st t2 a1, b1⟩
  · obtain ⟨k1, k2, k3⟩ := vx_keep h0 e1 hS hAX hf hL hF
    obtain ⟨t2, a1, b1⟩ := kx E ce q u t T'.heap (locs ++ L) e1.symm (by rw [← e2]; exact X'.warmed.alike) hp hb k1 k2 k3 (by rw [e1]; exact hce) hcv hcl T' rfl X'
    exact ⟨t2, st.trans a1, b1⟩
theorem vx_calld {S SX : Type} {post : UInt64 → S → Prop} {px : SX → Prop} {B : S → State → Prop} {BX : String → SX → State → Prop} {AX : Nat → Prop} (hr : vx_Run p l e R s m args below meth c H locs cells slots mc ms (F0 m pc ls st0) rest (va_Qd post B A1 a) (vx_X px BX AX) free) (hS : va_S A0 H0 H locs) (hA : ∀ q, q < H.size → A1 q → A0 q) (hf : ∀ q, free q → A0 q) (hAX : ∀ q, q < H.size → AX q → A0 q)
    (kx : ∀ (E : String) (ce : Cell) (q9 : Addr) (u : SX) (t : State) (H1 : Heap) (locs1 : List Loc), t.heap = H1 → s.vm.Alike t.vm → px u → BX E u t → H.size ≤ H1.size → (∀ q : Nat, q < H.size → ¬ AX q → H1[q]? = H[q]?) → va_S A0 H0 H1 locs1 → H1[q9]? = some ce → ce.vm = .none → s.vm.findClass E = some ce.cls → vx_W p l e R s m args below meth c H1 locs1 (cells + mc) (slots + ms) Q (F0 m pc ls rest) q9)
    (kk : ∀ (r : UInt64) (u : S) (t : State) (H1 : Heap) (locs1 : List Loc), t.heap = H1 → s.vm.Alike t.vm → post r u → B u t → H.size ≤ H1.size → (∀ q : Nat, q < H.size → ¬ A1 q → H1[q]? = H[q]?) → va_S A0 H0 H1 locs1 → W p l e R s m args below meth c H1 locs1 (cells + mc) (slots + ms) Q (F0 m (pc + 3) ls (.double r :: rest))) : W p l e R s m args below meth c H locs cells slots Q (F0 m pc ls st0) := by
  intro T hT X
  rcases hr T hT X with ⟨v, st₀, t, T', L, h0, X', hL, e1, e2, ⟨⟨r, u, hv, hp, hb⟩, hF⟩, st⟩ | ⟨q, st₀, t, T', L, E, ce, h0, X', hL, e1, e2, ⟨u, hp, hb, hF⟩, hce, hcv, hcl, st⟩
  · cases hv
    obtain ⟨k1, k2, k3⟩ := vx_keep h0 e1 hS hA hf hL hF
    obtain ⟨t2, a1, b1⟩ := kk r u t T'.heap (locs ++ L) e1.symm (by rw [← e2]; exact X'.warmed.alike) hp hb k1 k2 k3 T' rfl X'
    exact ⟨t2, st t2 a1, b1⟩
  · obtain ⟨k1, k2, k3⟩ := vx_keep h0 e1 hS hAX hf hL hF
    obtain ⟨t2, a1, b1⟩ := kx E ce q u t T'.heap (locs ++ L) e1.symm (by rw [← e2]; exact X'.warmed.alike) hp hb k1 k2 k3 (by rw [e1]; exact hce) hcv hcl T' rfl X'
    exact ⟨t2, st.trans a1, b1⟩
theorem vx_callv {S SX : Type} {post : S → Prop} {px : SX → Prop} {B : S → State → Prop} {BX : String → SX → State → Prop} {AX : Nat → Prop} (hr : vx_Run p l e R s m args below meth c H locs cells slots mc ms (F0 m pc ls st0) rest (va_Qv post B A1 a) (vx_X px BX AX) free) (hS : va_S A0 H0 H locs) (hA : ∀ q, q < H.size → A1 q → A0 q) (hf : ∀ q, free q → A0 q) (hAX : ∀ q, q < H.size → AX q → A0 q)
    (kx : ∀ (E : String) (ce : Cell) (q9 : Addr) (u : SX) (t : State) (H1 : Heap) (locs1 : List Loc), t.heap = H1 → s.vm.Alike t.vm → px u → BX E u t → H.size ≤ H1.size → (∀ q : Nat, q < H.size → ¬ AX q → H1[q]? = H[q]?) → va_S A0 H0 H1 locs1 → H1[q9]? = some ce → ce.vm = .none → s.vm.findClass E = some ce.cls → vx_W p l e R s m args below meth c H1 locs1 (cells + mc) (slots + ms) Q (F0 m pc ls rest) q9)
    (kk : ∀ (u : S) (t : State) (H1 : Heap) (locs1 : List Loc), t.heap = H1 → s.vm.Alike t.vm → post u → B u t → H.size ≤ H1.size → (∀ q : Nat, q < H.size → ¬ A1 q → H1[q]? = H[q]?) → va_S A0 H0 H1 locs1 → W p l e R s m args below meth c H1 locs1 (cells + mc) (slots + ms) Q (F0 m (pc + 3) ls (rest))) : W p l e R s m args below meth c H locs cells slots Q (F0 m pc ls st0) := by
  intro T hT X
  rcases hr T hT X with ⟨v, st₀, t, T', L, h0, X', hL, e1, e2, ⟨⟨u, hv, hp, hb⟩, hF⟩, st⟩ | ⟨q, st₀, t, T', L, E, ce, h0, X', hL, e1, e2, ⟨u, hp, hb, hF⟩, hce, hcv, hcl, st⟩
  · cases hv
    obtain ⟨k1, k2, k3⟩ := vx_keep h0 e1 hS hA hf hL hF
    obtain ⟨t2, a1, b1⟩ := kk u t T'.heap (locs ++ L) e1.symm (by rw [← e2]; exact X'.warmed.alike) hp hb k1 k2 k3 T' rfl X'
    exact ⟨t2, st t2 a1, b1⟩
  · obtain ⟨k1, k2, k3⟩ := vx_keep h0 e1 hS hAX hf hL hF
    obtain ⟨t2, a1, b1⟩ := kx E ce q u t T'.heap (locs ++ L) e1.symm (by rw [← e2]; exact X'.warmed.alike) hp hb k1 k2 k3 (by rw [e1]; exact hce) hcv hcl T' rfl X'
    exact ⟨t2, st.trans a1, b1⟩
end Rows
section Ends
variable {p : Program} {l : Launch} {e : Env} {R : Room} {s : State} {m : MethodId} {args : Array Value} {below : List Frame} {meth : Method} {c : Code} {H : Heap} {locs : List Loc} {cells slots : Nat} {Q : State → Prop}
variable {mc ms : Nat} {free : Addr → Prop} {A0 A1 : Nat → Prop} {H0 : Heap} {a : Array Value} {ls : Array Slot} {st0 rest : List Value}
variable {Qc : Array Value → State → Outcome → State → Prop} {XC : String → State → State → Prop}
def vx_MQ (below : List Frame) (Qc : Array Value → State → Outcome → State → Prop) (XC : String → State → State → Prop) (a : Array Value) (s : State) (mc ms : Nat) (free : Addr → Prop) : State → Prop := fun t =>
  ∃ o, t.status = .running ∧ Ended t below o ∧ vx_Q Qc XC mc ms free a s o t
theorem vx_ret {g : JFrame} {mc ms : Nat} (k : W p l e R s m args below meth c H locs cells slots (MQ below Qc args s mc ms free) g) : W p l e R s m args below meth c H locs cells slots (vx_MQ below Qc XC args s mc ms free) g := by
  intro T hT X
  obtain ⟨t, a1, o, b1, b2, b3, b4⟩ := k T hT X
  exact ⟨t, a1, o, b1, b2, Or.inl ⟨b3, b4⟩⟩
theorem vx_widen {g : JFrame} {q : Addr} {k n : Nat} (h1 : cells ≤ k) (h2 : slots ≤ n) (kk : vx_W p l e R s m args below meth c H locs k n Q g q) : vx_W p l e R s m args below meth c H locs cells slots Q g q := fun T hT X => kk T hT (stand_widen X h1 h2)
theorem vx_out {pc : Nat} {E : String} {ce : Cell} {q : Addr} {mc ms : Nat} (hout : ∀ x ∈ c.exceptionTable.toList, covers x pc = false) (hlocks : meth.locks = false) (hcell : H[q]? = some ce) (hv : ce.vm = .none) (hcl : s.vm.findClass E = some ce.cls)
    (hx : ∀ t : State, t.heap = H → s.vm.Alike t.vm → XC E s t) (hf : ∀ z ∈ locs, free z.base) (hc : cells ≤ mc) (hs : slots ≤ ms) :
    vx_W p l e R s m args below meth c H locs cells slots (vx_MQ below Qc XC args s mc ms free) (F0 m pc ls rest) q := by
  intro T hT X
  obtain ⟨st1, hrun, hend, hW, hsm⟩ := X.leaveThrown q (g := F0 m pc ls rest) rfl rfl rfl hout hlocks
  have hcell9 : (T.setFrames (.throwing q :: below)).heap[q]? = some ce := by
    show T.heap[q]? = some ce
    rw [hT]; exact hcell
  exact ⟨_, st1, .threw q, hrun, hend, Or.inr ⟨q, rfl, E, ce, locs, hx _ hT hW.alike, hcell9, hv, hcl, hW, hsm.mono hc hs, hf⟩⟩
theorem vx_frame {U : State} {k n : Nat} (h : s.sameButNew ({ U with vm := s.vm } : State) locs k n) : s.heap.size ≤ U.heap.size ∧ ∀ q : Nat, q < s.heap.size → (∀ z ∈ locs, z.base ≠ q) → U.heap[q]? = s.heap[q]? := by
  obtain ⟨-, h2, -, -, -, h6⟩ := h
  refine ⟨h2, fun q hq hz => ?_⟩
  obtain ⟨c9, e1, e2, e3, e4⟩ := h6 q _ (Array.getElem?_eq_getElem hq)
  have hs : c9.slots = (s.heap[q]).slots := Array.ext_getElem? fun i => e4 i fun hm => hz _ hm rfl
  have h9 : c9 = s.heap[q] := by
    rw [hs] at e2
    exact e2
  have e5 : U.heap[q]? = some c9 := e1
  rw [e5, h9, Array.getElem?_eq_getElem hq]
def vx_no (w : Cond) : Bool := decide (w ≠ .isRef (.static Bundle.tN "UNASSIGNED_STACK" Bundle.steD)) && decide (w ≠ .isRef (.static Bundle.tN "SUPPRESSED_SENTINEL" Bundle.listD)) && decide (w ≠ .laysStatic Bundle.tN "UNASSIGNED_STACK" Bundle.steD) && decide (w ≠ .laysStatic Bundle.tN "SUPPRESSED_SENTINEL" Bundle.listD)
def vx_at0 (own : String) (ic : Nat) (X : String) (names : List String) : List Cond := (Bundle.ownAtoms0 own ic X names).filter vx_no
def vx_atS (own : String) (ic : Nat) (X : String) (names : List String) : List Cond := (Bundle.ownAtoms own ic X names).filter vx_no
def vx_ot (w : Cond) : Bool := w.onTables || goodWord w
theorem vx_ot_at {args a' : Array Value} {s U : State} {w : Cond} (hW : s.WarmedH U.vm) (hvm : s.vm = U.vm) (hg : vx_ot w = true) (h : w.before args s = true) : w.before a' U = true := by
  simp only [vx_ot, Bool.or_eq_true] at hg
  rcases hg with hg | hg
  · exact va_tabs hg hvm h
  · exact word_at hW (good_of_word hg) h
theorem vx_hat {args : Array Value} {s : State} {L B : List Cond} (h1 : ∀ w ∈ L.filter goodWord, w.before args s = true) (h2 : ∀ w ∈ L.filter (fun w => !goodWord w), w ∈ B) (h3 : ∀ w ∈ B, w.before args s = true) : ∀ w ∈ L, w.before args s = true := by
  intro w hw
  by_cases g : goodWord w = true
  · exact h1 w (List.mem_filter.mpr ⟨hw, g⟩)
  · refine h3 w (h2 w (List.mem_filter.mpr ⟨hw, ?_⟩))
    show (!goodWord w) = true
    cases hgw : goodWord w
    · rfl
    · exact absurd hgw g
theorem vx_c {args : Array Value} {s : State} {w : Cond} {B : List Cond} (h : w.before args s = true) (t : ∀ w ∈ B, w.before args s = true) : ∀ w' ∈ w :: B, w'.before args s = true := fun w' h' => (List.mem_cons.mp h').elim (fun e => by rw [e]; exact h) (t w')
theorem vx_n {args : Array Value} {s : State} : ∀ w ∈ ([] : List Cond), w.before args s = true := fun _ h => nomatch h
theorem vx_own {args : Array Value} {s : State} {L : List Cond} (h1 : ∀ w ∈ L.filter vx_no, w.before args s = true)
    (hU : (Cond.isRef (.static Bundle.tN "UNASSIGNED_STACK" Bundle.steD)).before args s = true) (hN : (Cond.isRef (.static Bundle.tN "SUPPRESSED_SENTINEL" Bundle.listD)).before args s = true)
    (lU : (Cond.laysStatic Bundle.tN "UNASSIGNED_STACK" Bundle.steD).before args s = true) (lN : (Cond.laysStatic Bundle.tN "SUPPRESSED_SENTINEL" Bundle.listD).before args s = true) : ∀ w ∈ L, w.before args s = true := by
  intro w hw
  by_cases e1 : w = .isRef (.static Bundle.tN "UNASSIGNED_STACK" Bundle.steD)
  · rw [e1]; exact hU
  · by_cases e2 : w = .isRef (.static Bundle.tN "SUPPRESSED_SENTINEL" Bundle.listD)
    · rw [e2]; exact hN
    · by_cases e3 : w = .laysStatic Bundle.tN "UNASSIGNED_STACK" Bundle.steD
      · rw [e3]; exact lU
      · by_cases e4 : w = .laysStatic Bundle.tN "SUPPRESSED_SENTINEL" Bundle.listD
        · rw [e4]; exact lN
        · exact h1 w (List.mem_filter.mpr ⟨hw, by unfold vx_no; rw [decide_eq_true e1, decide_eq_true e2, decide_eq_true e3, decide_eq_true e4]; rfl⟩)
def vx_L (C n d : String) (A : Nat → Prop) (U : State) (H : Heap) : Prop := ∃ (c : ClassId) (k : Class) (i : Nat) (f : Field) (a : Nat) (cell : Cell), U.vm.findClass C = some c ∧ U.fieldFound? C n d = some (c, k, i, f) ∧ f.isStatic = true ∧ k.statics = some a ∧ H[a]? = some cell ∧ cell.vm.isStatics = true ∧ cell.cls = c ∧ f.slot < cell.slots.size ∧ k.staticTypes[f.slot]? = some f.type ∧ ¬ A a
theorem vx_L.moved {C n d : String} {A : Nat → Prop} {u U : State} {H : Heap} (hvm : u.vm.Alike U.vm) (h : vx_L C n d A u H) : vx_L C n d A U H := by
  obtain ⟨c, k, i, f, a, cell, h1, h2, h3, h4, h5, h6, h7, h8, h9, h10⟩ := h
  obtain ⟨k', hi', he⟩ := State.fieldFound?_setVm hvm h2
  exact ⟨c, k', i, f, a, cell, by rw [hvm.findClass]; exact h1, hi', h3, by rw [he]; exact h4, h5, h6, h7, h8, by rw [he]; exact h9, h10⟩
theorem vx_L.kept {C n d : String} {A : Nat → Prop} {U : State} {H H1 : Heap} (h : vx_L C n d A U H) (hq : ∀ a : Nat, a < H.size → ¬ A a → H1[a]? = H[a]?) : vx_L C n d A U H1 := by
  obtain ⟨c, k, i, f, a, cell, h1, h2, h3, h4, h5, h6, h7, h8, h9, h10⟩ := h
  exact ⟨c, k, i, f, a, cell, h1, h2, h3, h4, by rw [hq a (Array.getElem?_eq_some_iff.mp h5).1 h10]; exact h5, h6, h7, h8, h9, h10⟩
theorem vx_L.narrow {C n d : String} {A B : Nat → Prop} {U : State} {H : Heap} (h : vx_L C n d A U H) (hAB : ∀ q, B q → A q) : vx_L C n d B U H := by
  obtain ⟨c, k, i, f, a, cell, h1, h2, h3, h4, h5, h6, h7, h8, h9, h10⟩ := h
  exact ⟨c, k, i, f, a, cell, h1, h2, h3, h4, h5, h6, h7, h8, h9, fun z => h10 (hAB _ z)⟩
theorem vx_L.word {C n d : String} {A : Nat → Prop} {s : State} {args : Array Value} (h : vx_L C n d A s s.heap) : (Cond.laysStatic C n d).before args s = true := by
  obtain ⟨c, k, i, f, a, cell, h1, h2, h3, h4, h5, h6, h7, h8, h9, -⟩ := h
  show (Cond.laysStatic C n d).holds args s none s [] = true
  exact Cond.laysStatic_of h1 h2 h3 h4 h5 h6 h7 h8 h9
def vx_Zq (C n d : String) (A : Nat → Prop) (U : State) (H : Heap) : Prop := va_Zq C n d A U H ∧ vx_L C n d A U H
theorem vx_Zq.moved {C n d : String} {A : Nat → Prop} {u U : State} {H : Heap} (hvm : u.vm.Alike U.vm) (h : vx_Zq C n d A u H) : vx_Zq C n d A U H := ⟨va_Zq.moved hvm h.1, vx_L.moved hvm h.2⟩
theorem vx_Zq.kept {C n d : String} {A : Nat → Prop} {U : State} {H H1 : Heap} (h : vx_Zq C n d A U H) (hq : ∀ a : Nat, a < H.size → ¬ A a → H1[a]? = H[a]?) : vx_Zq C n d A U H1 := ⟨va_Zq.kept h.1 hq, vx_L.kept h.2 hq⟩
theorem vx_Zq.narrow {C n d : String} {A B : Nat → Prop} {U : State} {H : Heap} (h : vx_Zq C n d A U H) (hAB : ∀ q, B q → A q) : vx_Zq C n d B U H := ⟨va_Zq.narrow h.1 hAB, vx_L.narrow h.2 hAB⟩
theorem vx_Zqof {args : Array Value} {s : State} {C n d : String} {A : Nat → Prop} (hl : (Cond.laysStatic C n d).before args s = true) (hini : (Cond.initialized C).before args s = true) (h : (Cond.isRef (.static C n d)).before args s = true) (hA : ∀ a : Nat, a < s.heap.size → ¬ A a) : vx_Zq C n d A s s.heap := by
  refine ⟨va_Zqof hl hini h hA, ?_⟩
  obtain ⟨c, k, i, f, a, cell, h1, h2, h3, h4, h5, h6, h7, h8, h9⟩ := Cond.laysStatic_spec hl
  exact ⟨c, k, i, f, a, cell, h1, h2, h3, h4, h5, h6, h7, h8, h9, hA a (Array.getElem?_eq_some_iff.mp h5).1⟩
theorem vx_isRef {C n d : String} {v : Value} {A : Nat → Prop} {s : State} {args : Array Value} (h : va_Z C n d v A s s.heap) (hv : v.isRef = true) : (Cond.isRef (.static C n d)).before args s = true := by
  obtain ⟨cf, kf, fi, f, a, cell, h1, h2, h3, h4, h5, h6, h7, -⟩ := h
  have he : (Term.static C n d).eval args s none [] s = some v := by
    simp [Term.eval, State.fieldNamed?, h1, h2, h4, h5, h6, h7]
  simp only [Cond.before, Cond.holds, Cond.value, he]
  cases v <;> simp_all [Value.isRef]
theorem vx_isRefq {C n d : String} {A : Nat → Prop} {s : State} {args : Array Value} (h : va_Zq C n d A s s.heap) : (Cond.isRef (.static C n d)).before args s = true := by
  rcases h with h | ⟨t, h⟩
  · exact vx_isRef h rfl
  · exact vx_isRef h rfl
theorem vx_rebase {T : State} (X : Stand p l e R s m args below meth c T locs cells slots) {R' : Room} (hf : R'.frames ≤ R.frames) (hl : R'.locals ≤ R.locals) (hc : cells + R'.cells ≤ R.cells) (hs : slots + R'.slots ≤ R.slots) :
    Stand p l e R' ((T.setVm s.vm).setFrames (.invoking m args :: below)) m args below meth c T [] 0 0 := by
  have htop : (T.setVm s.vm).topJava?.isSome := X.here.top
  have hF : ((T.setVm s.vm).setFrames (.invoking m args :: below)).frames = .invoking m args :: below := State.frames_setFrames _ (State.cur_lt_of_top htop)
  obtain ⟨g₀, hg0⟩ := Option.isSome_iff_exists.mp htop
  obtain ⟨r, hr⟩ := State.topJava?_eq_some.mp hg0
  have hl9 : e.platform.stackLimits (T.setVm s.vm).me = e.platform.stackLimits s.me := X.limits
  have hb9 : (T.setVm s.vm).me.stackBytes = s.me.stackBytes := X.bytes
  refine ⟨X.admits, X.cas, X.clock, hF, ?_, X.hears, X.method, X.code, X.here, X.tail, X.warmed, ?_, ?_, ?_⟩
  · have h := X.room
    have hU : ((T.setVm s.vm).setFrames (.invoking m args :: below)).localsInUse = s.localsInUse := by
      rw [State.localsInUse_invoking hF (meth := meth) (c := c) X.method X.code, State.localsInUse_invoking X.frames X.method X.code]
    simp only [State.hasRoom, Bool.and_eq_true, decide_eq_true_eq] at h ⊢
    obtain ⟨⟨⟨⟨h1, h2, h3, h4, h5, h6⟩, h7⟩, h8⟩, h9⟩ := h
    rw [X.frames, List.length_cons] at h2 h3
    have q1 := X.heapSize
    have q2 := X.used
    simp only [hF, hU, List.length_cons, State.stackLimits_setFrames, State.stackBytes_setFrames, hl9, hb9]
    refine ⟨⟨⟨⟨by omega, by omega, by omega, by omega, by omega, h6⟩, ?_⟩, ?_⟩, X.book⟩
    · show T.heap.size + R'.cells ≤ e.platform.maxCells
      omega
    · show T.slotsUsed + R'.slots ≤ e.platform.maxSlots
      omega
  · rw [State.stackLimits_setFrames]; rfl
  · rw [State.stackBytes_setFrames]; rfl
  · refine ⟨?_, Nat.le_refl _, Nat.le_refl _, ?_, ?_, fun a c9 h9 => ⟨c9, h9, rfl, rfl, fun _ _ => rfl⟩⟩
    · obtain ⟨t, ht, -⟩ := State.frames_cons hr
      show T.setVm s.vm = { ((T.setVm s.vm).setFrames (.invoking m args :: below)).setFrames (T.setVm s.vm).frames with heap := T.heap, slotsUsed := T.slotsUsed }
      rw [State.setFrames_setFrames, State.setFrames_self ht]
      rfl
    · show T.slotsUsed = T.slotsUsed + ((T.heap.toList.drop T.heap.size).map (·.slots.size)).sum
      rw [List.drop_eq_nil_of_le (Nat.le_of_eq Array.length_toList)]
      rfl
    · show ((T.heap.toList.drop T.heap.size).map (·.slots.size)).sum ≤ 0
      rw [List.drop_eq_nil_of_le (Nat.le_of_eq Array.length_toList)]
      exact Nat.le_refl _
theorem vx_throw0 {cc : ByteArray} {pc : Nat} (hexec : p.tables.exec = Jvm.exec) (hb : c.code = cc) (hl : l.stackTraces = false) {own cls : String} {names : List String} {ik ic mc ms : Nat} {A : Nat → Prop}
    (hown : s.vm.findClass own = some m.cls) (hcls : Bundle.fit cls = true) (hnames : ∀ n ∈ names, Bundle.fit n = true)
    (hk : (Cond.classLink own ik cls).before args s = true) (hini : (Cond.initialized cls).before args s = true) (hat : ∀ w ∈ vx_at0 own ic cls names, w.before args s = true)
    (hgood : ∀ w ∈ Cond.classLink own ik cls :: Cond.initialized cls :: vx_at0 own ic cls names, vx_ot w = true)
    (hU : vx_Zq Bundle.tN "UNASSIGNED_STACK" Bundle.steD A s s.heap) (hN : vx_Zq Bundle.tN "SUPPRESSED_SENTINEL" Bundle.listD A s s.heap) (hS : va_S A s.heap H locs) (hsize : ls.size = c.maxLocals)
    (d0 : decode cc pc = .ok (.new ik, 3)) (d3 : decode cc (pc + 3) = .ok (.dup, 1)) (d4 : decode cc (pc + 4) = .ok (.invokespecial ic, 3)) (d7 : decode cc (pc + 7) = .ok (.athrow, 1))
    (hout : ∀ x ∈ c.exceptionTable.toList, covers x (pc + 7) = false)
    (hRframes : names.length + 3 < R.frames) (hRlocals : (rest.map fun v => v.category).sum + (13 * (names.length + 1) + 42) ≤ R.locals) (hRcells : cells + 1 ≤ R.cells) (hRslots : slots + 6 ≤ R.slots) (hlocks : meth.locks = false)
    (hx : ∀ t : State, s.vm.Alike t.vm → H.size ≤ t.heap.size → (∀ q : Nat, q < H.size → t.heap[q]? = H[q]?) → XC cls s t)
    (hf : ∀ z ∈ locs, free z.base) (hc : cells + 1 ≤ mc) (hs : slots + 6 ≤ ms) :
    W p l e R s m args below meth c H locs cells slots (vx_MQ below Qc XC args s mc ms free) (F0 m pc ls rest) := by
  intro T hT X
  have htr : e.platform.stackTraces = false := (show e.platform.stackTraces = l.stackTraces by rw [X.admits.platform]).trans hl
  have Y := vx_rebase X (R' := { frames := R.frames, locals := R.locals, cells := 1, slots := 6 }) (Nat.le_refl _) (Nat.le_refl _) hRcells hRslots
  obtain ⟨s', hA⟩ : ∃ z, z = (T.setVm s.vm).setFrames (.invoking m args :: below) := ⟨_, rfl⟩
  rw [← hA] at Y
  have hvm : s'.vm = s.vm := by rw [hA]; rfl
  have hhp : s'.heap = H := by rw [hA]; exact hT
  have hW0 : s.WarmedH s'.vm := by rw [hvm]; exact State.WarmedH.refl s
  have hat' : ∀ w ∈ vx_at0 own ic cls names, w.before args s' = true := fun w hw => vx_ot_at hW0 hvm.symm (hgood w (List.mem_cons_of_mem _ (List.mem_cons_of_mem _ hw))) (hat w hw)
  have hk' : (Cond.classLink own ik cls).before args s' = true := vx_ot_at hW0 hvm.symm (hgood _ List.mem_cons_self) hk
  have hini' : (Cond.initialized cls).before args s' = true := vx_ot_at hW0 hvm.symm (hgood _ (List.mem_cons_of_mem _ List.mem_cons_self)) hini
  have hU' : vx_Zq Bundle.tN "UNASSIGNED_STACK" Bundle.steD A s' s'.heap := by rw [hhp]; exact vx_Zq.moved hW0.alike (hU.kept hS.2.1)
  have hN' : vx_Zq Bundle.tN "SUPPRESSED_SENTINEL" Bundle.listD A s' s'.heap := by rw [hhp]; exact vx_Zq.moved hW0.alike (hN.kept hS.2.1)
  have h : ∀ w ∈ Bundle.ownAtoms0 own ic cls names, w.before args s' = true := vx_own hat' (vx_isRefq hU'.1) (vx_isRefq hN'.1) hU'.2.word hN'.2.word
  have hown' : s'.vm.findClass own = some m.cls := by rw [hvm]; exact hown
  have hins : (Cond.instantiable cls 6).before args s' = true := h _ (by simp [Bundle.ownAtoms0])
  obtain ⟨vm₁, cX, kX, hfX, hkX, -, -, X₁, st1⟩ := Y.newCold hexec (own := own) (C := cls) (index := ik) (n := 6) hown' hk' hins hini'
    (g := F0 m pc ls rest) rfl (by rw [hb]; exact d0) (Nat.le_refl _) (Nat.le_refl _)
  generalize hT1 : (T.setVm vm₁).pushCell { cls := cX, slots := kX.instanceTypes.map defaultValue, vm := .none } = T1 at X₁ st1
  have hcat : (Value.ref T.heap.size).category = 1 := rfl
  have hcellA : T1.heap[T.heap.size]? = some (freshCell cX kX) := by rw [← hT1]; exact State.heap_pushCell_size _ _
  have d3' : decode c.code (pc + 3) = .ok (.dup, 1) := by rw [hb]; exact d3
  obtain ⟨U, hsteps, hrun, hend, hW, hsame, ce, hce, hO⟩ := X₁.ctorThrow0 hexec htr (own := own) (cls := cls) (names := names) (ic := ic) hown' hcls hnames h (fun x hx => nomatch hx) hfX hkX hcellA (by rw [hhp, hT]; exact Nat.le_refl _)
    (g := { method := m, pc := pc + 4, locals := ls, stack := .ref T.heap.size :: .ref T.heap.size :: rest, locked := none }) rfl hsize rfl rfl (rest := rest) rfl
    (by rw [hb]; exact d4) (by rw [hb]; exact d7) hout hRframes (by simp only [List.map_cons, List.sum_cons, hcat]; omega) hlocks
  obtain ⟨f1, f2⟩ := vx_frame hsame
  rw [hhp] at f1 f2
  have hWs : s.WarmedH U.vm := State.WarmedH.trans hW0 hW
  have hcl : s.vm.findClass cls = some ce.cls := by
    have h9 := hO.cls
    rw [hvm] at h9
    exact h9
  have hall : s.sameButNew ({ U with vm := s.vm } : State) locs mc ms := by
    subst hA
    obtain ⟨e1, e2⟩ := hsame
    rw [State.setFrames_setFrames] at e1
    have h2 : (T.setVm s.vm).sameButNew ({ U with vm := s.vm } : State) [] (0 + 1) (0 + 6) := ⟨e1, e2⟩
    have h3 := X.same.trans h2
    rw [List.append_nil] at h3
    exact h3.mono hc hs
  refine ⟨U, ?_, .threw T.heap.size, hrun, hend, Or.inr ⟨T.heap.size, rfl, cls, ce, locs, hx U hWs.alike f1 (fun q hq => f2 q hq (fun z hz => nomatch hz)), hce, hO.vm, hcl, hWs, hall, hf⟩⟩
  refine st1 _ ?_
  show Steps p.tables e below (T1.setTop { method := m, pc := pc + 3, locals := ls, stack := .ref T.heap.size :: rest, locked := none }) _
  jvm_step X₁.here [X₁.here.top, hexec, d3', Value.category]
  exact hsteps
theorem vx_throwS {cc : ByteArray} {pc : Nat} (hexec : p.tables.exec = Jvm.exec) (hb : c.code = cc) (hl : l.stackTraces = false) {own cls text : String} {names : List String} {ik is ic mc ms sa : Nat} {A : Nat → Prop}
    (hown : s.vm.findClass own = some m.cls) (hcls : Bundle.fit cls = true) (hnames : ∀ n ∈ names, Bundle.fit n = true)
    (hk : (Cond.classLink own ik cls).before args s = true) (hini : (Cond.initialized cls).before args s = true) (hstr : vk_R own is text sa s) (hat : ∀ w ∈ vx_atS own ic cls names, w.before args s = true)
    (hgood : ∀ w ∈ Cond.classLink own ik cls :: Cond.initialized cls :: vx_atS own ic cls names, vx_ot w = true)
    (hU : vx_Zq Bundle.tN "UNASSIGNED_STACK" Bundle.steD A s s.heap) (hN : vx_Zq Bundle.tN "SUPPRESSED_SENTINEL" Bundle.listD A s s.heap) (hS : va_S A s.heap H locs) (hsize : ls.size = c.maxLocals)
    (d0 : decode cc pc = .ok (.new ik, 3)) (d3 : decode cc (pc + 3) = .ok (.dup, 1)) (d4 : decode cc (pc + 4) = .ok (.ldc is, 2)) (d6 : decode cc (pc + 6) = .ok (.invokespecial ic, 3)) (d9 : decode cc (pc + 9) = .ok (.athrow, 1))
    (hout : ∀ x ∈ c.exceptionTable.toList, covers x (pc + 9) = false)
    (hRframes : names.length + 3 < R.frames) (hRlocals : (rest.map fun v => v.category).sum + (13 * (names.length + 1) + 43) ≤ R.locals) (hRcells : cells + 1 ≤ R.cells) (hRslots : slots + 6 ≤ R.slots) (hlocks : meth.locks = false)
    (hx : ∀ t : State, s.vm.Alike t.vm → H.size ≤ t.heap.size → (∀ q : Nat, q < H.size → t.heap[q]? = H[q]?) → XC cls s t)
    (hf : ∀ z ∈ locs, free z.base) (hc : cells + 1 ≤ mc) (hs : slots + 6 ≤ ms) :
    W p l e R s m args below meth c H locs cells slots (vx_MQ below Qc XC args s mc ms free) (F0 m pc ls rest) := by
  intro T hT X
  have htr : e.platform.stackTraces = false := (show e.platform.stackTraces = l.stackTraces by rw [X.admits.platform]).trans hl
  have Y := vx_rebase X (R' := { frames := R.frames, locals := R.locals, cells := 1, slots := 6 }) (Nat.le_refl _) (Nat.le_refl _) hRcells hRslots
  obtain ⟨s', hA⟩ : ∃ z, z = (T.setVm s.vm).setFrames (.invoking m args :: below) := ⟨_, rfl⟩
  rw [← hA] at Y
  have hvm : s'.vm = s.vm := by rw [hA]; rfl
  have hhp : s'.heap = H := by rw [hA]; exact hT
  have hW0 : s.WarmedH s'.vm := by rw [hvm]; exact State.WarmedH.refl s
  have hat' : ∀ w ∈ vx_atS own ic cls names, w.before args s' = true := fun w hw => vx_ot_at hW0 hvm.symm (hgood w (List.mem_cons_of_mem _ (List.mem_cons_of_mem _ hw))) (hat w hw)
  have hk' : (Cond.classLink own ik cls).before args s' = true := vx_ot_at hW0 hvm.symm (hgood _ List.mem_cons_self) hk
  have hini' : (Cond.initialized cls).before args s' = true := vx_ot_at hW0 hvm.symm (hgood _ (List.mem_cons_of_mem _ List.mem_cons_self)) hini
  have hU' : vx_Zq Bundle.tN "UNASSIGNED_STACK" Bundle.steD A s' s'.heap := by rw [hhp]; exact vx_Zq.moved hW0.alike (hU.kept hS.2.1)
  have hN' : vx_Zq Bundle.tN "SUPPRESSED_SENTINEL" Bundle.listD A s' s'.heap := by rw [hhp]; exact vx_Zq.moved hW0.alike (hN.kept hS.2.1)
  have h : ∀ w ∈ Bundle.ownAtoms own ic cls names, w.before args s' = true := vx_own hat' (vx_isRefq hU'.1) (vx_isRefq hN'.1) hU'.2.word hN'.2.word
  have hown' : s'.vm.findClass own = some m.cls := by rw [hvm]; exact hown
  have hins : (Cond.instantiable cls 6).before args s' = true := h _ (by simp [Bundle.ownAtoms])
  obtain ⟨vm₁, cX, kX, hfX, hkX, -, -, X₁, st1⟩ := Y.newCold hexec (own := own) (C := cls) (index := ik) (n := 6) hown' hk' hins hini'
    (g := F0 m pc ls rest) rfl (by rw [hb]; exact d0) (Nat.le_refl _) (Nat.le_refl _)
  generalize hT1 : (T.setVm vm₁).pushCell { cls := cX, slots := kX.instanceTypes.map defaultValue, vm := .none } = T1 at X₁ st1
  have hcat : (Value.ref T.heap.size).category = 1 := rfl
  have hcellA : T1.heap[T.heap.size]? = some (freshCell cX kX) := by rw [← hT1]; exact State.heap_pushCell_size _ _
  have d3' : decode c.code (pc + 3) = .ok (.dup, 1) := by rw [hb]; exact d3
  have d4' : decode c.code (pc + 4) = .ok (.ldc is, 2) := by rw [hb]; exact d4
  have hstr' : vk_R own is text sa s' := vk_R.warm hW0 hstr
  obtain ⟨U, hsteps, hrun, hend, hW, hsame, ce, hce, hO⟩ := X₁.ctorThrowS hexec htr (own := own) (cls := cls) (names := names) (ic := ic) hown' hcls hnames h (fun x hx => nomatch hx) hfX hkX hcellA (by rw [hhp, hT]; exact Nat.le_refl _) (msg := .ref sa) rfl
    (g := { method := m, pc := pc + 6, locals := ls, stack := .ref sa :: .ref T.heap.size :: .ref T.heap.size :: rest, locked := none }) rfl hsize rfl rfl (rest := rest) rfl
    (by rw [hb]; exact d6) (by rw [hb]; exact d9) hout hRframes (by simp only [List.map_cons, List.sum_cons, hcat]; omega) hlocks
  obtain ⟨f1, f2⟩ := vx_frame hsame
  rw [hhp] at f1 f2
  have hWs : s.WarmedH U.vm := State.WarmedH.trans hW0 hW
  have hcl : s.vm.findClass cls = some ce.cls := by
    have h9 := hO.cls
    rw [hvm] at h9
    exact h9
  have hall : s.sameButNew ({ U with vm := s.vm } : State) locs mc ms := by
    subst hA
    obtain ⟨e1, e2⟩ := hsame
    rw [State.setFrames_setFrames] at e1
    have h2 : (T.setVm s.vm).sameButNew ({ U with vm := s.vm } : State) [] (0 + 1) (0 + 6) := ⟨e1, e2⟩
    have h3 := X.same.trans h2
    rw [List.append_nil] at h3
    exact h3.mono hc hs
  refine ⟨U, ?_, .threw T.heap.size, hrun, hend, Or.inr ⟨T.heap.size, rfl, cls, ce, locs, hx U hWs.alike f1 (fun q hq => f2 q hq (fun z hz => nomatch hz)), hce, hO.vm, hcl, hWs, hall, hf⟩⟩
  refine st1 _ ?_
  show Steps p.tables e below (T1.setTop { method := m, pc := pc + 3, locals := ls, stack := .ref T.heap.size :: rest, locked := none }) _
  jvm_step X₁.here [X₁.here.top, hexec, d3', Value.category]
  exact X₁.ldcString hexec (own := own) (text := text) (index := is) (a := sa) hown' hstr'.1 hstr'.2
    (g := { method := m, pc := pc + 4, locals := ls, stack := .ref T.heap.size :: .ref T.heap.size :: rest, locked := none }) rfl d4' _ hsteps
theorem vx_throwSW {cc : ByteArray} {pc : Nat} (hexec : p.tables.exec = Jvm.exec) (hb : c.code = cc) (hl : l.stackTraces = false) {own cls text : String} {names : List String} {ik is ic mc ms sa : Nat} {A : Nat → Prop}
    (hown : s.vm.findClass own = some m.cls) (hcls : Bundle.fit cls = true) (hnames : ∀ n ∈ names, Bundle.fit n = true)
    (hk : (Cond.classLink own ik cls).before args s = true) (hini : (Cond.initialized cls).before args s = true) (hstr : vk_R own is text sa s) (hat : ∀ w ∈ vx_atS own ic cls names, w.before args s = true)
    (hgood : ∀ w ∈ Cond.classLink own ik cls :: Cond.initialized cls :: vx_atS own ic cls names, vx_ot w = true)
    (hU : vx_Zq Bundle.tN "UNASSIGNED_STACK" Bundle.steD A s s.heap) (hN : vx_Zq Bundle.tN "SUPPRESSED_SENTINEL" Bundle.listD A s s.heap) (hS : va_S A s.heap H locs) (hsize : ls.size = c.maxLocals)
    (d0 : decode cc pc = .ok (.new ik, 3)) (d3 : decode cc (pc + 3) = .ok (.dup, 1)) (d4 : decode cc (pc + 4) = .ok (.ldc_w is, 3)) (d7 : decode cc (pc + 7) = .ok (.invokespecial ic, 3)) (d10 : decode cc (pc + 10) = .ok (.athrow, 1))
    (hout : ∀ x ∈ c.exceptionTable.toList, covers x (pc + 10) = false)
    (hRframes : names.length + 3 < R.frames) (hRlocals : (rest.map fun v => v.category).sum + (13 * (names.length + 1) + 43) ≤ R.locals) (hRcells : cells + 1 ≤ R.cells) (hRslots : slots + 6 ≤ R.slots) (hlocks : meth.locks = false)
    (hx : ∀ t : State, s.vm.Alike t.vm → H.size ≤ t.heap.size → (∀ q : Nat, q < H.size → t.heap[q]? = H[q]?) → XC cls s t)
    (hf : ∀ z ∈ locs, free z.base) (hc : cells + 1 ≤ mc) (hs : slots + 6 ≤ ms) :
    W p l e R s m args below meth c H locs cells slots (vx_MQ below Qc XC args s mc ms free) (F0 m pc ls rest) := by
  intro T hT X
  have htr : e.platform.stackTraces = false := (show e.platform.stackTraces = l.stackTraces by rw [X.admits.platform]).trans hl
  have Y := vx_rebase X (R' := { frames := R.frames, locals := R.locals, cells := 1, slots := 6 }) (Nat.le_refl _) (Nat.le_refl _) hRcells hRslots
  obtain ⟨s', hA⟩ : ∃ z, z = (T.setVm s.vm).setFrames (.invoking m args :: below) := ⟨_, rfl⟩
  rw [← hA] at Y
  have hvm : s'.vm = s.vm := by rw [hA]; rfl
  have hhp : s'.heap = H := by rw [hA]; exact hT
  have hW0 : s.WarmedH s'.vm := by rw [hvm]; exact State.WarmedH.refl s
  have hat' : ∀ w ∈ vx_atS own ic cls names, w.before args s' = true := fun w hw => vx_ot_at hW0 hvm.symm (hgood w (List.mem_cons_of_mem _ (List.mem_cons_of_mem _ hw))) (hat w hw)
  have hk' : (Cond.classLink own ik cls).before args s' = true := vx_ot_at hW0 hvm.symm (hgood _ List.mem_cons_self) hk
  have hini' : (Cond.initialized cls).before args s' = true := vx_ot_at hW0 hvm.symm (hgood _ (List.mem_cons_of_mem _ List.mem_cons_self)) hini
  have hU' : vx_Zq Bundle.tN "UNASSIGNED_STACK" Bundle.steD A s' s'.heap := by rw [hhp]; exact vx_Zq.moved hW0.alike (hU.kept hS.2.1)
  have hN' : vx_Zq Bundle.tN "SUPPRESSED_SENTINEL" Bundle.listD A s' s'.heap := by rw [hhp]; exact vx_Zq.moved hW0.alike (hN.kept hS.2.1)
  have h : ∀ w ∈ Bundle.ownAtoms own ic cls names, w.before args s' = true := vx_own hat' (vx_isRefq hU'.1) (vx_isRefq hN'.1) hU'.2.word hN'.2.word
  have hown' : s'.vm.findClass own = some m.cls := by rw [hvm]; exact hown
  have hins : (Cond.instantiable cls 6).before args s' = true := h _ (by simp [Bundle.ownAtoms])
  obtain ⟨vm₁, cX, kX, hfX, hkX, -, -, X₁, st1⟩ := Y.newCold hexec (own := own) (C := cls) (index := ik) (n := 6) hown' hk' hins hini'
    (g := F0 m pc ls rest) rfl (by rw [hb]; exact d0) (Nat.le_refl _) (Nat.le_refl _)
  generalize hT1 : (T.setVm vm₁).pushCell { cls := cX, slots := kX.instanceTypes.map defaultValue, vm := .none } = T1 at X₁ st1
  have hcat : (Value.ref T.heap.size).category = 1 := rfl
  have hcellA : T1.heap[T.heap.size]? = some (freshCell cX kX) := by rw [← hT1]; exact State.heap_pushCell_size _ _
  have d3' : decode c.code (pc + 3) = .ok (.dup, 1) := by rw [hb]; exact d3
  have d4' : decode c.code (pc + 4) = .ok (.ldc_w is, 3) := by rw [hb]; exact d4
  have hstr' : vk_R own is text sa s' := vk_R.warm hW0 hstr
  obtain ⟨U, hsteps, hrun, hend, hW, hsame, ce, hce, hO⟩ := X₁.ctorThrowS hexec htr (own := own) (cls := cls) (names := names) (ic := ic) hown' hcls hnames h (fun x hx => nomatch hx) hfX hkX hcellA (by rw [hhp, hT]; exact Nat.le_refl _) (msg := .ref sa) rfl
    (g := { method := m, pc := pc + 7, locals := ls, stack := .ref sa :: .ref T.heap.size :: .ref T.heap.size :: rest, locked := none }) rfl hsize rfl rfl (rest := rest) rfl
    (by rw [hb]; exact d7) (by rw [hb]; exact d10) hout hRframes (by simp only [List.map_cons, List.sum_cons, hcat]; omega) hlocks
  obtain ⟨f1, f2⟩ := vx_frame hsame
  rw [hhp] at f1 f2
  have hWs : s.WarmedH U.vm := State.WarmedH.trans hW0 hW
  have hcl : s.vm.findClass cls = some ce.cls := by
    have h9 := hO.cls
    rw [hvm] at h9
    exact h9
  have hall : s.sameButNew ({ U with vm := s.vm } : State) locs mc ms := by
    subst hA
    obtain ⟨e1, e2⟩ := hsame
    rw [State.setFrames_setFrames] at e1
    have h2 : (T.setVm s.vm).sameButNew ({ U with vm := s.vm } : State) [] (0 + 1) (0 + 6) := ⟨e1, e2⟩
    have h3 := X.same.trans h2
    rw [List.append_nil] at h3
    exact h3.mono hc hs
  refine ⟨U, ?_, .threw T.heap.size, hrun, hend, Or.inr ⟨T.heap.size, rfl, cls, ce, locs, hx U hWs.alike f1 (fun q hq => f2 q hq (fun z hz => nomatch hz)), hce, hO.vm, hcl, hWs, hall, hf⟩⟩
  refine st1 _ ?_
  show Steps p.tables e below (T1.setTop { method := m, pc := pc + 3, locals := ls, stack := .ref T.heap.size :: rest, locked := none }) _
  jvm_step X₁.here [X₁.here.top, hexec, d3', Value.category]
  exact X₁.ldcStringW hexec (own := own) (text := text) (index := is) (a := sa) hown' hstr'.1 hstr'.2
    (g := { method := m, pc := pc + 4, locals := ls, stack := .ref T.heap.size :: .ref T.heap.size :: rest, locked := none }) rfl d4' _ hsteps
end Ends
section Bodies
variable {l : Launch}
theorem vx_ofW {y : MethodName} {ws ws' : List Cond} {rm : Room} {Pc : Array Value → State → Prop} {Qc : Array Value → State → Outcome → State → Prop} {XC : String → State → State → Prop} {mc ms : Nat} {free : Addr → Prop} {cc : ByteArray} {maxL : Nat} {ret : Option FieldType}
    (hy : plainName y.cls = true) (hw : ws = Cond.code y cc maxL ret :: ws')
    (body : ∀ p e s m args below meth c s₁, BodyLoose p l y (headSpec ws rm) cc maxL ret e s m args below meth c s₁ → c.maxLocals = maxL → (∀ x ∈ c.exceptionTable.toList, False) → Pc args s →
      W p l e (headSpec ws rm).room s m args below meth c s.heap [] 0 0 (vx_MQ below Qc XC args s mc ms free) (entryFrame m args maxL)) : vx_Met l y ws rm Pc Qc XC mc ms free := by
  refine MetFree.of_bodyS (code := cc) (maxLocals := maxL) (ret := ret) hy ?_ ?_
  · intro args s m h hn
    obtain ⟨meth, c, h1, h2, h3, h4, h5, h6, -, -⟩ := Cond.code_spec hn (atoms_spec (ws := ws) h _ (by rw [hw]; exact List.mem_cons_self))
    exact ⟨meth, c, h1, h2, h3, h4, h5, h6⟩
  · intro p e s m args below meth c s₁ B hml hP _
    have hh0 : s₁.heap = s.heap := by rw [B.state]; rfl
    have ht : ∀ x ∈ c.exceptionTable.toList, False := by
      obtain ⟨meth9, c9, h1, h2, -, -, -, -, h7, -⟩ := Cond.code_spec B.named (atoms_spec (ws := ws) B.pre _ (by rw [hw]; exact List.mem_cons_self))
      cases Option.some.inj (h1.symm.trans B.method)
      cases Option.some.inj (h2.symm.trans (Stand.of_body B).code)
      intro x hx
      rw [Array.isEmpty_iff.mp h7] at hx
      cases hx
    obtain ⟨t, a1, o, b1, b2, b3⟩ := body p e s m args below meth c s₁ B hml ht hP s₁ hh0 (Stand.of_body B)
    exact ⟨t, o, a1, b1, b2, b3⟩
theorem vx_table {p : Program} {x y : MethodName} {S : Spec} {cc bytes : ByteArray} {maxL maxL' : Nat} {ret ret' : Option FieldType} {e : Env} {s s₁ : State} {m : MethodId} {args : Array Value} {below : List Frame} {meth : Method} {c : Code} {hh : List (Nat × Nat × Nat × Nat)}
    (B : BodyLoose p l y S cc maxL ret e s m args below meth c s₁) (h : (Cond.codeWith y bytes maxL' ret' hh).before args s = true) : c.exceptionTable.toList = tableOf hh := by
  obtain ⟨m9, meth9, c9, hn9, h1, h2, -, -, h6, -⟩ := Cond.codeWith_spec h
  cases Option.some.inj (hn9.symm.trans B.named)
  cases Option.some.inj (h1.symm.trans B.method)
  cases Option.some.inj (h2.symm.trans (Stand.of_body B).code)
  rw [← h6, table_eq]
end Bodies
end VXA
section VXS
variable {p : Program} {l : Launch} {e : Env} {R : Room} {s : State} {m : MethodId} {args : Array Value} {below : List Frame} {meth : Method} {c : Code} {T : State} {H : Heap} {locs : List Loc} {cells slots : Nat}
abbrev vx_CSW (R : Room) (s : State) (args : Array Value) (own : String) (index : Nat) (y : MethodName) (bytes : ByteArray) (maxL : Nat) (ret : Option FieldType) (hh : List (Nat × Nat × Nat × Nat)) (ws : List Cond) (rm : Room) (mc ms n : Nat) : Prop :=
  (rm.cells = mc ∧ rm.slots = ms ∧ rm.frames + 1 ≤ R.frames ∧ 8 + (maxL + 11) + rm.locals ≤ R.locals ∧ (∀ w ∈ ws, ∀ (a' : Array Value) (U : State), s.WarmedH U.vm → w.before a' U = true) ∧ Cond.codeWith y bytes maxL ret hh ∈ ws) ∧
  (Cond.codeWith y bytes maxL ret hh).before args s = true ∧ (Cond.initialized y.cls).before args s = true ∧ (y.cls ≠ "java/lang/invoke/MethodHandle" ∧ y.cls ≠ "java/lang/invoke/VarHandle") ∧
  (∀ sig, parseMethodDescriptor y.desc = some sig → n = sig.parameters.length) ∧ (Cond.methodLink own index y).before args s = true ∧ (Cond.static y).before args s = true
theorem vx_cwSW {own : String} {index maxL mc ms : Nat} {y : MethodName} {bytes : ByteArray} {ret : Option FieldType} {hh : List (Nat × Nat × Nat × Nat)} {Ts ws ws' : List Cond} {rm : Room} (n : Nat) (ht : ∀ w ∈ Ts, w.before args s = true) (hT : GoodIn Ts (va_wsS own index y ws)) (hw : ws = Cond.codeWith y bytes maxL ret hh :: ws') (hrc : rm.cells = mc) (hrs : rm.slots = ms)
    (hd : y.cls ≠ "java/lang/invoke/MethodHandle" ∧ y.cls ≠ "java/lang/invoke/VarHandle" ∧ (parseMethodDescriptor y.desc).map (fun d => d.parameters.length) = some n) (hR : rm.frames + 1 ≤ R.frames ∧ 8 + (maxL + 11) + rm.locals ≤ R.locals) :
    vx_CSW R s args own index y bytes maxL ret hh ws rm mc ms n := by
  have ok : ∀ w ∈ va_wsS own index y ws, w.before args s = true := fun w h => ht w (hT w h).1
  have hG : GoodIn Ts ws := fun w h => hT w (by unfold va_wsS; exact List.mem_append_right _ h)
  have hc : Cond.codeWith y bytes maxL ret hh ∈ ws := by rw [hw]; exact List.mem_cons_self
  refine ⟨⟨hrc, hrs, hR.1, hR.2, pay_in ht hG, hc⟩, ht _ (hG _ hc).1, ok _ (by simp [va_wsS]), ⟨hd.1, hd.2.1⟩, fun sig h => ?_, ok _ (by simp [va_wsS]), ok _ (by simp [va_wsS])⟩
  have h2 := hd.2.2
  rw [h] at h2
  exact (Option.some.inj h2).symm
theorem vx_callSW (X : Stand p l e R s m args below meth c T locs cells slots) (hexec : p.tables.exec = Jvm.exec) {own : String} {index : Nat} {y : MethodName} {bytes : ByteArray} {maxL : Nat} {ret : Option FieldType} {hh : List (Nat × Nat × Nat × Nat)}
    (hown : s.vm.findClass own = some m.cls) (hlink : (Cond.methodLink own index y).before args s = true) (hstat : (Cond.static y).before args s = true) (hinit : (Cond.initialized y.cls).before args s = true)
    (hcode : (Cond.codeWith y bytes maxL ret hh).before args s = true) (hy : y.cls ≠ "java/lang/invoke/MethodHandle" ∧ y.cls ≠ "java/lang/invoke/VarHandle")
    {W9 : Nat} {Pre : Pt → Array Value → Prop} {Post : Pt → Array Value → Option Value → Pt → Prop} (hK : Back l R p e below s args y 3 W9 Pre Post)
    {g : JFrame} (hg : g.method = m) (hsize : g.locals.size = c.maxLocals) {argsL rest : List Value} (hlen : ∀ sig, parseMethodDescriptor y.desc = some sig → argsL.length = sig.parameters.length)
    (hstack : g.stack = argsL.reverse ++ rest) (hW : 2 * g.monitorRoom + (rest.map fun v => v.category).sum ≤ W9) (hdg : decode c.code g.pc = .ok (.invokestatic index, 3))
    (hpre : ∀ vm₁, s.WarmedH vm₁ → Pre ⟨T.setVm vm₁, locs, cells, slots⟩ argsL.toArray) :
    ∃ (v : Option Value) (vm₁ : Vm) (B : Pt), s.WarmedH vm₁ ∧ Stand p l e R s m args below meth c B.U B.locs B.cells B.slots ∧ Post ⟨T.setVm vm₁, locs, cells, slots⟩ argsL.toArray v B ∧
      ∀ target, Steps p.tables e below (B.U.setTop { g with pc := g.pc + 3, stack := v.toList ++ rest }) target → Steps p.tables e below (T.setTop g) target := by
  obtain ⟨mk, methM, cM, hnamed, hmethM, -, -, -, -, -, -, hsigM⟩ := Cond.codeWith_spec hcode
  have hstatic : methM.isStatic = true := Cond.static_spec hnamed hmethM hstat
  obtain ⟨kP, hkP, -⟩ := className_of_methodNamed hnamed
  have hinitP : kP.init = .initialized := Cond.initialized_spec (findClass_of_methodNamed hnamed) hkP hinit
  obtain ⟨vm₁, X₁, hstep₁⟩ := X.invokestatic hexec hown hlink hnamed hmethM hstatic hkP hinitP hy (g := g) hg (argsL := argsL) (rest := rest) (hlen _ hsigM) hstack hdg
  obtain ⟨v, B, X', hpost, hsteps⟩ := hK m meth c ⟨T.setVm vm₁, locs, cells, slots⟩ { g with stack := rest } (.invokestatic index) mk argsL.toArray X₁ hg hsize hdg hW (X₁.named hnamed) (hpre vm₁ X₁.warmed)
  exact ⟨v, vm₁, B, X₁.warmed, X', hpost, fun target h => hstep₁ _ fun acts => by rw [doInvoke_state]; exact hsteps.trans h⟩
theorem vx_runSW {y : MethodName} {bytes cc : ByteArray} {maxL nL mc ms n index : Nat} {ret : Option FieldType} {hh : List (Nat × Nat × Nat × Nat)} {ws : List Cond} {rm : Room} {Pc : Array Value → State → Prop} {Qc : Array Value → State → Outcome → State → Prop} {free : Addr → Prop} {Ts : List Cond} {own : String} {As rest : List Value} {g : JFrame}
    (S : CallFix p m c cc nL s args Ts own) (hM : Met l y ws rm Pc Qc mc ms free) (cw : vx_CSW R s args own index y bytes maxL ret hh ws rm mc ms n) (hp : PreS s H Pc As)
    (hg : g.method = m) (hn : As.length = n) (hsize : g.locals.size = nL) (hstack : g.stack = As.reverse ++ rest) (hW : 2 * g.monitorRoom + (rest.map fun v => v.category).sum ≤ 8) (hdg : decode cc g.pc = .ok (.invokestatic index, 3)) (hf : cells + mc ≤ R.cells ∧ slots + ms ≤ R.slots) :
    va_Run p l e R s m args below meth c H locs cells slots mc ms g rest (Qc As.toArray) (free) := by
  obtain ⟨⟨hrc, hrs, hfr, hlo, hws, hcw⟩, hcode, hini, hy, hlen, hl, hstt⟩ := cw
  have hK : Back l R p e below s args y 3 8 (PreOf R mc ms Pc) (PostOf Qc mc ms free) := va_backW (hh := hh) (bytes := bytes) (maxL := maxL) (ret := ret) hM hp.1 hrc hrs hfr hlo hws hcw (fun a' U hW => word_at hW (Or.inl (by first | rfl | simp [Cond.onTables, Cond.keeps, Cond.steady])) hini)
  obtain ⟨hx, hb, hml, ho, -⟩ := S
  intro T hT X
  obtain ⟨v, vm₁, ⟨U', l2, c2, s2⟩, hW₁, X', ⟨g', mk, t, L, e1, e2, hq, h1, hL, h2, h3⟩, st⟩ := vx_callSW X hx (hh := hh) (bytes := bytes) (maxL := maxL) (ret := ret) ho hl hstt hini hcode hy hK hg (hsize.trans hml.symm) (argsL := As) (rest := rest) (fun sig h => hn.trans (hlen sig h)) hstack hW (by rw [hb]; exact hdg)
    (fun vm₁ hW₁ => ⟨hf.1, hf.2, hp.2 (T.setVm vm₁) hT hW₁⟩)
  dsimp only [Pt.U, Pt.locs, Pt.cells, Pt.slots] at X' e1 e2 h1 h2 h3 st
  subst h1; subst h2; subst h3
  exact ⟨v, (T.setVm vm₁).calling g' mk As.toArray, t, U', L, hT, X', hL, e1, e2, hq, st⟩
theorem vx_lt {D : va_G} {cl : List vw_C} {ws : va_W} {H1 : Heap} (h : va_P D cl ws H1) {k : Nat} {q : Nat × va_E} (hk : ws[k]? = some q) : q.1 < H1.size := (h k q hk).lt
end VXS
section VXH
section
variable {l : Launch} {R : Room} {p : Program} {e : Env} {below : List Frame} {s : State} {sargs : Array Value} {y : MethodName} {len W9 : Nat}
theorem vx_backW {ws : List Cond} {rm : Room} {Pc : Array Value → State → Prop} {Qc : Array Value → State → Outcome → State → Prop} {XC : String → State → State → Prop} {mc ms : Nat} {free : Addr → Prop} {bytes : ByteArray} {maxL : Nat} {ret : Option FieldType} {hh : List (Nat × Nat × Nat × Nat)}
    (hM : vx_Met l y ws rm Pc Qc XC mc ms free) (hblind : FrameBlind Pc) (hrc : rm.cells = mc) (hrs : rm.slots = ms)
    (hframes : rm.frames + 1 ≤ R.frames) (hlocals : W9 + (maxL + 11) + rm.locals ≤ R.locals)
    (hws : ∀ w ∈ ws, ∀ a' U, s.WarmedH U.vm → w.before a' U = true) (hcode : Cond.codeWith y bytes maxL ret hh ∈ ws) (hinit : ∀ a' U, s.WarmedH U.vm → (Cond.initialized y.cls).before a' U = true) :
    vx_Back l R p e below s sargs y len W9 (PreOf R mc ms Pc) (PostOf Qc mc ms free) (vx_Post XC mc ms free) := by
  intro m meth c A g ig mk a X hg hsize hdg hW hn hp
  have h1 : (headSpec ws rm).pre.before a A.U = true := atoms_intro fun w hw => hws w hw _ _ X.warmed
  have h2 : (Cond.codeWith y bytes maxL ret hh).before a A.U = true := hws _ hcode _ _ X.warmed
  have h3 : (Cond.initialized y.cls).before a A.U = true := hinit _ _ X.warmed
  have h4 : A.cells + (headSpec ws rm).room.cells ≤ R.cells := by rw [show (headSpec ws rm).room.cells = mc from hrc]; exact hp.1
  have h5 : A.slots + (headSpec ws rm).room.slots ≤ R.slots := by rw [show (headSpec ws rm).room.slots = ms from hrs]; exact hp.2.1
  have hPc : Pc a (A.U.calling g mk a) := hblind _ _ _ _ hp.2.2
  obtain ⟨U, Ls, c0, s0⟩ := A
  dsimp only [Pt.U, Pt.locs, Pt.cells, Pt.slots] at h1 h2 h3 h4 h5 X hn hPc ⊢
  obtain ⟨m9, methY, cY, hn9, hmY, hcY, -, hlY, -⟩ := Cond.codeWith_spec h2
  cases Option.some.inj (hn9.symm.trans hn)
  obtain ⟨kY, hkY, -⟩ := className_of_methodNamed hn
  have hinitY : kY.init = .initialized := Cond.initialized_spec (findClass_of_methodNamed hn) hkY h3
  have h : At U g.method c below := by rw [hg]; exact X.here
  have hlocals9 : W9 + (maxL + 11) + (headSpec ws rm).room.locals ≤ R.locals := hlocals
  have happ : (headSpec ws rm).appliesLoose y e.platform (U.calling g mk a) = true :=
    Spec.appliesLoose_calling (g := g) h hdg hn hkY hinitY
      (X.room_calling (g := g) (R' := (headSpec ws rm).room) hsize hmY hcY hframes (by rw [hlY]; omega) h4 h5) h1
  obtain ⟨mid, hmid⟩ := h.above
  have hfr : (U.setTop g).frames = (.java g :: mid) ++ below := by rw [State.frames_setTop' g h.top, hmid]; rfl
  obtain ⟨o, s₂, hsteps, -, hend, hq⟩ := Steps.callFree hM p X.admits X.cas X.clock (acts := []) hfr happ hPc trivial
  have hq' : vx_Q Qc XC mc ms free a (U.calling g mk a) o s₂ := hq
  rw [State.frames_setTop' g h.top] at hend
  obtain ⟨g₀, hg0⟩ := Option.isSome_iff_exists.mp h.top
  obtain ⟨r, hr⟩ := State.topJava?_eq_some.mp hg0
  have hr' : (({ U with heap := s₂.heap, slotsUsed := s₂.slotsUsed } : State).setVm s₂.vm).frames = .java g₀ :: r := hr
  rcases hq' with ⟨hqc, L, hfe, hL⟩ | ⟨q, rfl, E, ce, L, hx, hce, hcv, hcl, hW₂, hsm, hL⟩
  · obtain ⟨⟨v, rfl⟩, hW₂, e2, q2, q3, q4, q5, q6⟩ := id hfe
    have e3 : s₂ = ({ (U.calling g mk a).setFrames s₂.frames with heap := s₂.heap, slotsUsed := s₂.slotsUsed } : State).setVm s₂.vm := by
      have : s₂ = ({ s₂ with vm := (U.calling g mk a).vm } : State).setVm s₂.vm := rfl
      rw [e2] at this
      exact this
    obtain ⟨c₂, i₂, len₂, hc₂, hd₂, hf₂⟩ := hend
    have hW' : U.WarmedH s₂.vm := hW₂
    have hcc : c₂ = c := by
      have h1 : s₂.code? g.method = U.code? g.method := by
        rw [State.code?_eq, State.code?_eq, hW'.alike.method?]
      exact Option.some.inj (hc₂.symm.trans (h1.trans h.code))
    subst hcc
    have hlen : len₂ = len := by rw [hdg] at hd₂; cases hd₂; rfl
    subst hlen
    have hs₂ : s₂ = (({ U with heap := s₂.heap, slotsUsed := s₂.slotsUsed } : State).setVm s₂.vm).setTop { g with pc := g.pc + len₂, stack := v.toList ++ g.stack } := by
      refine e3.trans ?_
      rw [hf₂, State.calling_eq h.top, State.setFrames_setFrames, State.setTop_of_frames _ hr', hr]
      rfl
    have hsame : U.sameButNew ({ U with heap := s₂.heap, slotsUsed := s₂.slotsUsed } : State) L mc ms := by
      refine ⟨?_, q2, q3, q4, q5, q6⟩
      obtain ⟨t, ht, -⟩ := State.frames_cons hr
      show ({ U with heap := s₂.heap, slotsUsed := s₂.slotsUsed } : State) = { U.setFrames U.frames with heap := s₂.heap, slotsUsed := s₂.slotsUsed }
      rw [State.setFrames_self ht]
    subst hg
    refine Or.inl ⟨v, ⟨(({ U with heap := s₂.heap, slotsUsed := s₂.slotsUsed } : State).setVm s₂.vm), Ls ++ L, c0 + mc, s0 + ms⟩,
      ⟨X.admits, X.cas, X.clock, X.frames, X.room, X.hears, X.method, X.code, (X.here.setHeapUsed s₂.heap s₂.slotsUsed).setVm hW'.alike, X.tail, State.WarmedH.trans X.warmed hW', X.limits, X.bytes, X.same.trans (hsame.setVm s.vm)⟩,
      ⟨g, mk, s₂, L, rfl, rfl, hqc, rfl, hL, rfl, rfl⟩, ?_⟩
    show Steps p.tables e below _ ((({ U with heap := s₂.heap, slotsUsed := s₂.slotsUsed } : State).setVm s₂.vm).setTop { g with pc := g.pc + len₂, stack := v.toList ++ g.stack })
    rw [← hs₂]
    exact hsteps
  · obtain ⟨e2, q2, q3, q4, q5, q6⟩ := id hsm
    have e3 : s₂ = ({ (U.calling g mk a).setFrames s₂.frames with heap := s₂.heap, slotsUsed := s₂.slotsUsed } : State).setVm s₂.vm := by
      have : s₂ = ({ s₂ with vm := (U.calling g mk a).vm } : State).setVm s₂.vm := rfl
      rw [e2] at this
      exact this
    have hf₂ : s₂.frames = .throwing q :: .java g :: U.frames.tail := hend
    have hW' : U.WarmedH s₂.vm := hW₂
    have hs₂ : s₂ = ((({ U with heap := s₂.heap, slotsUsed := s₂.slotsUsed } : State).setVm s₂.vm).setTop g).pushFrame (.throwing q) := by
      refine e3.trans ?_
      rw [hf₂, State.calling_eq h.top, State.setFrames_setFrames, State.pushFrame, State.frames_setTop _ hr', State.setTop_of_frames _ hr', State.setFrames_setFrames, hr]
      rfl
    have hsame : U.sameButNew ({ U with heap := s₂.heap, slotsUsed := s₂.slotsUsed } : State) L mc ms := by
      refine ⟨?_, q2, q3, q4, q5, q6⟩
      obtain ⟨t, ht, -⟩ := State.frames_cons hr
      show ({ U with heap := s₂.heap, slotsUsed := s₂.slotsUsed } : State) = { U.setFrames U.frames with heap := s₂.heap, slotsUsed := s₂.slotsUsed }
      rw [State.setFrames_self ht]
    subst hg
    refine Or.inr ⟨q, ⟨(({ U with heap := s₂.heap, slotsUsed := s₂.slotsUsed } : State).setVm s₂.vm), Ls ++ L, c0 + mc, s0 + ms⟩,
      ⟨X.admits, X.cas, X.clock, X.frames, X.room, X.hears, X.method, X.code, (X.here.setHeapUsed s₂.heap s₂.slotsUsed).setVm hW'.alike, X.tail, State.WarmedH.trans X.warmed hW', X.limits, X.bytes, X.same.trans (hsame.setVm s.vm)⟩,
      ⟨g, mk, s₂, L, E, ce, rfl, rfl, hx, hce, hcv, hcl, rfl, hL, rfl, rfl⟩, ?_⟩
    show Steps p.tables e below _ (((({ U with heap := s₂.heap, slotsUsed := s₂.slotsUsed } : State).setVm s₂.vm).setTop g).pushFrame (.throwing q))
    rw [← hs₂]
    exact hsteps
end
variable {p : Program} {l : Launch} {e : Env} {R : Room} {s : State} {m : MethodId} {args : Array Value} {below : List Frame} {meth : Method} {c : Code} {T : State} {H : Heap} {locs : List Loc} {cells slots : Nat}
theorem vx_callVX (X : Stand p l e R s m args below meth c T locs cells slots) (hexec : p.tables.exec = Jvm.exec) {own C : String} {index : Nat} {y : MethodName} {bytes : ByteArray} {maxL : Nat} {ret : Option FieldType} {hh : List (Nat × Nat × Nat × Nat)}
    (hown : s.vm.findClass own = some m.cls) (hlink : (Cond.methodLink own index y).before args s = true) (hinst : (Cond.instanceMethod y).before args s = true) (hsel : (Cond.selects C y y).before args s = true)
    (hcode : (Cond.codeWith y bytes maxL ret hh).before args s = true) (hy : y.cls ≠ "java/lang/invoke/MethodHandle" ∧ y.cls ≠ "java/lang/invoke/VarHandle")
    {W9 : Nat} {Pre : Pt → Array Value → Prop} {Post : Pt → Array Value → Option Value → Pt → Prop} {PostX : Pt → Array Value → Addr → Pt → Prop} (hK : vx_Back l R p e below s args y 3 W9 Pre Post PostX)
    {b : Addr} {cellB : Cell} (hcell : T.heap[b]? = some cellB) (hobj : cellB.vm.isStatics = false) (hcls : s.vm.findClass C = some cellB.cls)
    {g : JFrame} (hg : g.method = m) (hsize : g.locals.size = c.maxLocals) {argsL rest : List Value} (hlen : ∀ sig, parseMethodDescriptor y.desc = some sig → argsL.length = sig.parameters.length)
    (hstack : g.stack = argsL.reverse ++ .ref b :: rest) (hW : 2 * g.monitorRoom + (rest.map fun v => v.category).sum ≤ W9) (hdg : decode c.code g.pc = .ok (.invokevirtual index, 3))
    (hpre : ∀ vm₁, s.WarmedH vm₁ → Pre ⟨T.setVm vm₁, locs, cells, slots⟩ (Value.ref b :: argsL).toArray) :
    (∃ (v : Option Value) (vm₁ : Vm) (B : Pt), s.WarmedH vm₁ ∧ Stand p l e R s m args below meth c B.U B.locs B.cells B.slots ∧ Post ⟨T.setVm vm₁, locs, cells, slots⟩ (Value.ref b :: argsL).toArray v B ∧
      ∀ target, Steps p.tables e below (B.U.setTop { g with pc := g.pc + 3, stack := v.toList ++ rest }) target → Steps p.tables e below (T.setTop g) target) ∨
    (∃ (q : Addr) (vm₁ : Vm) (B : Pt), s.WarmedH vm₁ ∧ Stand p l e R s m args below meth c B.U B.locs B.cells B.slots ∧ PostX ⟨T.setVm vm₁, locs, cells, slots⟩ (Value.ref b :: argsL).toArray q B ∧
      Steps p.tables e below (T.setTop g) ((B.U.setTop { g with stack := rest }).pushFrame (.throwing q))) := by
  obtain ⟨mk, methM, hnamed, hmethM, hstM, habM⟩ := Cond.instanceMethod_spec hinst
  obtain ⟨m8, methM', cM, hn8, hmethM', -, -, -, -, -, -, hsigM⟩ := Cond.codeWith_spec hcode
  cases Option.some.inj (hn8.symm.trans hnamed)
  cases hmethM.symm.trans hmethM'
  obtain ⟨c2, r2, m2, q1, q2, q3, q4, kP, hkP, hkPi⟩ := Cond.selects_spec hsel
  cases hcls.symm.trans q1
  cases (State.methodFound?_of_named hnamed hy).symm.trans q2
  cases hnamed.symm.trans q3
  have hselP : selectMethod e.platform s.vm cellB.cls mk = .method mk := by rw [Launch.admits_selectMethod X.admits]; exact q4
  obtain ⟨vm₁, X₁, hstep₁⟩ := X.invokevirtual hexec hown hlink hnamed hmethM hstM hkP hkPi hy (a := b) (cell := cellB) hcell
    (fun z h => by rw [h] at hobj; cases hobj) hselP hmethM habM hkP hkPi (g := g) hg (argsL := argsL) (rest := rest) (hlen _ hsigM) hstack hdg
  rcases hK m meth c ⟨T.setVm vm₁, locs, cells, slots⟩ { g with stack := rest } (.invokevirtual index) mk (Value.ref b :: argsL).toArray X₁ hg hsize hdg hW (X₁.named hnamed) (hpre vm₁ X₁.warmed) with ⟨v, B, X', hpost, hsteps⟩ | ⟨q, B, X', hpost, hsteps⟩
  · exact Or.inl ⟨v, vm₁, B, X₁.warmed, X', hpost, fun target h => hstep₁ _ fun acts => by rw [doInvoke_state]; exact hsteps.trans h⟩
  · exact Or.inr ⟨q, vm₁, B, X₁.warmed, X', hpost, hstep₁ _ fun acts => by rw [doInvoke_state]; exact hsteps⟩
theorem vx_callSX (X : Stand p l e R s m args below meth c T locs cells slots) (hexec : p.tables.exec = Jvm.exec) {own : String} {index : Nat} {y : MethodName} {bytes : ByteArray} {maxL : Nat} {ret : Option FieldType} {hh : List (Nat × Nat × Nat × Nat)}
    (hown : s.vm.findClass own = some m.cls) (hlink : (Cond.methodLink own index y).before args s = true) (hstat : (Cond.static y).before args s = true) (hinit : (Cond.initialized y.cls).before args s = true)
    (hcode : (Cond.codeWith y bytes maxL ret hh).before args s = true) (hy : y.cls ≠ "java/lang/invoke/MethodHandle" ∧ y.cls ≠ "java/lang/invoke/VarHandle")
    {W9 : Nat} {Pre : Pt → Array Value → Prop} {Post : Pt → Array Value → Option Value → Pt → Prop} {PostX : Pt → Array Value → Addr → Pt → Prop} (hK : vx_Back l R p e below s args y 3 W9 Pre Post PostX)
    {g : JFrame} (hg : g.method = m) (hsize : g.locals.size = c.maxLocals) {argsL rest : List Value} (hlen : ∀ sig, parseMethodDescriptor y.desc = some sig → argsL.length = sig.parameters.length)
    (hstack : g.stack = argsL.reverse ++ rest) (hW : 2 * g.monitorRoom + (rest.map fun v => v.category).sum ≤ W9) (hdg : decode c.code g.pc = .ok (.invokestatic index, 3))
    (hpre : ∀ vm₁, s.WarmedH vm₁ → Pre ⟨T.setVm vm₁, locs, cells, slots⟩ argsL.toArray) :
    (∃ (v : Option Value) (vm₁ : Vm) (B : Pt), s.WarmedH vm₁ ∧ Stand p l e R s m args below meth c B.U B.locs B.cells B.slots ∧ Post ⟨T.setVm vm₁, locs, cells, slots⟩ argsL.toArray v B ∧
      ∀ target, Steps p.tables e below (B.U.setTop { g with pc := g.pc + 3, stack := v.toList ++ rest }) target → Steps p.tables e below (T.setTop g) target) ∨
    (∃ (q : Addr) (vm₁ : Vm) (B : Pt), s.WarmedH vm₁ ∧ Stand p l e R s m args below meth c B.U B.locs B.cells B.slots ∧ PostX ⟨T.setVm vm₁, locs, cells, slots⟩ argsL.toArray q B ∧
      Steps p.tables e below (T.setTop g) ((B.U.setTop { g with stack := rest }).pushFrame (.throwing q))) := by
  obtain ⟨mk, methM, cM, hnamed, hmethM, -, -, -, -, -, -, hsigM⟩ := Cond.codeWith_spec hcode
  have hstatic : methM.isStatic = true := Cond.static_spec hnamed hmethM hstat
  obtain ⟨kP, hkP, -⟩ := className_of_methodNamed hnamed
  have hinitP : kP.init = .initialized := Cond.initialized_spec (findClass_of_methodNamed hnamed) hkP hinit
  obtain ⟨vm₁, X₁, hstep₁⟩ := X.invokestatic hexec hown hlink hnamed hmethM hstatic hkP hinitP hy (g := g) hg (argsL := argsL) (rest := rest) (hlen _ hsigM) hstack hdg
  rcases hK m meth c ⟨T.setVm vm₁, locs, cells, slots⟩ { g with stack := rest } (.invokestatic index) mk argsL.toArray X₁ hg hsize hdg hW (X₁.named hnamed) (hpre vm₁ X₁.warmed) with ⟨v, B, X', hpost, hsteps⟩ | ⟨q, B, X', hpost, hsteps⟩
  · exact Or.inl ⟨v, vm₁, B, X₁.warmed, X', hpost, fun target h => hstep₁ _ fun acts => by rw [doInvoke_state]; exact hsteps.trans h⟩
  · exact Or.inr ⟨q, vm₁, B, X₁.warmed, X', hpost, hstep₁ _ fun acts => by rw [doInvoke_state]; exact hsteps⟩
theorem vx_callVW (X : Stand p l e R s m args below meth c T locs cells slots) (hexec : p.tables.exec = Jvm.exec) {own C : String} {index : Nat} {y : MethodName} {bytes : ByteArray} {maxL : Nat} {ret : Option FieldType} {hh : List (Nat × Nat × Nat × Nat)}
    (hown : s.vm.findClass own = some m.cls) (hlink : (Cond.methodLink own index y).before args s = true) (hinst : (Cond.instanceMethod y).before args s = true) (hsel : (Cond.selects C y y).before args s = true)
    (hcode : (Cond.codeWith y bytes maxL ret hh).before args s = true) (hy : y.cls ≠ "java/lang/invoke/MethodHandle" ∧ y.cls ≠ "java/lang/invoke/VarHandle")
    {W9 : Nat} {Pre : Pt → Array Value → Prop} {Post : Pt → Array Value → Option Value → Pt → Prop} (hK : Back l R p e below s args y 3 W9 Pre Post)
    {b : Addr} {cellB : Cell} (hcell : T.heap[b]? = some cellB) (hobj : cellB.vm.isStatics = false) (hcls : s.vm.findClass C = some cellB.cls)
    {g : JFrame} (hg : g.method = m) (hsize : g.locals.size = c.maxLocals) {argsL rest : List Value} (hlen : ∀ sig, parseMethodDescriptor y.desc = some sig → argsL.length = sig.parameters.length)
    (hstack : g.stack = argsL.reverse ++ .ref b :: rest) (hW : 2 * g.monitorRoom + (rest.map fun v => v.category).sum ≤ W9) (hdg : decode c.code g.pc = .ok (.invokevirtual index, 3))
    (hpre : ∀ vm₁, s.WarmedH vm₁ → Pre ⟨T.setVm vm₁, locs, cells, slots⟩ (Value.ref b :: argsL).toArray) :
    ∃ (v : Option Value) (vm₁ : Vm) (B : Pt), s.WarmedH vm₁ ∧ Stand p l e R s m args below meth c B.U B.locs B.cells B.slots ∧ Post ⟨T.setVm vm₁, locs, cells, slots⟩ (Value.ref b :: argsL).toArray v B ∧
      ∀ target, Steps p.tables e below (B.U.setTop { g with pc := g.pc + 3, stack := v.toList ++ rest }) target → Steps p.tables e below (T.setTop g) target := by
  obtain ⟨mk, methM, hnamed, hmethM, hstM, habM⟩ := Cond.instanceMethod_spec hinst
  obtain ⟨m8, methM', cM, hn8, hmethM', -, -, -, -, -, -, hsigM⟩ := Cond.codeWith_spec hcode
  cases Option.some.inj (hn8.symm.trans hnamed)
  cases hmethM.symm.trans hmethM'
  obtain ⟨c2, r2, m2, q1, q2, q3, q4, kP, hkP, hkPi⟩ := Cond.selects_spec hsel
  cases hcls.symm.trans q1
  cases (State.methodFound?_of_named hnamed hy).symm.trans q2
  cases hnamed.symm.trans q3
  have hselP : selectMethod e.platform s.vm cellB.cls mk = .method mk := by rw [Launch.admits_selectMethod X.admits]; exact q4
  obtain ⟨vm₁, X₁, hstep₁⟩ := X.invokevirtual hexec hown hlink hnamed hmethM hstM hkP hkPi hy (a := b) (cell := cellB) hcell
    (fun z h => by rw [h] at hobj; cases hobj) hselP hmethM habM hkP hkPi (g := g) hg (argsL := argsL) (rest := rest) (hlen _ hsigM) hstack hdg
  obtain ⟨v, B, X', hpost, hsteps⟩ := hK m meth c ⟨T.setVm vm₁, locs, cells, slots⟩ { g with stack := rest } (.invokevirtual index) mk (Value.ref b :: argsL).toArray X₁ hg hsize hdg hW (X₁.named hnamed) (hpre vm₁ X₁.warmed)
  exact ⟨v, vm₁, B, X₁.warmed, X', hpost, fun target h => hstep₁ _ fun acts => by rw [doInvoke_state]; exact hsteps.trans h⟩
abbrev vx_CVW (R : Room) (s : State) (args : Array Value) (own C : String) (index : Nat) (y : MethodName) (bytes : ByteArray) (maxL : Nat) (ret : Option FieldType) (hh : List (Nat × Nat × Nat × Nat)) (ws : List Cond) (rm : Room) (mc ms n : Nat) : Prop :=
  (rm.cells = mc ∧ rm.slots = ms ∧ rm.frames + 1 ≤ R.frames ∧ 8 + (maxL + 11) + rm.locals ≤ R.locals ∧ (∀ w ∈ ws, ∀ (a' : Array Value) (U : State), s.WarmedH U.vm → w.before a' U = true) ∧ Cond.codeWith y bytes maxL ret hh ∈ ws) ∧
  (Cond.codeWith y bytes maxL ret hh).before args s = true ∧ (Cond.initialized y.cls).before args s = true ∧ (y.cls ≠ "java/lang/invoke/MethodHandle" ∧ y.cls ≠ "java/lang/invoke/VarHandle") ∧
  (∀ sig, parseMethodDescriptor y.desc = some sig → n = sig.parameters.length) ∧ (Cond.methodLink own index y).before args s = true ∧ (Cond.instanceMethod y).before args s = true ∧ (Cond.selects C y y).before args s = true
theorem vx_cwVW {own C : String} {index maxL mc ms : Nat} {y : MethodName} {bytes : ByteArray} {ret : Option FieldType} {hh : List (Nat × Nat × Nat × Nat)} {Ts ws ws' : List Cond} {rm : Room} (n : Nat) (ht : ∀ w ∈ Ts, w.before args s = true) (hT : GoodIn Ts (wsV own index C y ws)) (hw : ws = Cond.codeWith y bytes maxL ret hh :: ws') (hrc : rm.cells = mc) (hrs : rm.slots = ms)
    (hd : y.cls = C ∧ y.cls ≠ "java/lang/invoke/MethodHandle" ∧ y.cls ≠ "java/lang/invoke/VarHandle" ∧ (parseMethodDescriptor y.desc).map (fun d => d.parameters.length) = some n) (hR : rm.frames + 1 ≤ R.frames ∧ 8 + (maxL + 11) + rm.locals ≤ R.locals) :
    vx_CVW R s args own C index y bytes maxL ret hh ws rm mc ms n := by
  obtain ⟨hC, hd⟩ := hd
  subst hC
  have ok : ∀ w ∈ wsV own index y.cls y ws, w.before args s = true := fun w h => ht w (hT w h).1
  have hG : GoodIn Ts ws := fun w h => hT w (by unfold wsV; exact List.mem_append_right _ h)
  have hc : Cond.codeWith y bytes maxL ret hh ∈ ws := by rw [hw]; exact List.mem_cons_self
  refine ⟨⟨hrc, hrs, hR.1, hR.2, pay_in ht hG, hc⟩, ht _ (hG _ hc).1, ok _ (by simp [wsV]), ⟨hd.1, hd.2.1⟩, fun sig h => ?_, ok _ (by simp [wsV]), ok _ (by simp [wsV]), ok _ (by simp [wsV])⟩
  have h2 := hd.2.2
  rw [h] at h2
  exact (Option.some.inj h2).symm
theorem vx_runVW {y : MethodName} {bytes cc : ByteArray} {maxL nL mc ms n index : Nat} {ret : Option FieldType} {hh : List (Nat × Nat × Nat × Nat)} {ws : List Cond} {rm : Room} {Pc : Array Value → State → Prop} {Qc : Array Value → State → Outcome → State → Prop} {free : Addr → Prop} {Ts : List Cond} {own C : String} {b : Addr} {As rest : List Value} {g : JFrame}
    (S : CallFix p m c cc nL s args Ts own) (hM : Met l y ws rm Pc Qc mc ms free) (cw : vx_CVW R s args own C index y bytes maxL ret hh ws rm mc ms n) (hp : PreV s H C b Pc As)
    (hg : g.method = m) (hn : As.length = n) (hsize : g.locals.size = nL) (hstack : g.stack = As.reverse ++ .ref b :: rest) (hW : 2 * g.monitorRoom + (rest.map fun v => v.category).sum ≤ 8) (hdg : decode cc g.pc = .ok (.invokevirtual index, 3)) (hf : cells + mc ≤ R.cells ∧ slots + ms ≤ R.slots) :
    va_Run p l e R s m args below meth c H locs cells slots mc ms g rest (Qc (Value.ref b :: As).toArray) free := by
  obtain ⟨⟨hrc, hrs, hfr, hlo, hws, hcw⟩, hcode, hini, hy, hlen, hl, hin, hse⟩ := cw
  have hK : Back l R p e below s args y 3 8 (PreOf R mc ms Pc) (PostOf Qc mc ms free) := va_backW (hh := hh) (bytes := bytes) (maxL := maxL) (ret := ret) hM hp.1 hrc hrs hfr hlo hws hcw (fun a' U hW => word_at hW (Or.inl (by first | rfl | simp [Cond.onTables, Cond.keeps, Cond.steady])) hini)
  obtain ⟨hx, hb, hml, ho, -⟩ := S
  obtain ⟨-, ⟨cellB, hcB, hoB, hclB⟩, hPc⟩ := hp
  intro T hT X
  obtain ⟨v, vm₁, ⟨U', l2, c2, s2⟩, hW₁, X', ⟨g', mk, t, L, e1, e2, hq, h1, hL, h2, h3⟩, st⟩ := vx_callVW X hx (C := C) (hh := hh) (bytes := bytes) (maxL := maxL) (ret := ret) ho hl hin hse hcode hy hK (by rw [hT]; exact hcB) hoB hclB hg (hsize.trans hml.symm) (argsL := As) (rest := rest) (fun sig h => hn.trans (hlen sig h)) hstack hW (by rw [hb]; exact hdg)
    (fun vm₁ hW₁ => ⟨hf.1, hf.2, hPc (T.setVm vm₁) hT hW₁⟩)
  dsimp only [Pt.U, Pt.locs, Pt.cells, Pt.slots] at X' e1 e2 h1 h2 h3 st
  subst h1; subst h2; subst h3
  exact ⟨v, (T.setVm vm₁).calling g' mk (Value.ref b :: As).toArray, t, U', L, hT, X', hL, e1, e2, hq, st⟩
section
variable {y : MethodName} {bytes cc : ByteArray} {maxL nL mc ms n index : Nat} {ret : Option FieldType} {ws : List Cond} {rm : Room} {Pc : Array Value → State → Prop} {Qc : Array Value → State → Outcome → State → Prop} {XC : String → State → State → Prop} {free : Addr → Prop} {Ts : List Cond} {own C : String} {b : Addr} {As rest : List Value} {g : JFrame}
theorem vx_runVX {hh : List (Nat × Nat × Nat × Nat)} (S : CallFix p m c cc nL s args Ts own) (hM : vx_Met l y ws rm Pc Qc XC mc ms free) (cw : vx_CVW R s args own C index y bytes maxL ret hh ws rm mc ms n) (hp : PreV s H C b Pc As)
    (hg : g.method = m) (hn : As.length = n) (hsize : g.locals.size = nL) (hstack : g.stack = As.reverse ++ .ref b :: rest) (hW : 2 * g.monitorRoom + (rest.map fun v => v.category).sum ≤ 8) (hdg : decode cc g.pc = .ok (.invokevirtual index, 3)) (hf : cells + mc ≤ R.cells ∧ slots + ms ≤ R.slots) :
    vx_Run p l e R s m args below meth c H locs cells slots mc ms g rest (Qc (Value.ref b :: As).toArray) XC free := by
  obtain ⟨⟨hrc, hrs, hfr, hlo, hws, hcw⟩, hcode, hini, hy, hlen, hl, hin, hse⟩ := cw
  have hK : vx_Back l R p e below s args y 3 8 (PreOf R mc ms Pc) (PostOf Qc mc ms free) (vx_Post XC mc ms free) := vx_backW (hh := hh) (bytes := bytes) (maxL := maxL) (ret := ret) hM hp.1 hrc hrs hfr hlo hws hcw (fun a' U hW => word_at hW (Or.inl (by first | rfl | simp [Cond.onTables, Cond.keeps, Cond.steady])) hini)
  obtain ⟨hx, hb, hml, ho, -⟩ := S
  obtain ⟨-, ⟨cellB, hcB, hoB, hclB⟩, hPc⟩ := hp
  intro T hT X
  rcases vx_callVX X hx (C := C) (hh := hh) (bytes := bytes) (maxL := maxL) (ret := ret) ho hl hin hse hcode hy hK (by rw [hT]; exact hcB) hoB hclB hg (hsize.trans hml.symm) (argsL := As) (rest := rest) (fun sig h => hn.trans (hlen sig h)) hstack hW (by rw [hb]; exact hdg)
    (fun vm₁ hW₁ => ⟨hf.1, hf.2, hPc (T.setVm vm₁) hT hW₁⟩) with ⟨v, vm₁, ⟨U', l2, c2, s2⟩, hW₁, X', ⟨g', mk, t, L, e1, e2, hq, h1, hL, h2, h3⟩, st⟩ | ⟨q, vm₁, ⟨U', l2, c2, s2⟩, hW₁, X', ⟨g', mk, t, L, E, ce, e1, e2, hq, hce, hcv, hcl, h1, hL, h2, h3⟩, st⟩
  · dsimp only [Pt.U, Pt.locs, Pt.cells, Pt.slots] at X' e1 e2 h1 h2 h3 st
    subst h1; subst h2; subst h3
    exact Or.inl ⟨v, (T.setVm vm₁).calling g' mk (Value.ref b :: As).toArray, t, U', L, hT, X', hL, e1, e2, hq, st⟩
  · dsimp only [Pt.U, Pt.locs, Pt.cells, Pt.slots] at X' e1 e2 h1 h2 h3 st hcl
    subst h1; subst h2; subst h3
    exact Or.inr ⟨q, (T.setVm vm₁).calling g' mk (Value.ref b :: As).toArray, t, U', L, E, ce, hT, X', hL, e1, e2, hq, hce, hcv, vx_cls hW₁ hcl, st⟩
theorem vx_runSX {hh : List (Nat × Nat × Nat × Nat)} (S : CallFix p m c cc nL s args Ts own) (hM : vx_Met l y ws rm Pc Qc XC mc ms free) (cw : vx_CSW R s args own index y bytes maxL ret hh ws rm mc ms n) (hp : PreS s H Pc As)
    (hg : g.method = m) (hn : As.length = n) (hsize : g.locals.size = nL) (hstack : g.stack = As.reverse ++ rest) (hW : 2 * g.monitorRoom + (rest.map fun v => v.category).sum ≤ 8) (hdg : decode cc g.pc = .ok (.invokestatic index, 3)) (hf : cells + mc ≤ R.cells ∧ slots + ms ≤ R.slots) :
    vx_Run p l e R s m args below meth c H locs cells slots mc ms g rest (Qc As.toArray) XC free := by
  obtain ⟨⟨hrc, hrs, hfr, hlo, hws, hcw⟩, hcode, hini, hy, hlen, hl, hstt⟩ := cw
  have hK : vx_Back l R p e below s args y 3 8 (PreOf R mc ms Pc) (PostOf Qc mc ms free) (vx_Post XC mc ms free) := vx_backW (hh := hh) (bytes := bytes) (maxL := maxL) (ret := ret) hM hp.1 hrc hrs hfr hlo hws hcw (fun a' U hW => word_at hW (Or.inl (by first | rfl | simp [Cond.onTables, Cond.keeps, Cond.steady])) hini)
  obtain ⟨hx, hb, hml, ho, -⟩ := S
  intro T hT X
  rcases vx_callSX X hx (hh := hh) (bytes := bytes) (maxL := maxL) (ret := ret) ho hl hstt hini hcode hy hK hg (hsize.trans hml.symm) (argsL := As) (rest := rest) (fun sig h => hn.trans (hlen sig h)) hstack hW (by rw [hb]; exact hdg)
    (fun vm₁ hW₁ => ⟨hf.1, hf.2, hp.2 (T.setVm vm₁) hT hW₁⟩) with ⟨v, vm₁, ⟨U', l2, c2, s2⟩, hW₁, X', ⟨g', mk, t, L, e1, e2, hq, h1, hL, h2, h3⟩, st⟩ | ⟨q, vm₁, ⟨U', l2, c2, s2⟩, hW₁, X', ⟨g', mk, t, L, E, ce, e1, e2, hq, hce, hcv, hcl, h1, hL, h2, h3⟩, st⟩
  · dsimp only [Pt.U, Pt.locs, Pt.cells, Pt.slots] at X' e1 e2 h1 h2 h3 st
    subst h1; subst h2; subst h3
    exact Or.inl ⟨v, (T.setVm vm₁).calling g' mk As.toArray, t, U', L, hT, X', hL, e1, e2, hq, st⟩
  · dsimp only [Pt.U, Pt.locs, Pt.cells, Pt.slots] at X' e1 e2 h1 h2 h3 st hcl
    subst h1; subst h2; subst h3
    exact Or.inr ⟨q, (T.setVm vm₁).calling g' mk As.toArray, t, U', L, E, ce, hT, X', hL, e1, e2, hq, hce, hcv, vx_cls hW₁ hcl, st⟩
end
end VXH
theorem vx_ofWH {l : Launch} {y : MethodName} {ws ws' : List Cond} {rm : Room} {Pc : Array Value → State → Prop} {Qc : Array Value → State → Outcome → State → Prop} {XC : String → State → State → Prop} {mc ms : Nat} {free : Addr → Prop} {cc : ByteArray} {maxL : Nat} {ret : Option FieldType} {hh : List (Nat × Nat × Nat × Nat)}
    (hy : plainName y.cls = true) (hw : ws = Cond.codeWith y cc maxL ret hh :: ws')
    (body : ∀ p e s m args below meth c s₁, BodyLoose p l y (headSpec ws rm) cc maxL ret e s m args below meth c s₁ → c.maxLocals = maxL → Pc args s →
      W p l e (headSpec ws rm).room s m args below meth c s.heap [] 0 0 (vx_MQ below Qc XC args s mc ms free) (entryFrame m args maxL)) : vx_Met l y ws rm Pc Qc XC mc ms free := by
  refine MetFree.of_bodyS (code := cc) (maxLocals := maxL) (ret := ret) hy ?_ ?_
  · intro args s m h hn
    obtain ⟨m9, meth, c, hn9, h1, h2, h3, h4, -, h5, h6, -⟩ := Cond.codeWith_spec (atoms_spec (ws := ws) h _ (by rw [hw]; exact List.mem_cons_self))
    cases hn.symm.trans hn9
    exact ⟨meth, c, h1, h2, h3, h4, h5, h6⟩
  · intro p e s m args below meth c s₁ B hml hP _
    have hh0 : s₁.heap = s.heap := by rw [B.state]; rfl
    obtain ⟨t, a1, o, b1, b2, b3⟩ := body p e s m args below meth c s₁ B hml hP s₁ hh0 (Stand.of_body B)
    exact ⟨t, o, a1, b1, b2, b3⟩
end
section
def RX0 : String := "ChannelRows$Messages"
def TX0 : u_T := fun k => match k with
  | 0 => ("ChannelRows$Messages", "speaker", "[I", true)
  | 1 => ("ChannelRows$Messages", "channel", "[I", true)
  | 2 => ("ChannelRows$Messages", "begin", "[I", true)
  | 3 => ("ChannelRows$Messages", "words", "[I", true)
  | 4 => ("ChannelRows$Messages", "rank", "[I", true)
  | 5 => ("ChannelRows$Messages", "firstOn", "[I", true)
  | 6 => ("ChannelRows$Messages", "slotsOn", "[I", true)
  | 7 => ("ChannelRows$Messages", "ending", "[I", true)
  | 8 => ("ChannelRows$Messages", "byBegin", "[I", true)
  | _ => ("ChannelRows$Messages", "count", "I", false)
def tyX0 : Nat → FieldType := fun k => match k with
  | 0 => .array .int
  | 1 => .array .int
  | 2 => .array .int
  | 3 => .array .int
  | 4 => .array .int
  | 5 => .array .int
  | 6 => .array .int
  | 7 => .array .int
  | 8 => .array .int
  | _ => .int
abbrev wsX00 : List Cond := u_ws RX0 TX0 10
theorem nmX0 : ∀ a, a < 10 → ∀ b, b < 10 → a ≠ b → (TX0 a).2.1 ≠ (TX0 b).2.1 := by decide +kernel
theorem tyX0_ok : ∀ k, k < 10 → parseFieldDescriptor (TX0 k).2.2.1 = some (tyX0 k) := by decide +kernel
abbrev cX0_init : ByteArray := prog_2_method_1_code
def yX0_init : MethodName := ⟨RX0, "<init>", "(I)V"⟩
abbrev cX0_add : ByteArray := prog_2_method_2_code
def yX0_add : MethodName := ⟨RX0, "add", "(IIIII)I"⟩
abbrev cX0_hasBegin : ByteArray := prog_2_method_3_code
def yX0_hasBegin : MethodName := ⟨RX0, "hasBegin", "(II)Z"⟩
abbrev cX0_beginsWith : ByteArray := prog_2_method_4_code
def yX0_beginsWith : MethodName := ⟨RX0, "beginsWith", "(II)Z"⟩
abbrev cX0_setOn : ByteArray := prog_2_method_5_code
def yX0_setOn : MethodName := ⟨RX0, "setOn", "(IIII)V"⟩
abbrev cX0_markLost : ByteArray := prog_2_method_6_code
def yX0_markLost : MethodName := ⟨RX0, "markLost", "(I)V"⟩
abbrev cX0_cutAfter : ByteArray := prog_2_method_7_code
def yX0_cutAfter : MethodName := ⟨RX0, "cutAfter", "(II)V"⟩
abbrev cX0_isOn : ByteArray := prog_2_method_8_code
def yX0_isOn : MethodName := ⟨RX0, "isOn", "(II)Z"⟩
abbrev cX0_wordIn : ByteArray := prog_2_method_9_code
def yX0_wordIn : MethodName := ⟨RX0, "wordIn", "(II)I"⟩
abbrev cX0_slotsOnWithin : ByteArray := prog_2_method_10_code
def yX0_slotsOnWithin : MethodName := ⟨RX0, "slotsOnWithin", "(III)I"⟩
def RX1 : String := "ChannelRows$Stations"
def TX1 : u_T := fun k => match k with
  | 0 => ("ChannelRows$Stations", "most", "I", true)
  | 1 => ("ChannelRows$Stations", "x", "[I", true)
  | 2 => ("ChannelRows$Stations", "y", "[I", true)
  | 3 => ("ChannelRows$Stations", "reach", "[I", true)
  | 4 => ("ChannelRows$Stations", "channel", "[I", true)
  | _ => ("ChannelRows$Stations", "count", "I", false)
def tyX1 : Nat → FieldType := fun k => match k with
  | 0 => .int
  | 1 => .array .int
  | 2 => .array .int
  | 3 => .array .int
  | 4 => .array .int
  | _ => .int
abbrev wsX10 : List Cond := u_ws RX1 TX1 6
theorem nmX1 : ∀ a, a < 6 → ∀ b, b < 6 → a ≠ b → (TX1 a).2.1 ≠ (TX1 b).2.1 := by decide +kernel
theorem tyX1_ok : ∀ k, k < 6 → parseFieldDescriptor (TX1 k).2.2.1 = some (tyX1 k) := by decide +kernel
abbrev cX1_init : ByteArray := prog_3_method_1_code
def yX1_init : MethodName := ⟨RX1, "<init>", "(I)V"⟩
abbrev cX1_isFull : ByteArray := prog_3_method_2_code
def yX1_isFull : MethodName := ⟨RX1, "isFull", "()Z"⟩
abbrev cX1_add : ByteArray := prog_3_method_3_code
def yX1_add : MethodName := ⟨RX1, "add", "(IIII)I"⟩
abbrev cX1_move : ByteArray := prog_3_method_4_code
def yX1_move : MethodName := ⟨RX1, "move", "(IIII)V"⟩
abbrev cX1_reaches : ByteArray := prog_3_method_5_code
def yX1_reaches : MethodName := ⟨RX1, "reaches", "(ILChannelRows$Stations;I)Z"⟩
def RX2 : String := "ChannelRows"
def TX2 : u_T := fun k => match k with
  | 0 => ("ChannelRows", "units", "LChannelRows$Stations;", true)
  | 1 => ("ChannelRows", "repeaters", "LChannelRows$Stations;", true)
  | 2 => ("ChannelRows", "messages", "LChannelRows$Messages;", true)
  | 3 => ("ChannelRows", "noise", "[Z", true)
  | 4 => ("ChannelRows", "groupOf", "[I", true)
  | 5 => ("ChannelRows", "latestOfGroup", "[I", true)
  | 6 => ("ChannelRows", "slotsOfDay", "I", false)
  | _ => ("ChannelRows", "mostSlotsOn", "I", false)
def tyX2 : Nat → FieldType := fun k => match k with
  | 0 => .object "ChannelRows$Stations"
  | 1 => .object "ChannelRows$Stations"
  | 2 => .object "ChannelRows$Messages"
  | 3 => .array .boolean
  | 4 => .array .int
  | 5 => .array .int
  | 6 => .int
  | _ => .int
abbrev wsX20 : List Cond := u_ws RX2 TX2 8
theorem nmX2 : ∀ a, a < 8 → ∀ b, b < 8 → a ≠ b → (TX2 a).2.1 ≠ (TX2 b).2.1 := by decide +kernel
theorem tyX2_ok : ∀ k, k < 8 → parseFieldDescriptor (TX2 k).2.2.1 = some (tyX2 k) := by decide +kernel
abbrev cX2_init : ByteArray := prog_1_method_1_code
def yX2_init : MethodName := ⟨RX2, "<init>", "()V"⟩
abbrev cX2_day : ByteArray := prog_1_method_2_code
def yX2_day : MethodName := ⟨RX2, "day", "(I)V"⟩
abbrev cX2_unit : ByteArray := prog_1_method_3_code
def yX2_unit : MethodName := ⟨RX2, "unit", "(IIII)I"⟩
abbrev cX2_go : ByteArray := prog_1_method_4_code
def yX2_go : MethodName := ⟨RX2, "go", "(IIII)V"⟩
abbrev cX2_repeater : ByteArray := prog_1_method_5_code
def yX2_repeater : MethodName := ⟨RX2, "repeater", "(IIII)I"⟩
abbrev cX2_patch : ByteArray := prog_1_method_6_code
def yX2_patch : MethodName := ⟨RX2, "patch", "(II)Z"⟩
abbrev cX2_limit : ByteArray := prog_1_method_7_code
def yX2_limit : MethodName := ⟨RX2, "limit", "(I)V"⟩
abbrev cX2_speak : ByteArray := prog_1_method_8_code
def yX2_speak : MethodName := ⟨RX2, "speak", "(IIII)I"⟩
abbrev cX2_relay : ByteArray := prog_1_method_9_code
def yX2_relay : MethodName := ⟨RX2, "relay", "(IIII)I"⟩
abbrev cX2_lose : ByteArray := prog_1_method_10_code
def yX2_lose : MethodName := ⟨RX2, "lose", "(I)Z"⟩
abbrev cX2_hears : ByteArray := prog_1_method_11_code
def yX2_hears : MethodName := ⟨RX2, "hears", "(II)I"⟩
abbrev cX2_on : ByteArray := prog_1_method_12_code
def yX2_on : MethodName := ⟨RX2, "on", "(II)I"⟩
abbrev cX2_ended : ByteArray := prog_1_method_13_code
def yX2_ended : MethodName := ⟨RX2, "ended", "(I)I"⟩
abbrev cX2_length : ByteArray := prog_1_method_14_code
def yX2_length : MethodName := ⟨RX2, "length", "(I)I"⟩
abbrev cX2_unheard : ByteArray := prog_1_method_15_code
def yX2_unheard : MethodName := ⟨RX2, "unheard", "(II)I"⟩
abbrev cX2_used : ByteArray := prog_1_method_16_code
def yX2_used : MethodName := ⟨RX2, "used", "(III)I"⟩
abbrev cX2_forgetAll : ByteArray := prog_1_method_17_code
def yX2_forgetAll : MethodName := ⟨RX2, "forgetAll", "()V"⟩
abbrev cX2_needUnit : ByteArray := prog_1_method_18_code
def yX2_needUnit : MethodName := ⟨RX2, "needUnit", "(I)V"⟩
abbrev cX2_needMessage : ByteArray := prog_1_method_19_code
def yX2_needMessage : MethodName := ⟨RX2, "needMessage", "(I)V"⟩
abbrev cX2_needChannel : ByteArray := prog_1_method_20_code
def yX2_needChannel : MethodName := ⟨RX2, "needChannel", "(I)V"⟩
abbrev cX2_needSlot : ByteArray := prog_1_method_21_code
def yX2_needSlot : MethodName := ⟨RX2, "needSlot", "(I)V"⟩
abbrev cX2_needPlace : ByteArray := prog_1_method_22_code
def yX2_needPlace : MethodName := ⟨RX2, "needPlace", "(III)V"⟩
abbrev cX2_needBegin : ByteArray := prog_1_method_23_code
def yX2_needBegin : MethodName := ⟨RX2, "needBegin", "(II)V"⟩
abbrev cX2_needFreeBegin : ByteArray := prog_1_method_24_code
def yX2_needFreeBegin : MethodName := ⟨RX2, "needFreeBegin", "(II)V"⟩
abbrev cX2_needRoomForMessage : ByteArray := prog_1_method_25_code
def yX2_needRoomForMessage : MethodName := ⟨RX2, "needRoomForMessage", "()V"⟩
abbrev cX2_isChannel : ByteArray := prog_1_method_26_code
def yX2_isChannel : MethodName := ⟨RX2, "isChannel", "(I)Z"⟩
abbrev cX2_isSlot : ByteArray := prog_1_method_27_code
def yX2_isSlot : MethodName := ⟨RX2, "isSlot", "(I)Z"⟩
abbrev cX2_areJoined : ByteArray := prog_1_method_28_code
def yX2_areJoined : MethodName := ⟨RX2, "areJoined", "(II)Z"⟩
abbrev cX2_joinGroups : ByteArray := prog_1_method_29_code
def yX2_joinGroups : MethodName := ⟨RX2, "joinGroups", "(II)V"⟩
abbrev cX2_place : ByteArray := prog_1_method_30_code
def yX2_place : MethodName := ⟨RX2, "place", "(LChannelRows$Stations;IIII)I"⟩
abbrev cX2_tell : ByteArray := prog_1_method_31_code
def yX2_tell : MethodName := ⟨RX2, "tell", "(IIII)I"⟩
abbrev cX2_planAll : ByteArray := prog_1_method_32_code
def yX2_planAll : MethodName := ⟨RX2, "planAll", "()V"⟩
abbrev cX2_plan : ByteArray := prog_1_method_33_code
def yX2_plan : MethodName := ⟨RX2, "plan", "(I)V"⟩
abbrev cX2_meetsItsBetter : ByteArray := prog_1_method_34_code
def yX2_meetsItsBetter : MethodName := ⟨RX2, "meetsItsBetter", "(I)Z"⟩
abbrev cX2_keepsFromCalling : ByteArray := prog_1_method_35_code
def yX2_keepsFromCalling : MethodName := ⟨RX2, "keepsFromCalling", "(II)Z"⟩
abbrev cX2_putOn : ByteArray := prog_1_method_36_code
def yX2_putOn : MethodName := ⟨RX2, "putOn", "(II)V"⟩
abbrev cX2_messageOn : ByteArray := prog_1_method_37_code
def yX2_messageOn : MethodName := ⟨RX2, "messageOn", "(II)I"⟩
abbrev cX2_listensTo : ByteArray := prog_1_method_38_code
def yX2_listensTo : MethodName := ⟨RX2, "listensTo", "(II)Z"⟩
abbrev cX2_receives : ByteArray := prog_1_method_39_code
def yX2_receives : MethodName := ⟨RX2, "receives", "(II)Z"⟩
abbrev cX2_receivesByRepeater : ByteArray := prog_1_method_40_code
def yX2_receivesByRepeater : MethodName := ⟨RX2, "receivesByRepeater", "(II)Z"⟩
abbrev cX2_heardAllSlots : ByteArray := prog_1_method_41_code
def yX2_heardAllSlots : MethodName := ⟨RX2, "heardAllSlots", "(II)Z"⟩
abbrev cX2_missed : ByteArray := prog_1_method_42_code
def yX2_missed : MethodName := ⟨RX2, "missed", "(II)Z"⟩
abbrev cX2_hasNoise : ByteArray := prog_1_method_43_code
def yX2_hasNoise : MethodName := ⟨RX2, "hasNoise", "(I)Z"⟩
def RX3 : String := "ChannelRowsModel"
def TX3 : u_T := fun k => match k with
  | 0 => ("ChannelRowsModel", "thrown", "I", false)
  | 1 => ("ChannelRowsModel", "slots", "I", false)
  | 2 => ("ChannelRowsModel", "limit", "I", false)
  | 3 => ("ChannelRowsModel", "group", "[I", true)
  | 4 => ("ChannelRowsModel", "units", "I", false)
  | 5 => ("ChannelRowsModel", "unitX", "[I", true)
  | 6 => ("ChannelRowsModel", "unitY", "[I", true)
  | 7 => ("ChannelRowsModel", "unitReach", "[I", true)
  | 8 => ("ChannelRowsModel", "unitChannel", "[I", true)
  | 9 => ("ChannelRowsModel", "repeaters", "I", false)
  | 10 => ("ChannelRowsModel", "repeaterX", "[I", true)
  | 11 => ("ChannelRowsModel", "repeaterY", "[I", true)
  | 12 => ("ChannelRowsModel", "repeaterReach", "[I", true)
  | 13 => ("ChannelRowsModel", "repeaterChannel", "[I", true)
  | 14 => ("ChannelRowsModel", "messages", "I", false)
  | 15 => ("ChannelRowsModel", "speaker", "[I", true)
  | 16 => ("ChannelRowsModel", "from", "[I", true)
  | 17 => ("ChannelRowsModel", "words", "[I", true)
  | 18 => ("ChannelRowsModel", "rank", "[I", true)
  | 19 => ("ChannelRowsModel", "channel", "[I", true)
  | 20 => ("ChannelRowsModel", "noise", "[Z", true)
  | 21 => ("ChannelRowsModel", "onAt", "[I", true)
  | 22 => ("ChannelRowsModel", "wordAt", "[I", true)
  | 23 => ("ChannelRowsModel", "end", "[I", true)
  | _ => ("ChannelRowsModel", "long0", "[I", true)
def tyX3 : Nat → FieldType := fun k => match k with
  | 0 => .int
  | 1 => .int
  | 2 => .int
  | 3 => .array .int
  | 4 => .int
  | 5 => .array .int
  | 6 => .array .int
  | 7 => .array .int
  | 8 => .array .int
  | 9 => .int
  | 10 => .array .int
  | 11 => .array .int
  | 12 => .array .int
  | 13 => .array .int
  | 14 => .int
  | 15 => .array .int
  | 16 => .array .int
  | 17 => .array .int
  | 18 => .array .int
  | 19 => .array .int
  | 20 => .array .boolean
  | 21 => .array .int
  | 22 => .array .int
  | 23 => .array .int
  | _ => .array .int
abbrev wsX30 : List Cond := u_ws RX3 TX3 25
theorem nmX3 : ∀ a, a < 25 → ∀ b, b < 25 → a ≠ b → (TX3 a).2.1 ≠ (TX3 b).2.1 := by decide +kernel
theorem tyX3_ok : ∀ k, k < 25 → parseFieldDescriptor (TX3 k).2.2.1 = some (tyX3 k) := by decide +kernel
abbrev cX3_init : ByteArray := prog_5_method_1_code
def yX3_init : MethodName := ⟨RX3, "<init>", "()V"⟩
abbrev cX3_thrown : ByteArray := prog_5_method_2_code
def yX3_thrown : MethodName := ⟨RX3, "thrown", "()I"⟩
abbrev cX3_in : ByteArray := prog_5_method_3_code
def yX3_in : MethodName := ⟨RX3, "in", "(III)Z"⟩
abbrev cX3_goes : ByteArray := prog_5_method_4_code
def yX3_goes : MethodName := ⟨RX3, "goes", "(IZZZZ)Z"⟩
abbrev cX3_isPoint : ByteArray := prog_5_method_5_code
def yX3_isPoint : MethodName := ⟨RX3, "isPoint", "(II)Z"⟩
abbrev cX3_isChannel : ByteArray := prog_5_method_6_code
def yX3_isChannel : MethodName := ⟨RX3, "isChannel", "(I)Z"⟩
abbrev cX3_isUnit : ByteArray := prog_5_method_7_code
def yX3_isUnit : MethodName := ⟨RX3, "isUnit", "(I)Z"⟩
abbrev cX3_isMessage : ByteArray := prog_5_method_8_code
def yX3_isMessage : MethodName := ⟨RX3, "isMessage", "(I)Z"⟩
abbrev cX3_isSlot : ByteArray := prog_5_method_9_code
def yX3_isSlot : MethodName := ⟨RX3, "isSlot", "(I)Z"⟩
abbrev cX3_day : ByteArray := prog_5_method_10_code
def yX3_day : MethodName := ⟨RX3, "day", "(I)V"⟩
abbrev cX3_unit : ByteArray := prog_5_method_11_code
def yX3_unit : MethodName := ⟨RX3, "unit", "(IIII)I"⟩
abbrev cX3_go : ByteArray := prog_5_method_12_code
def yX3_go : MethodName := ⟨RX3, "go", "(IIII)V"⟩
abbrev cX3_repeater : ByteArray := prog_5_method_13_code
def yX3_repeater : MethodName := ⟨RX3, "repeater", "(IIII)I"⟩
abbrev cX3_patch : ByteArray := prog_5_method_14_code
def yX3_patch : MethodName := ⟨RX3, "patch", "(II)Z"⟩
abbrev cX3_limit : ByteArray := prog_5_method_15_code
def yX3_limit : MethodName := ⟨RX3, "limit", "(I)V"⟩
abbrev cX3_begins : ByteArray := prog_5_method_16_code
def yX3_begins : MethodName := ⟨RX3, "begins", "(II)Z"⟩
abbrev cX3_add : ByteArray := prog_5_method_17_code
def yX3_add : MethodName := ⟨RX3, "add", "(IIII)I"⟩
abbrev cX3_speak : ByteArray := prog_5_method_18_code
def yX3_speak : MethodName := ⟨RX3, "speak", "(IIII)I"⟩
abbrev cX3_relay : ByteArray := prog_5_method_19_code
def yX3_relay : MethodName := ⟨RX3, "relay", "(IIII)I"⟩
abbrev cX3_lose : ByteArray := prog_5_method_20_code
def yX3_lose : MethodName := ⟨RX3, "lose", "(I)Z"⟩
abbrev cX3_caller : ByteArray := prog_5_method_21_code
def yX3_caller : MethodName := ⟨RX3, "caller", "(II)I"⟩
abbrev cX3_most : ByteArray := prog_5_method_22_code
def yX3_most : MethodName := ⟨RX3, "most", "(I)I"⟩
abbrev cX3_endOf : ByteArray := prog_5_method_23_code
def yX3_endOf : MethodName := ⟨RX3, "endOf", "(I)I"⟩
abbrev cX3_day0 : ByteArray := prog_5_method_24_code
def yX3_day0 : MethodName := ⟨RX3, "day0", "(I)V"⟩
abbrev cX3_isNear : ByteArray := prog_5_method_25_code
def yX3_isNear : MethodName := ⟨RX3, "isNear", "(IIIII)Z"⟩
abbrev cX3_reaches : ByteArray := prog_5_method_26_code
def yX3_reaches : MethodName := ⟨RX3, "reaches", "(III)Z"⟩
abbrev cX3_gets : ByteArray := prog_5_method_27_code
def yX3_gets : MethodName := ⟨RX3, "gets", "(II)Z"⟩
abbrev cX3_hears : ByteArray := prog_5_method_28_code
def yX3_hears : MethodName := ⟨RX3, "hears", "(II)I"⟩
abbrev cX3_heardAll : ByteArray := prog_5_method_29_code
def yX3_heardAll : MethodName := ⟨RX3, "heardAll", "(II)Z"⟩
abbrev cX3_on : ByteArray := prog_5_method_30_code
def yX3_on : MethodName := ⟨RX3, "on", "(II)I"⟩
abbrev cX3_ended : ByteArray := prog_5_method_31_code
def yX3_ended : MethodName := ⟨RX3, "ended", "(I)I"⟩
abbrev cX3_length : ByteArray := prog_5_method_32_code
def yX3_length : MethodName := ⟨RX3, "length", "(I)I"⟩
abbrev cX3_unheard : ByteArray := prog_5_method_33_code
def yX3_unheard : MethodName := ⟨RX3, "unheard", "(II)I"⟩
abbrev cX3_used : ByteArray := prog_5_method_34_code
def yX3_used : MethodName := ⟨RX3, "used", "(III)I"⟩
def RJx00060 : String := "java/lang/ArrayIndexOutOfBoundsException"
def TJx00060 : u_T := fun k => match k with
  | 0 => ("java/lang/Throwable", "cause", "Ljava/lang/Throwable;", false)
  | 1 => ("java/lang/Throwable", "stackTrace", "[Ljava/lang/StackTraceElement;", false)
  | 2 => ("java/lang/Throwable", "suppressedExceptions", "Ljava/util/List;", false)
  | 3 => ("java/lang/Throwable", "detailMessage", "Ljava/lang/String;", false)
  | 4 => ("java/lang/Throwable", "backtrace", "Ljava/lang/Object;", false)
  | _ => ("java/lang/Throwable", "depth", "I", false)
def tyJx00060 : Nat → FieldType := fun k => match k with
  | 0 => .object "java/lang/Throwable"
  | 1 => .array (.object "java/lang/StackTraceElement")
  | 2 => .object "java/util/List"
  | 3 => .object "java/lang/String"
  | 4 => .object "java/lang/Object"
  | _ => .int
abbrev wsJx000600 : List Cond := u_ws RJx00060 TJx00060 6
theorem nmJx00060 : ∀ a, a < 6 → ∀ b, b < 6 → a ≠ b → (TJx00060 a).2.1 ≠ (TJx00060 b).2.1 := by decide +kernel
theorem tyJx00060_ok : ∀ k, k < 6 → parseFieldDescriptor (TJx00060 k).2.2.1 = some (tyJx00060 k) := by decide +kernel
abbrev cJx00060_init_a7421 : ByteArray := prog_6_method_2_code
def yJx00060_init_a7421 : MethodName := ⟨RJx00060, "<init>", "(Ljava/lang/String;)V"⟩
def RJ9 : String := "java/lang/Math"
def TJ9 : u_T := fun k => match k with
  | _ => ("", "", "", false)
def tyJ9 : Nat → FieldType := fun k => match k with
  | _ => .int
abbrev wsJ90 : List Cond := u_ws RJ9 TJ9 0
theorem nmJ9 : ∀ a, a < 0 → ∀ b, b < 0 → a ≠ b → (TJ9 a).2.1 ≠ (TJ9 b).2.1 := by decide +kernel
theorem tyJ9_ok : ∀ k, k < 0 → parseFieldDescriptor (TJ9 k).2.2.1 = some (tyJ9 k) := by decide +kernel
abbrev cJ9_max_7cf53 : ByteArray := prog_11_method_65_code
def yJ9_max_7cf53 : MethodName := ⟨RJ9, "max", "(II)I"⟩
abbrev cJ9_min_7cf53 : ByteArray := prog_11_method_69_code
def yJ9_min_7cf53 : MethodName := ⟨RJ9, "min", "(II)I"⟩
def RJxde1cd : String := "java/lang/NegativeArraySizeException"
def TJxde1cd : u_T := fun k => match k with
  | 0 => ("java/lang/Throwable", "cause", "Ljava/lang/Throwable;", false)
  | 1 => ("java/lang/Throwable", "stackTrace", "[Ljava/lang/StackTraceElement;", false)
  | 2 => ("java/lang/Throwable", "suppressedExceptions", "Ljava/util/List;", false)
  | 3 => ("java/lang/Throwable", "detailMessage", "Ljava/lang/String;", false)
  | 4 => ("java/lang/Throwable", "backtrace", "Ljava/lang/Object;", false)
  | _ => ("java/lang/Throwable", "depth", "I", false)
def tyJxde1cd : Nat → FieldType := fun k => match k with
  | 0 => .object "java/lang/Throwable"
  | 1 => .array (.object "java/lang/StackTraceElement")
  | 2 => .object "java/util/List"
  | 3 => .object "java/lang/String"
  | 4 => .object "java/lang/Object"
  | _ => .int
abbrev wsJxde1cd0 : List Cond := u_ws RJxde1cd TJxde1cd 6
theorem nmJxde1cd : ∀ a, a < 6 → ∀ b, b < 6 → a ≠ b → (TJxde1cd a).2.1 ≠ (TJxde1cd b).2.1 := by decide +kernel
theorem tyJxde1cd_ok : ∀ k, k < 6 → parseFieldDescriptor (TJxde1cd k).2.2.1 = some (tyJxde1cd k) := by decide +kernel
abbrev cJxde1cd_init_a7421 : ByteArray := prog_12_method_2_code
def yJxde1cd_init_a7421 : MethodName := ⟨RJxde1cd, "<init>", "(Ljava/lang/String;)V"⟩
def RJ0 : String := "java/lang/String"
def TJ0 : u_T := fun k => match k with
  | _ => ("", "", "", false)
def tyJ0 : Nat → FieldType := fun k => match k with
  | _ => .int
abbrev wsJ00 : List Cond := u_ws RJ0 TJ0 0
theorem nmJ0 : ∀ a, a < 0 → ∀ b, b < 0 → a ≠ b → (TJ0 a).2.1 ≠ (TJ0 b).2.1 := by decide +kernel
theorem tyJ0_ok : ∀ k, k < 0 → parseFieldDescriptor (TJ0 k).2.2.1 = some (tyJ0 k) := by decide +kernel
def RJ7 : String := "java/util/Arrays"
def TJ7 : u_T := fun k => match k with
  | _ => ("", "", "", false)
def tyJ7 : Nat → FieldType := fun k => match k with
  | _ => .int
abbrev wsJ70 : List Cond := u_ws RJ7 TJ7 0
theorem nmJ7 : ∀ a, a < 0 → ∀ b, b < 0 → a ≠ b → (TJ7 a).2.1 ≠ (TJ7 b).2.1 := by decide +kernel
theorem tyJ7_ok : ∀ k, k < 0 → parseFieldDescriptor (TJ7 k).2.2.1 = some (tyJ7 k) := by decide +kernel
abbrev cJ7_fill_53178 : ByteArray := prog_17_method_103_code
def yJ7_fill_53178 : MethodName := ⟨RJ7, "fill", "([II)V"⟩
def RL : String := "ChannelRowsLaw"
abbrev cL_day : ByteArray := method_3_code
def yL_day : MethodName := ⟨RL, "day", "(LChannelRows;I)I"⟩
abbrev cL_unit : ByteArray := method_4_code
def yL_unit : MethodName := ⟨RL, "unit", "(LChannelRows;IIII[J)I"⟩
abbrev cL_go : ByteArray := method_5_code
def yL_go : MethodName := ⟨RL, "go", "(LChannelRows;IIII)I"⟩
abbrev cL_repeater : ByteArray := method_6_code
def yL_repeater : MethodName := ⟨RL, "repeater", "(LChannelRows;IIII[J)I"⟩
abbrev cL_patch : ByteArray := method_7_code
def yL_patch : MethodName := ⟨RL, "patch", "(LChannelRows;II[J)I"⟩
abbrev cL_limit : ByteArray := method_8_code
def yL_limit : MethodName := ⟨RL, "limit", "(LChannelRows;I)I"⟩
abbrev cL_speak : ByteArray := method_9_code
def yL_speak : MethodName := ⟨RL, "speak", "(LChannelRows;IIII[J)I"⟩
abbrev cL_relay : ByteArray := method_10_code
def yL_relay : MethodName := ⟨RL, "relay", "(LChannelRows;IIII[J)I"⟩
abbrev cL_lose : ByteArray := method_11_code
def yL_lose : MethodName := ⟨RL, "lose", "(LChannelRows;I[J)I"⟩
abbrev cL_hears : ByteArray := method_12_code
def yL_hears : MethodName := ⟨RL, "hears", "(LChannelRows;II[J)I"⟩
abbrev cL_on : ByteArray := method_13_code
def yL_on : MethodName := ⟨RL, "on", "(LChannelRows;II[J)I"⟩
abbrev cL_ended : ByteArray := method_14_code
def yL_ended : MethodName := ⟨RL, "ended", "(LChannelRows;I[J)I"⟩
abbrev cL_length : ByteArray := method_15_code
def yL_length : MethodName := ⟨RL, "length", "(LChannelRows;I[J)I"⟩
abbrev cL_unheard : ByteArray := method_16_code
def yL_unheard : MethodName := ⟨RL, "unheard", "(LChannelRows;II[J)I"⟩
abbrev cL_used : ByteArray := method_17_code
def yL_used : MethodName := ⟨RL, "used", "(LChannelRows;III[J)I"⟩
abbrev cL_law : ByteArray := code
def yL_law : MethodName := ⟨RL, "law", "([I)Z"⟩
end
section
abbrev k_cl : List vw_C := [(RX0, TX0, 10), (RX1, TX1, 6), (RX2, TX2, 8), (RX3, TX3, 25)]
def k_T : List Cond := lw_tbl.filter goodWord
def k_own (o : Nat) : String := match o with
  | 0 => RX0
  | 1 => RX1
  | 2 => RX2
  | 3 => RX3
  | 4 => RL
  | _ => RJ7
def k_fl (o : Nat) : List (Nat × Nat × Nat) := match o with
  | 0 => [(9, 0, 0), (15, 0, 1), (18, 0, 2), (21, 0, 3), (24, 0, 4), (27, 0, 5), (30, 0, 6), (33, 0, 7), (36, 0, 8), (39, 0, 9)]
  | 1 => [(7, 1, 0), (13, 1, 1), (17, 1, 2), (20, 1, 3), (23, 1, 4), (26, 1, 5)]
  | 2 => [(14, 2, 0), (18, 2, 1), (24, 2, 2), (28, 2, 3), (32, 2, 4), (36, 2, 5), (54, 2, 6), (95, 2, 7), (116, 0, 7), (127, 0, 3), (133, 1, 4), (149, 0, 6), (154, 1, 5), (162, 0, 9), (163, 0, 1), (223, 0, 8), (226, 0, 2), (241, 0, 4), (261, 0, 0), (277, 0, 5)]
  | 3 => [(7, 3, 3), (13, 3, 5), (16, 3, 6), (19, 3, 7), (22, 3, 8), (25, 3, 10), (28, 3, 11), (31, 3, 12), (34, 3, 13), (37, 3, 15), (40, 3, 16), (43, 3, 17), (46, 3, 18), (49, 3, 19), (52, 3, 20), (56, 3, 21), (59, 3, 22), (62, 3, 23), (65, 3, 24), (68, 3, 0), (76, 3, 4), (79, 3, 14), (82, 3, 1), (89, 3, 2), (92, 3, 9)]
  | _ => []
def k_flc (own : String) (q : Nat × Nat × Nat) : Bool := match k_cl[q.2.1]? with
  | some z => decide (q.2.2 < z.2.2) && decide (Cond.fieldLink own q.1 (z.2.1 q.2.2).1 (z.2.1 q.2.2).2.1 (z.2.1 q.2.2).2.2.1 ∈ k_T)
  | none => false
theorem k_fl0 : (k_fl 0).all (k_flc (k_own 0)) = true := by decide +kernel
theorem k_fl1 : (k_fl 1).all (k_flc (k_own 1)) = true := by decide +kernel
theorem k_fl2 : (k_fl 2).all (k_flc (k_own 2)) = true := by decide +kernel
theorem k_fl3 : (k_fl 3).all (k_flc (k_own 3)) = true := by decide +kernel
theorem k_clw : k_cl.all (fun z => (u_ws z.1 z.2.1 z.2.2).all (fun w => decide (w ∈ k_T))) = true := by decide +kernel
end
section
abbrev k_O : Type := (Nat × vp_A) ⊕ (Nat × List Value)
abbrev k_S : Type := Nat × List (Nat × Value) × List Value × List k_O × Nat × Nat
abbrev k_Y : Type := Nat × MethodName × ByteArray × Nat × Option FieldType × Nat × Nat × List (Nat × Nat × Nat × Nat)
abbrev k_nm (Y : k_Y) : MethodName := Y.2.1
abbrev k_cc (Y : k_Y) : ByteArray := Y.2.2.1
abbrev k_nL (Y : k_Y) : Nat := Y.2.2.2.1
abbrev k_rt (Y : k_Y) : Option FieldType := Y.2.2.2.2.1
abbrev k_fr (Y : k_Y) : Nat := Y.2.2.2.2.2.1
abbrev k_lo (Y : k_Y) : Nat := Y.2.2.2.2.2.2.1
abbrev k_hh (Y : k_Y) : List (Nat × Nat × Nat × Nat) := Y.2.2.2.2.2.2.2
abbrev k_G : Type := (Option Value ⊕ String) × List k_O × Nat × Nat
abbrev k_Sc : Type := Option (Nat × (Nat → Int32))
def k_v (ad : Nat → Nat) (v : Value) : Value := match v with
  | .ref a => .ref (ad a)
  | .int x => .int x
  | .long x => .long x
  | .float x => .float x
  | .double x => .double x
  | .null => .null
  | .retAddr x => .retAddr x
def k_o (cA : Nat → ClassId) (ad : Nat → Nat) (o : k_O) : va_E := match o with
  | .inl a => .inl (cA a.1, a.2)
  | .inr c => .inr (c.1, c.2.map (k_v ad))
def k_w (cA : Nat → ClassId) (ad : Nat → Nat) (h : List k_O) : va_W := h.mapIdx (fun i o => (ad i, k_o cA ad o))
def k_get {α : Type} : List α → Nat → Option α
  | [], _ => none
  | o :: _, 0 => some o
  | _ :: h, n + 1 => k_get h n
def k_set {α : Type} : List α → Nat → α → List α
  | [], _, _ => []
  | _ :: h, 0, x => x :: h
  | o :: h, n + 1, x => o :: k_set h n x
def k_lk {α : Type} : List (Nat × α) → Nat → Option α
  | [], _ => none
  | q :: l, i => cond (Nat.beq q.1 i) (some q.2) (k_lk l i)
def k_ci (n : Int) : Int32 := match n with
  | .ofNat k => nI k
  | .negSucc 0 => -1
  | .negSucc k => Int32.ofInt (.negSucc k)
theorem k_get_eq {α : Type} (h : List α) (i : Nat) : k_get h i = h[i]? := by
  induction h generalizing i with
  | nil => rfl
  | cons o h ih => cases i with
    | zero => rfl
    | succ i => simpa [k_get] using ih i
theorem k_set_eq {α : Type} (h : List α) (i : Nat) (x : α) : k_set h i x = h.set i x := by
  induction h generalizing i with
  | nil => rfl
  | cons o h ih => cases i with
    | zero => rfl
    | succ i => simp [k_set, ih i]
theorem k_lk_mem {α : Type} {l : List (Nat × α)} {i : Nat} {v : α} (h : k_lk l i = some v) : (i, v) ∈ l := by
  induction l with
  | nil => cases h
  | cons q l ih =>
    unfold k_lk at h
    cases hb : Nat.beq q.1 i with
    | true =>
      rw [hb] at h
      have e1 : q.1 = i := Nat.eq_of_beq_eq_true hb
      have e2 : q.2 = v := Option.some.inj h
      rw [← e1, ← e2]
      exact List.mem_cons_self
    | false =>
      rw [hb] at h
      exact List.mem_cons_of_mem _ (ih h)
theorem k_ci_eq (n : Int) : Int32.ofInt n = k_ci n := by
  unfold k_ci
  split
  · rfl
  · rfl
  · rfl
theorem k_w_get {cA : Nat → ClassId} {ad : Nat → Nat} {h : List k_O} {i : Nat} {o : k_O} (e : k_get h i = some o) : (k_w cA ad h)[i]? = some (ad i, k_o cA ad o) := by
  rw [k_get_eq] at e
  simp [k_w, e]
theorem k_w_set {cA : Nat → ClassId} {ad : Nat → Nat} {h : List k_O} {i : Nat} {o : k_O} : (k_w cA ad h).set i (ad i, k_o cA ad o) = k_w cA ad (k_set h i o) := by
  rw [k_set_eq]
  apply List.ext_getElem?
  intro j
  simp only [k_w, List.getElem?_set, List.getElem?_mapIdx, List.length_mapIdx]
  by_cases hij : i = j
  · subst hij
    by_cases hl : i < h.length
    · simp [hl]
    · simp [hl]
  · simp [hij]
theorem k_w_push {cA : Nat → ClassId} {ad : Nat → Nat} {h : List k_O} {o : k_O} : k_w cA ad h ++ [(ad h.length, k_o cA ad o)] = k_w cA ad (h ++ [o]) := by
  simp [k_w, List.mapIdx_append]
/-- the values of a list name no thing beyond n, but the script -/
def k_okv (n : Nat) (v : Value) : Bool := match v with
  | .ref a => Nat.blt a n || Nat.beq a 1000000
  | _ => true
def k_oko (n : Nat) (o : k_O) : Bool := match o with
  | .inl _ => true
  | .inr c => c.2.all (k_okv n)
theorem k_v_eq {ad ad' : Nat → Nat} {n : Nat} (h : ∀ i, i < n → ad' i = ad i) (hs : ad' 1000000 = ad 1000000) {v : Value} (ok : k_okv n v = true) : k_v ad' v = k_v ad v := by
  cases v with
  | ref a =>
    have h1 : Nat.blt a n = true ∨ Nat.beq a 1000000 = true := by simpa [k_okv] using ok
    rcases h1 with h1 | h1
    · have : a < n := by simpa [Nat.blt_eq] using h1
      simp [k_v, h a this]
    · have : a = 1000000 := Nat.eq_of_beq_eq_true h1
      simp [k_v, this, hs]
  | _ => rfl
theorem k_cat (ad : Nat → Nat) (v : Value) : (k_v ad v).category = v.category := by
  cases v <;> rfl
end
section
def k_tys (cA : Nat → ClassId) : List (ClassId × FieldType) := [(cA 0, .int), (cA 1, .boolean), (cA 2, .long)]
def k_ex6 : List String := ["java/lang/ArrayIndexOutOfBoundsException", "java/lang/IllegalArgumentException", "java/lang/IllegalStateException", "java/lang/IndexOutOfBoundsException", "java/lang/NegativeArraySizeException", "java/lang/UnsupportedOperationException"]
/-- which of the six kinds of throws a row of a table takes -/
def k_sub (E F : String) : Bool := E == F || (E == "java/lang/ArrayIndexOutOfBoundsException" && F == "java/lang/IndexOutOfBoundsException")
def k_dcl : List MethodName := [⟨"java/lang/Exception", "<init>", "(Ljava/lang/String;)V"⟩, ⟨"java/lang/IndexOutOfBoundsException", "<init>", "(Ljava/lang/String;)V"⟩, ⟨"java/lang/RuntimeException", "<init>", "(Ljava/lang/String;)V"⟩, ⟨"java/lang/Throwable", "<init>", "(Ljava/lang/String;)V"⟩]
def k_Ng (U : State) : Prop := (∀ x ∈ k_dcl, va_Nw (.declares x) U) ∧ ∀ E ∈ k_ex6, ∀ F ∈ k_ex6, (k_sub E F = true → va_Nw (.castable E F) U) ∧ (k_sub E F = false → va_Nc E F U)
def k_str : List (Nat × String) := [(44, "a day of too many slots"), (51, "a day of fewer than no slots"), (79, "no such channels"), (93, "no such limit"), (101, "no such words"), (124, "the unit has not heard the whole message"), (152, "no such place among the units"), (160, "no such part of the day"), (168, "no such unit"), (170, "no such message"), (172, "no such channel"), (179, "no such slot"), (182, "no such point"), (184, "no channel of that number"), (186, "no slot of that number"), (188, "no such rank"), (193, "the unit has a message that begins in this slot"), (197, "no room for one more message"), (200, "no such reach"), (206, "no room for one more")]
def k_Fix (A : Nat → Prop) (U : State) (H : Heap) : Prop :=
  vx_Zq Bundle.tN "UNASSIGNED_STACK" Bundle.steD A U H ∧ vx_Zq Bundle.tN "SUPPRESSED_SENTINEL" Bundle.listD A U H ∧ k_Ng U ∧ ∀ q ∈ k_str, ∃ sa, vk_R RX2 q.1 q.2 sa U
def k_C (Y : k_Y) (sc : k_Sc) (p : Program) (l : Launch) (s : State) (m : MethodId) (args : Array Value) (meth : Method) (c : Code) (g : va_G) (cA : Nat → ClassId) (A : Nat → Prop) (b : Nat) : Prop :=
  p.tables.exec = Jvm.exec ∧ c.code = k_cc Y ∧ c.maxLocals = k_nL Y ∧ s.vm.findClass (k_own Y.1) = some m.cls ∧ (∀ w ∈ k_T, w.before args s = true) ∧ va_K g k_cl (k_tys cA) s ∧ (∀ q, s.heap.size ≤ q → A q) ∧ meth.locks = false ∧ l.stackTraces = false ∧ k_Fix A s s.heap ∧ meth.name = (k_nm Y).name ∧ (k_hh Y ≠ [] → c.exceptionTable.toList = tableOf (k_hh Y)) ∧ ∀ L xs, sc = some (L, xs) → va_X b L xs s s.heap ∧ b < s.heap.size ∧ ¬ A b
def k_I (Y : k_Y) (sc : k_Sc) (s : State) (g : va_G) (cA : Nat → ClassId) (A : Nat → Prop) (b : Nat) (ad0 : Nat → Nat) (n0 : Nat) (ad : Nat → Nat) (H : Heap) (locs : List Loc) (h : List k_O) : Prop :=
  va_P g k_cl (k_w cA ad h) H ∧ va_D A (k_w cA ad h) ∧ va_S A s.heap H locs ∧ (∀ i, i < n0 → ad i = ad0 i) ∧ n0 ≤ h.length ∧ (sc ≠ none → ad 1000000 = b) ∧ ad 1000000 = ad0 1000000
abbrev k_R (Y : k_Y) (G : k_G) : Room := { frames := k_fr Y, cells := G.2.2.1, slots := G.2.2.2, locals := k_lo Y }
/-- the ends that a body may come to -/
def k_E (Y : k_Y) (sc : k_Sc) (G : k_G) (p : Program) (l : Launch) (e : Env) (s : State) (m : MethodId) (args : Array Value) (below : List Frame) (meth : Method) (c : Code) (g : va_G) (cA : Nat → ClassId) (A : Nat → Prop) (b : Nat) (ad0 : Nat → Nat) (n0 : Nat) (Q : State → Prop) : Prop :=
  (∀ (v : Option Value), G.1 = .inl v → (∀ x ty, v = some (.int x) → k_rt Y = some ty → narrow ty (.int x) = .int x) → ∀ (ad : Nat → Nat) (H : Heap) (locs : List Loc) (ls : Array Slot) (pc : Nat), k_I Y sc s g cA A b ad0 n0 ad H locs G.2.1 →
    ((v = none ∧ k_rt Y = none ∧ decode (k_cc Y) pc = .ok (.return_, 1)) ∨ (∃ x ty, v = some (.int x) ∧ k_rt Y = some ty ∧ decode (k_cc Y) pc = .ok (.ireturn, 1))) →
    W p l e (k_R Y G) s m args below meth c H locs G.2.2.1 G.2.2.2 Q (F0 m pc ls (v.map (k_v ad)).toList)) ∧
  (∀ (E : String), G.1 = .inr E → k_hh Y = [] → ∀ (ad : Nat → Nat) (H : Heap) (locs : List Loc) (ls : Array Slot) (pc : Nat) (rest : List Value) (q : Addr) (ce : Cell), k_I Y sc s g cA A b ad0 n0 ad H locs G.2.1 →
    H[q]? = some ce → ce.vm = .none → s.vm.findClass E = some ce.cls → vx_W p l e (k_R Y G) s m args below meth c H locs G.2.2.1 G.2.2.2 Q (F0 m pc ls rest) q) ∧
  (∀ (E : String), G.1 = .inr E → k_hh Y = [] → ∀ (ad : Nat → Nat) (H : Heap) (locs : List Loc) (ls : Array Slot) (pc : Nat) (rest : List Value) (names : List String) (text : String) (ik is ic sa cells slots : Nat), k_I Y sc s g cA A b ad0 n0 ad H locs G.2.1 → ls.size = c.maxLocals →
    Bundle.fit E = true → (∀ n ∈ names, Bundle.fit n = true) → (Cond.classLink (k_own Y.1) ik E).before args s = true → (Cond.initialized E).before args s = true → vk_R (k_own Y.1) is text sa s → (∀ w ∈ vx_atS (k_own Y.1) ic E names, w.before args s = true) →
    (∀ w ∈ Cond.classLink (k_own Y.1) ik E :: Cond.initialized E :: vx_atS (k_own Y.1) ic E names, vx_ot w = true) →
    decode (k_cc Y) pc = .ok (.new ik, 3) → decode (k_cc Y) (pc + 3) = .ok (.dup, 1) → decode (k_cc Y) (pc + 4) = .ok (.ldc is, 2) → decode (k_cc Y) (pc + 6) = .ok (.invokespecial ic, 3) → decode (k_cc Y) (pc + 9) = .ok (.athrow, 1) →
    names.length + 3 < k_fr Y → (rest.map fun v => v.category).sum + (13 * (names.length + 1) + 43) ≤ k_lo Y → cells + 1 ≤ G.2.2.1 → slots + 6 ≤ G.2.2.2 →
    W p l e (k_R Y G) s m args below meth c H locs cells slots Q (F0 m pc ls rest))
def k_W (Y : k_Y) (sc : k_Sc) (G : k_G) (S : k_S) : Prop :=
  ∀ (p : Program) (l : Launch) (e : Env) (s : State) (m : MethodId) (args : Array Value) (below : List Frame) (meth : Method) (c : Code) (g : va_G) (cA : Nat → ClassId) (A : Nat → Prop) (b : Nat) (ad0 : Nat → Nat) (n0 : Nat) (Q : State → Prop),
    k_C Y sc p l s m args meth c g cA A b → k_E Y sc G p l e s m args below meth c g cA A b ad0 n0 Q →
    ∀ (ad : Nat → Nat) (H : Heap) (locs : List Loc) (ls : Array Slot), k_I Y sc s g cA A b ad0 n0 ad H locs S.2.2.2.1 → lv_has ls (k_nL Y) (S.2.1.map (fun q => (q.1, k_v ad q.2))) →
      W p l e (k_R Y G) s m args below meth c H locs S.2.2.2.2.1 S.2.2.2.2.2 Q (F0 m S.1 ls (S.2.2.1.map (k_v ad)))
def k_up (ls : List (Nat × Value)) (i : Nat) (v : Value) : List (Nat × Value) := (i, v) :: ls.filter (fun q => !(Nat.beq q.1 i))
theorem k_lk_at {ls : Array Slot} {nL i : Nat} {ad : Nat → Nat} {l : List (Nat × Value)} {v : Value} (h : lv_has ls nL (l.map (fun q => (q.1, k_v ad q.2)))) (e : k_lk l i = some v) : ls[i]? = some (.val (k_v ad v)) :=
  h.2.2 (i, k_v ad v) (List.mem_map.mpr ⟨(i, v), k_lk_mem e, rfl⟩)
theorem k_up_sub {ls : Array Slot} {nL i : Nat} {ad : Nat → Nat} {l : List (Nat × Value)} {v : Value} (hc : l.all (fun q => Nat.beq q.2.category 1) = true)
    (h : lv_has ls nL ((i, k_v ad v) :: (l.map (fun q => (q.1, k_v ad q.2))).filter (fun q => !(q.1 == i) && !(q.1 + 1 == i && q.2.category == 2)))) : lv_has ls nL ((k_up l i v).map (fun q => (q.1, k_v ad q.2))) := by
  refine ⟨h.1, h.2.1, fun q hq => h.2.2 q ?_⟩
  unfold k_up at hq
  simp only [List.map_cons, List.mem_cons, List.mem_map, List.mem_filter] at hq
  rcases hq with hq | ⟨z, ⟨hz, hz2⟩, hz3⟩
  · rw [hq]; exact List.mem_cons_self
  · refine List.mem_cons_of_mem _ (List.mem_filter.mpr ⟨List.mem_map.mpr ⟨z, hz, hz3⟩, ?_⟩)
    subst hz3
    have h1 := List.all_eq_true.mp hc z hz
    have h2 : z.2.category = 1 := Nat.eq_of_beq_eq_true h1
    simp only [Bool.and_eq_true, Bool.not_eq_true', beq_eq_false_iff_ne, ne_eq, Bool.and_eq_false_iff, k_cat, h2]
    refine ⟨?_, Or.inr (by simp)⟩
    have h3 : Nat.beq z.1 i = false := by simpa using hz2
    exact Nat.ne_of_beq_eq_false h3
end
section
def k_elem (i : Nat) : List Nat → Bool
  | [] => false
  | j :: l => cond (Nat.beq j i) true (k_elem i l)
/-- the whole fields of ints that a method may write: class, place -/
def k_pfl (ci k : Nat) : Bool := match ci with
  | 0 => Nat.beq k 9
  | 1 => Nat.beq k 5
  | 2 => k_elem k [6, 7]
  | 3 => k_elem k [0, 1, 2, 4, 9, 14]
  | _ => false
def k_cnd (c : ClassFile.Cond) (x y : Int32) : Prop := match c with
  | .eq => x = y
  | .ne => ¬ x = y
  | .lt => x < y
  | .ge => y ≤ x
  | .gt => y < x
  | .le => x ≤ y
def k_cnf (c : ClassFile.Cond) (x y : Int32) : Prop := match c with
  | .eq => ¬ x = y
  | .ne => x = y
  | .lt => ¬ x < y
  | .ge => ¬ y ≤ x
  | .gt => ¬ y < x
  | .le => ¬ x ≤ y
/-- one instruction, goal first: what must hold here so that K holds behind it -/
def k_ex (o nL : Nat) (sc : k_Sc) (i : Instr) (nx tg : Nat) (S : k_S) (K : k_S → Prop) : Prop := match i with
  | .iload_n j => (match k_lk S.2.1 j.val with | some (.int x) => K (nx, S.2.1, .int x :: S.2.2.1, S.2.2.2) | _ => False)
  | .iload j => (match k_lk S.2.1 j with | some (.int x) => K (nx, S.2.1, .int x :: S.2.2.1, S.2.2.2) | _ => False)
  | .aload_n j => (match k_lk S.2.1 j.val with | some (.ref x) => K (nx, S.2.1, .ref x :: S.2.2.1, S.2.2.2) | _ => False)
  | .aload j => (match k_lk S.2.1 j with | some (.ref x) => K (nx, S.2.1, .ref x :: S.2.2.1, S.2.2.2) | _ => False)
  | .istore_n j => (match S.2.2.1 with | .int x :: st => cond (Nat.blt j.val nL && S.2.1.all (fun q => Nat.beq q.2.category 1)) (K (nx, k_up S.2.1 j.val (.int x), st, S.2.2.2)) False | _ => False)
  | .istore j => (match S.2.2.1 with | .int x :: st => cond (Nat.blt j nL && S.2.1.all (fun q => Nat.beq q.2.category 1)) (K (nx, k_up S.2.1 j (.int x), st, S.2.2.2)) False | _ => False)
  | .astore_n j => (match S.2.2.1 with | .ref x :: st => cond (Nat.blt j.val nL && S.2.1.all (fun q => Nat.beq q.2.category 1)) (K (nx, k_up S.2.1 j.val (.ref x), st, S.2.2.2)) False | _ => False)
  | .astore j => (match S.2.2.1 with | .ref x :: st => cond (Nat.blt j nL && S.2.1.all (fun q => Nat.beq q.2.category 1)) (K (nx, k_up S.2.1 j (.ref x), st, S.2.2.2)) False | _ => False)
  | .iconst n => K (nx, S.2.1, .int (k_ci n) :: S.2.2.1, S.2.2.2)
  | .bipush n => (match n with | .ofNat q => cond (Nat.blt q 128) (K (nx, S.2.1, .int (nI q) :: S.2.2.1, S.2.2.2)) False | _ => False)
  | .sipush n => (match n with | .ofNat q => cond (Nat.blt q 32768) (K (nx, S.2.1, .int (nI q) :: S.2.2.1, S.2.2.2)) False | _ => False)
  | .lconst n => K (nx, S.2.1, .long (lN n.val) :: S.2.2.1, S.2.2.2)
  | .i2l => (match S.2.2.1 with | .int x :: st => K (nx, S.2.1, .long x.toInt64 :: st, S.2.2.2) | _ => False)
  | .lcmp => (match S.2.2.1 with | .long y :: .long x :: st => K (nx, S.2.1, .int (lg_cmp x y) :: st, S.2.2.2) | _ => False)
  | .iinc j n => (match k_lk S.2.1 j with | some (.int x) => cond (Nat.blt j nL && S.2.1.all (fun q => Nat.beq q.2.category 1)) (∃ z, x + k_ci n = z ∧ K (nx, k_up S.2.1 j (.int z), S.2.2.1, S.2.2.2)) False | _ => False)
  | .iadd => (match S.2.2.1 with | .int y :: .int x :: st => ∃ z, x + y = z ∧ K (nx, S.2.1, .int z :: st, S.2.2.2) | _ => False)
  | .isub => (match S.2.2.1 with | .int y :: .int x :: st => ∃ z, x - y = z ∧ K (nx, S.2.1, .int z :: st, S.2.2.2) | _ => False)
  | .imul => (match S.2.2.1 with | .int y :: .int x :: st => ∃ z, x * y = z ∧ K (nx, S.2.1, .int z :: st, S.2.2.2) | _ => False)
  | .iand => (match S.2.2.1 with | .int y :: .int x :: st => ∃ z, x &&& y = z ∧ K (nx, S.2.1, .int z :: st, S.2.2.2) | _ => False)
  | .dup => (match S.2.2.1 with | v :: st => cond (Nat.beq v.category 1) (K (nx, S.2.1, v :: v :: st, S.2.2.2)) False | _ => False)
  | .dup2 => (match S.2.2.1 with | v :: w :: st => cond (Nat.beq v.category 1 && Nat.beq w.category 1) (K (nx, S.2.1, v :: w :: v :: w :: st, S.2.2.2)) False | _ => False)
  | .ifCond c _ => (match S.2.2.1 with | .int x :: st => (k_cnd c x 0 → K (tg, S.2.1, st, S.2.2.2)) ∧ (k_cnf c x 0 → K (nx, S.2.1, st, S.2.2.2)) | _ => False)
  | .if_icmp c _ => (match S.2.2.1 with | .int y :: .int x :: st => (k_cnd c x y → K (tg, S.2.1, st, S.2.2.2)) ∧ (k_cnf c x y → K (nx, S.2.1, st, S.2.2.2)) | _ => False)
  | .goto _ => K (tg, S.2.1, S.2.2.1, S.2.2.2)
  | .getfield n => (match S.2.2.1 with
    | .ref a :: st => (match k_lk (k_fl o) n with
      | some q => (match k_get S.2.2.2.1 a with
        | some (.inr z) => cond (Nat.beq z.1 q.1) (match k_get z.2 q.2 with | some v => K (nx, S.2.1, v :: st, S.2.2.2) | none => False) False
        | _ => False)
      | none => False)
    | _ => False)
  | .putfield n => (match S.2.2.1 with
    | .int x :: .ref a :: st => (match k_lk (k_fl o) n with
      | some q => (match k_get S.2.2.2.1 a with
        | some (.inr z) => cond (Nat.beq z.1 q.1 && k_pfl q.1 q.2 && Nat.blt q.2 z.2.length) (K (nx, S.2.1, st, k_set S.2.2.2.1 a (.inr (z.1, k_set z.2 q.2 (.int x))), S.2.2.2.2)) False
        | _ => False)
      | none => False)
    | _ => False)
  | .iaload => (match S.2.2.1 with
    | .int i :: .ref a :: st => (match k_get S.2.2.2.1 a with
      | some (.inl (0, n, .inl f)) => cond (Nat.blt n 100000) (∃ j : Nat, i = nI j ∧ j < n ∧ K (nx, S.2.1, .int (f j) :: st, S.2.2.2)) False
      | none => cond (Nat.beq a 1000000) (match sc with | some q => ∃ j : Nat, i = nI j ∧ j < q.1 ∧ j < 100000 ∧ K (nx, S.2.1, .int (q.2 j) :: st, S.2.2.2) | none => False) False
      | _ => False)
    | _ => False)
  | .baload => (match S.2.2.1 with
    | .int i :: .ref a :: st => (match k_get S.2.2.2.1 a with
      | some (.inl (1, n, .inl f)) => cond (Nat.blt n 100000) (∃ j : Nat, i = nI j ∧ j < n ∧ K (nx, S.2.1, .int (f j) :: st, S.2.2.2)) False
      | _ => False)
    | _ => False)
  | .laload => (match S.2.2.1 with
    | .int i :: .ref a :: st => (match k_get S.2.2.2.1 a with
      | some (.inl (2, n, .inr (.inl f))) => cond (Nat.blt n 100000) (∃ j : Nat, i = nI j ∧ j < n ∧ K (nx, S.2.1, .long (f j) :: st, S.2.2.2)) False
      | _ => False)
    | _ => False)
  | .iastore => (match S.2.2.1 with
    | .int x :: .int i :: .ref a :: st => (match k_get S.2.2.2.1 a with
      | some (.inl (0, n, .inl f)) => cond (Nat.blt n 100000) (∃ j : Nat, i = nI j ∧ j < n ∧ K (nx, S.2.1, st, k_set S.2.2.2.1 a (.inl (0, n, .inl (upd f j x))), S.2.2.2.2)) False
      | _ => False)
    | _ => False)
  | .bastore => (match S.2.2.1 with
    | .int x :: .int i :: .ref a :: st => (match k_get S.2.2.2.1 a with
      | some (.inl (1, n, .inl f)) => cond (Nat.blt n 100000) ((x = 0 ∨ x = 1) ∧ ∃ j : Nat, i = nI j ∧ j < n ∧ K (nx, S.2.1, st, k_set S.2.2.2.1 a (.inl (1, n, .inl (upd f j x))), S.2.2.2.2)) False
      | _ => False)
    | _ => False)
  | .lastore => (match S.2.2.1 with
    | .long x :: .int i :: .ref a :: st => (match k_get S.2.2.2.1 a with
      | some (.inl (2, n, .inr (.inl f))) => cond (Nat.blt n 100000) (∃ j : Nat, i = nI j ∧ j < n ∧ K (nx, S.2.1, st, k_set S.2.2.2.1 a (.inl (2, n, .inr (.inl (vp_updL f j x)))), S.2.2.2.2)) False
      | _ => False)
    | _ => False)
  | .arraylength => (match S.2.2.1 with
    | .ref a :: st => (match k_get S.2.2.2.1 a with
      | some (.inl (0, n, .inl _)) => K (nx, S.2.1, .int (nI n) :: st, S.2.2.2)
      | none => cond (Nat.beq a 1000000) (match sc with | some q => K (nx, S.2.1, .int (nI q.1) :: st, S.2.2.2) | none => False) False
      | _ => False)
    | _ => False)
  | _ => False
def k_run (o nL : Nat) (sc : k_Sc) (blk : List (Nat × Instr × Nat × Nat)) (stops : List Nat) (K : k_S → Prop) : Nat → k_S → Prop
  | 0, S => K S
  | f + 1, S => match k_lk blk S.1 with
    | none => K S
    | some q => k_ex o nL sc q.1 q.2.1 q.2.2 S (fun S' => cond (k_elem S'.1 stops) (K S') (k_run o nL sc blk stops K f S'))
def k_tgt (pc : Nat) (i : Instr) (tg : Nat) : Bool := match i with
  | .goto off => decide ((pc : Int) + off = (tg : Int))
  | .ifCond _ off => decide ((pc : Int) + off = (tg : Int))
  | .if_icmp _ off => decide ((pc : Int) + off = (tg : Int))
  | _ => true
end
section
def k_len (i : Instr) : Nat := match i with
  | .iload _ => 2 | .aload _ => 2 | .istore _ => 2 | .astore _ => 2 | .bipush _ => 2 | .sipush _ => 3 | .iinc _ _ => 3 | .ifCond _ _ => 3 | .if_icmp _ _ => 3 | .goto _ => 3 | .getfield _ => 3 | .putfield _ => 3
  | _ => 1
theorem k_cond {b : Bool} {P : Prop} (h : cond b P False) : b = true ∧ P := by
  cases b with
  | true => exact ⟨rfl, h⟩
  | false => exact h.elim
theorem k_and2 {a b : Bool} (h : (a && b) = true) : a = true ∧ b = true := by simpa using h
theorem k_blt {a b : Nat} (h : Nat.blt a b = true) : a < b := by simpa [Nat.blt_eq] using h
section KR
variable {Y : k_Y} {sc : k_Sc} {G : k_G} {pc : Nat} {ls : List (Nat × Value)} {st : List Value} {h : List k_O} {nc ns : Nat}
theorem k_iload_n {j : Fin 4} {x : Int32} (d : decode (k_cc Y) pc = .ok (.iload_n j, 1)) (hl : k_lk ls j.val = some (.int x)) (k : k_W Y sc G (pc + 1, ls, .int x :: st, h, nc, ns)) : k_W Y sc G (pc, ls, st, h, nc, ns) := by
  intro p l e s m args below meth c g cA A b ad0 n0 Q C E ad H locs la I hv
  exact lv_iload_n C.1 C.2.1 d rfl (k_lk_at hv hl) (k p l e s m args below meth c g cA A b ad0 n0 Q C E ad H locs la I hv)
theorem k_istore_n {j : Fin 4} {x : Int32} (d : decode (k_cc Y) pc = .ok (.istore_n j, 1)) (hj : Nat.blt j.val (k_nL Y) = true) (hc : ls.all (fun q => Nat.beq q.2.category 1) = true) (k : k_W Y sc G (pc + 1, k_up ls j.val (.int x), st, h, nc, ns)) : k_W Y sc G (pc, ls, .int x :: st, h, nc, ns) := by
  intro p l e s m args below meth c g cA A b ad0 n0 Q C E ad H locs la I hv
  exact lv_istore_n C.1 C.2.1 d rfl hv (k_blt hj) rfl (fun la hv => k p l e s m args below meth c g cA A b ad0 n0 Q C E ad H locs la I (k_up_sub hc hv))
theorem k_iload {j : Nat} {x : Int32} (d : decode (k_cc Y) pc = .ok (.iload j, 2)) (hl : k_lk ls j = some (.int x)) (k : k_W Y sc G (pc + 2, ls, .int x :: st, h, nc, ns)) : k_W Y sc G (pc, ls, st, h, nc, ns) := by
  intro p l e s m args below meth c g cA A b ad0 n0 Q C E ad H locs la I hv
  exact lv_iload C.1 C.2.1 d (k_lk_at hv hl) (k p l e s m args below meth c g cA A b ad0 n0 Q C E ad H locs la I hv)
theorem k_istore {j : Nat} {x : Int32} (d : decode (k_cc Y) pc = .ok (.istore j, 2)) (hj : Nat.blt j (k_nL Y) = true) (hc : ls.all (fun q => Nat.beq q.2.category 1) = true) (k : k_W Y sc G (pc + 2, k_up ls j (.int x), st, h, nc, ns)) : k_W Y sc G (pc, ls, .int x :: st, h, nc, ns) := by
  intro p l e s m args below meth c g cA A b ad0 n0 Q C E ad H locs la I hv
  exact lv_istore C.1 C.2.1 d hv (k_blt hj) rfl (fun la hv => k p l e s m args below meth c g cA A b ad0 n0 Q C E ad H locs la I (k_up_sub hc hv))
theorem k_aload_n {j : Fin 4} {x : Nat} (d : decode (k_cc Y) pc = .ok (.aload_n j, 1)) (hl : k_lk ls j.val = some (.ref x)) (k : k_W Y sc G (pc + 1, ls, .ref x :: st, h, nc, ns)) : k_W Y sc G (pc, ls, st, h, nc, ns) := by
  intro p l e s m args below meth c g cA A b ad0 n0 Q C E ad H locs la I hv
  exact lv_aload_n C.1 C.2.1 d rfl (k_lk_at hv hl) (k p l e s m args below meth c g cA A b ad0 n0 Q C E ad H locs la I hv)
theorem k_astore_n {j : Fin 4} {x : Nat} (d : decode (k_cc Y) pc = .ok (.astore_n j, 1)) (hj : Nat.blt j.val (k_nL Y) = true) (hc : ls.all (fun q => Nat.beq q.2.category 1) = true) (k : k_W Y sc G (pc + 1, k_up ls j.val (.ref x), st, h, nc, ns)) : k_W Y sc G (pc, ls, .ref x :: st, h, nc, ns) := by
  intro p l e s m args below meth c g cA A b ad0 n0 Q C E ad H locs la I hv
  exact lv_astore_n C.1 C.2.1 d rfl hv (k_blt hj) rfl (fun la hv => k p l e s m args below meth c g cA A b ad0 n0 Q C E ad H locs la I (k_up_sub hc hv))
theorem k_aload {j : Nat} {x : Nat} (d : decode (k_cc Y) pc = .ok (.aload j, 2)) (hl : k_lk ls j = some (.ref x)) (k : k_W Y sc G (pc + 2, ls, .ref x :: st, h, nc, ns)) : k_W Y sc G (pc, ls, st, h, nc, ns) := by
  intro p l e s m args below meth c g cA A b ad0 n0 Q C E ad H locs la I hv
  exact lv_aload C.1 C.2.1 d (k_lk_at hv hl) (k p l e s m args below meth c g cA A b ad0 n0 Q C E ad H locs la I hv)
theorem k_astore {j : Nat} {x : Nat} (d : decode (k_cc Y) pc = .ok (.astore j, 2)) (hj : Nat.blt j (k_nL Y) = true) (hc : ls.all (fun q => Nat.beq q.2.category 1) = true) (k : k_W Y sc G (pc + 2, k_up ls j (.ref x), st, h, nc, ns)) : k_W Y sc G (pc, ls, .ref x :: st, h, nc, ns) := by
  intro p l e s m args below meth c g cA A b ad0 n0 Q C E ad H locs la I hv
  exact lv_astore C.1 C.2.1 d hv (k_blt hj) rfl (fun la hv => k p l e s m args below meth c g cA A b ad0 n0 Q C E ad H locs la I (k_up_sub hc hv))
theorem k_iconst {n : Int} (d : decode (k_cc Y) pc = .ok (.iconst n, 1))  (k : k_W Y sc G (pc + 1, ls, .int (k_ci n) :: st, h, nc, ns)) : k_W Y sc G (pc, ls, st, h, nc, ns) := by
  intro p l e s m args below meth c g cA A b ad0 n0 Q C E ad H locs la I hv
  exact lv_iconst C.1 C.2.1 d (k_ci_eq n) (k p l e s m args below meth c g cA A b ad0 n0 Q C E ad H locs la I hv)
theorem k_i8 : ∀ q, q < 128 → (Int8.ofInt (Int.ofNat q)).toInt32 = nI q := by decide +kernel
theorem k_i16 {q : Nat} (hq : q < 32768) : (Int16.ofInt (Int.ofNat q)).toInt32 = nI q := by
  apply Int32.toInt_inj.mp
  rw [Int16.toInt_toInt32, nI_toInt (by omega), Int16.toInt_ofInt]
  simp only [Int.ofNat_eq_natCast, Int.bmod, Int16.size]
  omega
theorem k_bipush {q : Nat} (d : decode (k_cc Y) pc = .ok (.bipush (.ofNat q), 2)) (hq : Nat.blt q 128 = true) (k : k_W Y sc G (pc + 2, ls, .int (nI q) :: st, h, nc, ns)) : k_W Y sc G (pc, ls, st, h, nc, ns) := by
  intro p l e s m args below meth c g cA A b ad0 n0 Q C E ad H locs la I hv
  exact lv_bipush C.1 C.2.1 d (k_i8 q (k_blt hq)) (k p l e s m args below meth c g cA A b ad0 n0 Q C E ad H locs la I hv)
theorem k_sipush {q : Nat} (d : decode (k_cc Y) pc = .ok (.sipush (.ofNat q), 3)) (hq : Nat.blt q 32768 = true) (k : k_W Y sc G (pc + 3, ls, .int (nI q) :: st, h, nc, ns)) : k_W Y sc G (pc, ls, st, h, nc, ns) := by
  intro p l e s m args below meth c g cA A b ad0 n0 Q C E ad H locs la I hv
  exact lv_sipush C.1 C.2.1 d (k_i16 (k_blt hq)) (k p l e s m args below meth c g cA A b ad0 n0 Q C E ad H locs la I hv)
theorem k_lconst {n : Fin 2} (d : decode (k_cc Y) pc = .ok (.lconst n, 1))  (k : k_W Y sc G (pc + 1, ls, .long (lN n.val) :: st, h, nc, ns)) : k_W Y sc G (pc, ls, st, h, nc, ns) := by
  intro p l e s m args below meth c g cA A b ad0 n0 Q C E ad H locs la I hv
  exact lv_lconst C.1 C.2.1 d rfl (k p l e s m args below meth c g cA A b ad0 n0 Q C E ad H locs la I hv)
theorem k_i2l {x : Int32} (d : decode (k_cc Y) pc = .ok (.i2l, 1))  (k : k_W Y sc G (pc + 1, ls, .long x.toInt64 :: st, h, nc, ns)) : k_W Y sc G (pc, ls, .int x :: st, h, nc, ns) := by
  intro p l e s m args below meth c g cA A b ad0 n0 Q C E ad H locs la I hv
  exact lv_i2l C.1 C.2.1 d rfl (k p l e s m args below meth c g cA A b ad0 n0 Q C E ad H locs la I hv)
theorem k_lcmp {x y : Int64} (d : decode (k_cc Y) pc = .ok (.lcmp, 1))  (k : k_W Y sc G (pc + 1, ls, .int (lg_cmp x y) :: st, h, nc, ns)) : k_W Y sc G (pc, ls, .long y :: .long x :: st, h, nc, ns) := by
  intro p l e s m args below meth c g cA A b ad0 n0 Q C E ad H locs la I hv
  exact W.lcmp C.1 C.2.1 d (k p l e s m args below meth c g cA A b ad0 n0 Q C E ad H locs la I hv)
theorem k_iadd {x y z : Int32} (d : decode (k_cc Y) pc = .ok (.iadd, 1)) (hz : x + y = z) (k : k_W Y sc G (pc + 1, ls, .int z :: st, h, nc, ns)) : k_W Y sc G (pc, ls, .int y :: .int x :: st, h, nc, ns) := by
  intro p l e s m args below meth c g cA A b ad0 n0 Q C E ad H locs la I hv
  subst hz
  exact lv_iadd C.1 C.2.1 d (k p l e s m args below meth c g cA A b ad0 n0 Q C E ad H locs la I hv)
theorem k_isub {x y z : Int32} (d : decode (k_cc Y) pc = .ok (.isub, 1)) (hz : x - y = z) (k : k_W Y sc G (pc + 1, ls, .int z :: st, h, nc, ns)) : k_W Y sc G (pc, ls, .int y :: .int x :: st, h, nc, ns) := by
  intro p l e s m args below meth c g cA A b ad0 n0 Q C E ad H locs la I hv
  subst hz
  exact lv_isub C.1 C.2.1 d (k p l e s m args below meth c g cA A b ad0 n0 Q C E ad H locs la I hv)
theorem k_imul {x y z : Int32} (d : decode (k_cc Y) pc = .ok (.imul, 1)) (hz : x * y = z) (k : k_W Y sc G (pc + 1, ls, .int z :: st, h, nc, ns)) : k_W Y sc G (pc, ls, .int y :: .int x :: st, h, nc, ns) := by
  intro p l e s m args below meth c g cA A b ad0 n0 Q C E ad H locs la I hv
  subst hz
  exact lv_imul C.1 C.2.1 d (k p l e s m args below meth c g cA A b ad0 n0 Q C E ad H locs la I hv)
theorem k_iand {x y z : Int32} (d : decode (k_cc Y) pc = .ok (.iand, 1)) (hz : x &&& y = z) (k : k_W Y sc G (pc + 1, ls, .int z :: st, h, nc, ns)) : k_W Y sc G (pc, ls, .int y :: .int x :: st, h, nc, ns) := by
  intro p l e s m args below meth c g cA A b ad0 n0 Q C E ad H locs la I hv
  subst hz
  exact lv_iand C.1 C.2.1 d (k p l e s m args below meth c g cA A b ad0 n0 Q C E ad H locs la I hv)
theorem k_iinc {j : Nat} {n : Int} {x z : Int32} (d : decode (k_cc Y) pc = .ok (.iinc j n, 3)) (hl : k_lk ls j = some (.int x)) (hz : x + k_ci n = z) (hj : Nat.blt j (k_nL Y) = true) (hc : ls.all (fun q => Nat.beq q.2.category 1) = true) (k : k_W Y sc G (pc + 3, k_up ls j (.int z), st, h, nc, ns)) : k_W Y sc G (pc, ls, st, h, nc, ns) := by
  intro p l e s m args below meth c g cA A b ad0 n0 Q C E ad H locs la I hv
  obtain ⟨t, ht⟩ := List.getElem?_of_mem (List.mem_map.mpr ⟨(j, .int x), k_lk_mem hl, rfl⟩ : (j, k_v ad (.int x)) ∈ ls.map (fun q => (q.1, k_v ad q.2)))
  exact lv_iinc (v := z) C.1 C.2.1 d hv ht (by rw [k_ci_eq]; exact hz) (k_blt hj) rfl (fun la hv => k p l e s m args below meth c g cA A b ad0 n0 Q C E ad H locs la I (k_up_sub hc hv))
theorem k_dup {v : Value} (d : decode (k_cc Y) pc = .ok (.dup, 1)) (hv1 : Nat.beq v.category 1 = true) (k : k_W Y sc G (pc + 1, ls, v :: v :: st, h, nc, ns)) : k_W Y sc G (pc, ls, v :: st, h, nc, ns) := by
  intro p l e s m args below meth c g cA A b ad0 n0 Q C E ad H locs la I hv
  exact lv_dup C.1 C.2.1 d (by rw [k_cat]; exact Nat.eq_of_beq_eq_true hv1) (k p l e s m args below meth c g cA A b ad0 n0 Q C E ad H locs la I hv)
theorem k_dup2 {v w : Value} (d : decode (k_cc Y) pc = .ok (.dup2, 1)) (hv1 : Nat.beq v.category 1 = true) (hw1 : Nat.beq w.category 1 = true) (k : k_W Y sc G (pc + 1, ls, v :: w :: v :: w :: st, h, nc, ns)) : k_W Y sc G (pc, ls, v :: w :: st, h, nc, ns) := by
  intro p l e s m args below meth c g cA A b ad0 n0 Q C E ad H locs la I hv
  exact lv_dup2_11 C.1 C.2.1 d (by rw [k_cat]; exact Nat.eq_of_beq_eq_true hv1) (by rw [k_cat]; exact Nat.eq_of_beq_eq_true hw1) (k p l e s m args below meth c g cA A b ad0 n0 Q C E ad H locs la I hv)
theorem k_goto {off : Int} {tg : Nat} (d : decode (k_cc Y) pc = .ok (.goto off, 3)) (ht : (pc : Int) + off = (tg : Int)) (k : k_W Y sc G (tg, ls, st, h, nc, ns)) : k_W Y sc G (pc, ls, st, h, nc, ns) := by
  intro p l e s m args below meth c g cA A b ad0 n0 Q C E ad H locs la I hv
  exact lv_goto C.1 C.2.1 d ht (k p l e s m args below meth c g cA A b ad0 n0 Q C E ad H locs la I hv)
theorem k_ifCond {cd : ClassFile.Cond} {off : Int} {tg : Nat} {x : Int32} (d : decode (k_cc Y) pc = .ok (.ifCond cd off, 3)) (ht : (pc : Int) + off = (tg : Int)) (k1 : k_cnd cd x 0 → k_W Y sc G (tg, ls, st, h, nc, ns)) (k2 : k_cnf cd x 0 → k_W Y sc G (pc + 3, ls, st, h, nc, ns)) : k_W Y sc G (pc, ls, .int x :: st, h, nc, ns) := by
  intro p l e s m args below meth c g cA A b ad0 n0 Q C E ad H locs la I hv
  cases cd with
  | eq => exact lv_if_eq C.1 C.2.1 d ht (fun q => k1 q p l e s m args below meth c g cA A b ad0 n0 Q C E ad H locs la I hv) (fun q => k2 q p l e s m args below meth c g cA A b ad0 n0 Q C E ad H locs la I hv)
  | ne => exact lv_if_ne C.1 C.2.1 d ht (fun q => k1 q p l e s m args below meth c g cA A b ad0 n0 Q C E ad H locs la I hv) (fun q => k2 q p l e s m args below meth c g cA A b ad0 n0 Q C E ad H locs la I hv)
  | lt => exact lv_if_lt C.1 C.2.1 d ht (fun q => k1 q p l e s m args below meth c g cA A b ad0 n0 Q C E ad H locs la I hv) (fun q => k2 q p l e s m args below meth c g cA A b ad0 n0 Q C E ad H locs la I hv)
  | ge => exact lv_if_ge C.1 C.2.1 d ht (fun q => k1 q p l e s m args below meth c g cA A b ad0 n0 Q C E ad H locs la I hv) (fun q => k2 q p l e s m args below meth c g cA A b ad0 n0 Q C E ad H locs la I hv)
  | gt => exact lv_if_gt C.1 C.2.1 d ht (fun q => k1 q p l e s m args below meth c g cA A b ad0 n0 Q C E ad H locs la I hv) (fun q => k2 q p l e s m args below meth c g cA A b ad0 n0 Q C E ad H locs la I hv)
  | le => exact lv_if_le C.1 C.2.1 d ht (fun q => k1 q p l e s m args below meth c g cA A b ad0 n0 Q C E ad H locs la I hv) (fun q => k2 q p l e s m args below meth c g cA A b ad0 n0 Q C E ad H locs la I hv)
theorem k_if_icmp {cd : ClassFile.Cond} {off : Int} {tg : Nat} {x y : Int32} (d : decode (k_cc Y) pc = .ok (.if_icmp cd off, 3)) (ht : (pc : Int) + off = (tg : Int)) (k1 : k_cnd cd x y → k_W Y sc G (tg, ls, st, h, nc, ns)) (k2 : k_cnf cd x y → k_W Y sc G (pc + 3, ls, st, h, nc, ns)) : k_W Y sc G (pc, ls, .int y :: .int x :: st, h, nc, ns) := by
  intro p l e s m args below meth c g cA A b ad0 n0 Q C E ad H locs la I hv
  cases cd with
  | eq => exact lv_icmp_eq C.1 C.2.1 d ht (fun q => k1 q p l e s m args below meth c g cA A b ad0 n0 Q C E ad H locs la I hv) (fun q => k2 q p l e s m args below meth c g cA A b ad0 n0 Q C E ad H locs la I hv)
  | ne => exact lv_icmp_ne C.1 C.2.1 d ht (fun q => k1 q p l e s m args below meth c g cA A b ad0 n0 Q C E ad H locs la I hv) (fun q => k2 q p l e s m args below meth c g cA A b ad0 n0 Q C E ad H locs la I hv)
  | lt => exact lv_icmp_lt C.1 C.2.1 d ht (fun q => k1 q p l e s m args below meth c g cA A b ad0 n0 Q C E ad H locs la I hv) (fun q => k2 q p l e s m args below meth c g cA A b ad0 n0 Q C E ad H locs la I hv)
  | ge => exact lv_icmp_ge C.1 C.2.1 d ht (fun q => k1 q p l e s m args below meth c g cA A b ad0 n0 Q C E ad H locs la I hv) (fun q => k2 q p l e s m args below meth c g cA A b ad0 n0 Q C E ad H locs la I hv)
  | gt => exact lv_icmp_gt C.1 C.2.1 d ht (fun q => k1 q p l e s m args below meth c g cA A b ad0 n0 Q C E ad H locs la I hv) (fun q => k2 q p l e s m args below meth c g cA A b ad0 n0 Q C E ad H locs la I hv)
  | le => exact lv_icmp_le C.1 C.2.1 d ht (fun q => k1 q p l e s m args below meth c g cA A b ad0 n0 Q C E ad H locs la I hv) (fun q => k2 q p l e s m args below meth c g cA A b ad0 n0 Q C E ad H locs la I hv)
end KR
end
section
theorem k_fl_ok {o n : Nat} {q : Nat × Nat} (h : k_lk (k_fl o) n = some q) : ∃ z, k_cl[q.1]? = some z ∧ q.2 < z.2.2 ∧ Cond.fieldLink (k_own o) n (z.2.1 q.2).1 (z.2.1 q.2).2.1 (z.2.1 q.2).2.2.1 ∈ k_T := by
  have hm : (n, q) ∈ k_fl o := k_lk_mem h
  have hall : (k_fl o).all (k_flc (k_own o)) = true := by
    match o with
    | 0 => exact k_fl0
    | 1 => exact k_fl1
    | 2 => exact k_fl2
    | 3 => exact k_fl3
    | _ + 4 => rfl
  have h1 : k_flc (k_own o) (n, q) = true := List.all_eq_true.mp hall _ hm
  unfold k_flc at h1
  split at h1
  · next z hz =>
    simp only [Bool.and_eq_true, decide_eq_true_eq] at h1
    exact ⟨z, hz, h1.1, h1.2⟩
  · cases h1
theorem k_cl_ok {ci : Nat} {z : vw_C} (h : k_cl[ci]? = some z) : ∀ w ∈ u_ws z.1 z.2.1 z.2.2, w ∈ k_T := fun w hw => by
  have h1 := List.all_eq_true.mp k_clw z (List.mem_of_getElem? h)
  have h2 := List.all_eq_true.mp h1 w hw
  simpa using h2
def k_tyo (ci : Nat) : Nat → FieldType := match ci with
  | 0 => tyX0
  | 1 => tyX1
  | 2 => tyX2
  | _ => tyX3
theorem k_ty_ok {ci : Nat} {z : vw_C} (h : k_cl[ci]? = some z) : ∀ k, k < z.2.2 → parseFieldDescriptor (z.2.1 k).2.2.1 = some (k_tyo ci k) := by
  match ci, h with
  | 0, h => cases h; exact tyX0_ok
  | 1, h => cases h; exact tyX1_ok
  | 2, h => cases h; exact tyX2_ok
  | 3, h => cases h; exact tyX3_ok
  | n + 4, h => simp [k_cl] at h
theorem k_nm_ok {ci : Nat} {z : vw_C} (h : k_cl[ci]? = some z) : ∀ a, a < z.2.2 → ∀ b, b < z.2.2 → a ≠ b → (z.2.1 a).2.1 ≠ (z.2.1 b).2.1 := by
  match ci, h with
  | 0, h => cases h; exact nmX0
  | 1, h => cases h; exact nmX1
  | 2, h => cases h; exact nmX2
  | 3, h => cases h; exact nmX3
  | n + 4, h => simp [k_cl] at h
theorem k_elem_mem {i : Nat} {l : List Nat} (h : k_elem i l = true) : i ∈ l := by
  induction l with
  | nil => cases h
  | cons j l ih =>
    unfold k_elem at h
    cases hb : Nat.beq j i with
    | true => rw [Nat.eq_of_beq_eq_true hb]; exact List.mem_cons_self
    | false => rw [hb] at h; exact List.mem_cons_of_mem _ (ih h)
theorem k_pfl_ok {ci k : Nat} {z : vw_C} (h : k_cl[ci]? = some z) (hp : k_pfl ci k = true) : (z.2.1 k).2.2.2 = false ∧ k_tyo ci k = .int := by
  match ci, h with
  | 0, h =>
    cases h
    have : k = 9 := Nat.eq_of_beq_eq_true hp
    subst this; exact ⟨rfl, rfl⟩
  | 1, h =>
    cases h
    have : k = 5 := Nat.eq_of_beq_eq_true hp
    subst this; exact ⟨rfl, rfl⟩
  | 2, h =>
    cases h
    have : k ∈ [6, 7] := k_elem_mem hp
    simp only [List.mem_cons, List.not_mem_nil, or_false] at this
    rcases this with rfl | rfl <;> exact ⟨rfl, rfl⟩
  | 3, h =>
    cases h
    have : k ∈ [0, 1, 2, 4, 9, 14] := k_elem_mem hp
    simp only [List.mem_cons, List.not_mem_nil, or_false] at this
    rcases this with rfl | rfl | rfl | rfl | rfl | rfl <;> exact ⟨rfl, rfl⟩
  | n + 4, h => simp [k_cl] at h
theorem k_set_len {α : Type} (h : List α) (i : Nat) (x : α) : (k_set h i x).length = h.length := by rw [k_set_eq]; simp
theorem k_map_set {ad : Nat → Nat} (fs : List Value) (k : Nat) (v : Value) : (k_set fs k v).map (k_v ad) = (fs.map (k_v ad)).set k (k_v ad v) := by rw [k_set_eq, List.map_set]
theorem k_map_get {ad : Nat → Nat} {fs : List Value} {k : Nat} {v : Value} (h : k_get fs k = some v) : (fs.map (k_v ad))[k]? = some (k_v ad v) := by
  rw [k_get_eq] at h
  simp [h]
section KM
variable {Y : k_Y} {sc : k_Sc} {G : k_G} {pc : Nat} {ls : List (Nat × Value)} {st : List Value} {h : List k_O} {nc ns : Nat}
theorem k_getfield {n a : Nat} {q : Nat × Nat} {fs : List Value} {v : Value} (d : decode (k_cc Y) pc = .ok (.getfield n, 3)) (hq : k_lk (k_fl Y.1) n = some q) (ho : k_get h a = some (.inr (q.1, fs))) (hf : k_get fs q.2 = some v) (k : k_W Y sc G (pc + 3, ls, v :: st, h, nc, ns)) : k_W Y sc G (pc, ls, .ref a :: st, h, nc, ns) := by
  intro p l e s m args below meth c g cA A b ad0 n0 Q C E ad H locs la I hv
  obtain ⟨z, hz, hk, hw⟩ := k_fl_ok hq
  exact va_get (own := k_own Y.1) (ref := (z.2.1 q.2).1) (C := z.1) (T := z.2.1) (N := z.2.2) (ci := q.1) C.1 C.2.1 C.2.2.2.2.1 (k_cl_ok hz) C.2.2.2.1 C.2.2.2.2.2.1 I.1 a (k_w_get ho) hz q.2 hk (C.2.2.2.2.1 _ hw) (fun _ h9 => h9) (k_map_get hf) d (k p l e s m args below meth c g cA A b ad0 n0 Q C E ad H locs la I hv)
theorem k_putfield {n a : Nat} {q : Nat × Nat} {fs : List Value} {x : Int32} (d : decode (k_cc Y) pc = .ok (.putfield n, 3)) (hq : k_lk (k_fl Y.1) n = some q) (ho : k_get h a = some (.inr (q.1, fs))) (hp : k_pfl q.1 q.2 = true) (hf : q.2 < fs.length) (k : k_W Y sc G (pc + 3, ls, st, k_set h a (.inr (q.1, k_set fs q.2 (.int x))), nc, ns)) : k_W Y sc G (pc, ls, .int x :: .ref a :: st, h, nc, ns) := by
  intro p l e s m args below meth c g cA A b ad0 n0 Q C E ad H locs la I hv
  obtain ⟨z, hz, hk, hw⟩ := k_fl_ok hq
  obtain ⟨f1, f2⟩ := k_pfl_ok hz hp
  refine va_put (own := k_own Y.1) (ref := (z.2.1 q.2).1) (C := z.1) (T := z.2.1) (N := z.2.2) (ci := q.1) (ty := .int) (v := .int x) C.1 C.2.1 C.2.2.2.2.1 (k_cl_ok hz) (k_tyo q.1) (k_ty_ok hz) (k_nm_ok hz) C.2.2.2.1 C.2.2.2.2.2.1 I.1 I.2.1 I.2.2.1 a (k_w_get ho) hz q.2 hk (C.2.2.2.2.1 _ hw) (fun _ h9 => h9) f1 (by rw [k_ty_ok hz _ hk, f2]) rfl rfl (by simpa using hf) d (fun H1 locs1 hP hD hS => ?_)
  have e1 : ((ad a, .inr (q.1, (fs.map (k_v ad)).set q.2 (.int x))) : Nat × va_E) = (ad a, k_o cA ad (.inr (q.1, k_set fs q.2 (.int x)))) := by
    simp only [k_o, k_map_set]; rfl
  have e2 : (k_w cA ad h).set a (ad a, .inr (q.1, (fs.map (k_v ad)).set q.2 (.int x))) = k_w cA ad (k_set h a (.inr (q.1, k_set fs q.2 (.int x)))) := by
    rw [e1]; exact k_w_set
  rw [e2] at hP hD
  exact k p l e s m args below meth c g cA A b ad0 n0 Q C E ad H1 locs1 la ⟨hP, hD, hS, I.2.2.2.1, by rw [k_set_len]; exact I.2.2.2.2.1, I.2.2.2.2.2⟩ hv
theorem k_iald {a n j : Nat} {f : Nat → Int32} {t : Nat} (ht : t = 0) (d : decode (k_cc Y) pc = .ok (.iaload, 1)) (ho : k_get h a = some (.inl (t, n, .inl f))) (hn : n < 100000) (hj : j < n) (k : k_W Y sc G (pc + 1, ls, .int (f j) :: st, h, nc, ns)) : k_W Y sc G (pc, ls, .int (nI j) :: .ref a :: st, h, nc, ns) := by
  intro p l e s m args below meth c g cA A b ad0 n0 Q C E ad H locs la I hv
  subst ht
  refine va_iald C.1 C.2.1 C.2.2.2.2.2.1 I.1 a 0 (k_w_get ho) rfl (vp_in_nI hj (by omega)) d ?_
  rw [nI_clamp (by omega)]
  exact k p l e s m args below meth c g cA A b ad0 n0 Q C E ad H locs la I hv
theorem k_zald {a n j : Nat} {f : Nat → Int32} {t : Nat} (ht : t = 1) (d : decode (k_cc Y) pc = .ok (.baload, 1)) (ho : k_get h a = some (.inl (t, n, .inl f))) (hn : n < 100000) (hj : j < n) (k : k_W Y sc G (pc + 1, ls, .int (f j) :: st, h, nc, ns)) : k_W Y sc G (pc, ls, .int (nI j) :: .ref a :: st, h, nc, ns) := by
  intro p l e s m args below meth c g cA A b ad0 n0 Q C E ad H locs la I hv
  subst ht
  refine va_zald C.1 C.2.1 C.2.2.2.2.2.1 I.1 a 1 (k_w_get ho) rfl (vp_in_nI hj (by omega)) d ?_
  rw [nI_clamp (by omega)]
  exact k p l e s m args below meth c g cA A b ad0 n0 Q C E ad H locs la I hv
theorem k_lald {a n j : Nat} {f : Nat → Int64} {t : Nat} (ht : t = 2) (d : decode (k_cc Y) pc = .ok (.laload, 1)) (ho : k_get h a = some (.inl (t, n, .inr (.inl f)))) (hn : n < 100000) (hj : j < n) (k : k_W Y sc G (pc + 1, ls, .long (f j) :: st, h, nc, ns)) : k_W Y sc G (pc, ls, .int (nI j) :: .ref a :: st, h, nc, ns) := by
  intro p l e s m args below meth c g cA A b ad0 n0 Q C E ad H locs la I hv
  subst ht
  refine va_lald C.1 C.2.1 C.2.2.2.2.2.1 I.1 a 2 (k_w_get ho) rfl (vp_in_nI hj (by omega)) d ?_
  rw [nI_clamp (by omega)]
  exact k p l e s m args below meth c g cA A b ad0 n0 Q C E ad H locs la I hv
theorem k_iast {a n j : Nat} {f : Nat → Int32} {x : Int32} {t : Nat} (ht : t = 0) (d : decode (k_cc Y) pc = .ok (.iastore, 1)) (ho : k_get h a = some (.inl (t, n, .inl f))) (hn : n < 100000) (hj : j < n) (k : k_W Y sc G (pc + 1, ls, st, k_set h a (.inl (t, n, .inl (upd f j x))), nc, ns)) : k_W Y sc G (pc, ls, .int x :: .int (nI j) :: .ref a :: st, h, nc, ns) := by
  intro p l e s m args below meth c g cA A b ad0 n0 Q C E ad H locs la I hv
  subst ht
  refine va_iast C.1 C.2.1 C.2.2.2.2.2.1 I.1 I.2.1 I.2.2.1 a 0 (k_w_get ho) rfl (vp_in_nI hj (by omega)) d (fun H1 locs1 hP hD hS => ?_)
  rw [nI_clamp (by omega)] at hP hD
  have e2 : (k_w cA ad h).set a (ad a, .inl (cA 0, n, .inl (upd f j x))) = k_w cA ad (k_set h a (.inl (0, n, .inl (upd f j x)))) := k_w_set (o := .inl (0, n, .inl (upd f j x)))
  rw [e2] at hP hD
  exact k p l e s m args below meth c g cA A b ad0 n0 Q C E ad H1 locs1 la ⟨hP, hD, hS, I.2.2.2.1, by rw [k_set_len]; exact I.2.2.2.2.1, I.2.2.2.2.2⟩ hv
theorem k_zast {a n j : Nat} {f : Nat → Int32} {x : Int32} {t : Nat} (ht : t = 1) (d : decode (k_cc Y) pc = .ok (.bastore, 1)) (ho : k_get h a = some (.inl (t, n, .inl f))) (hn : n < 100000) (hj : j < n) (hx : x = 0 ∨ x = 1) (k : k_W Y sc G (pc + 1, ls, st, k_set h a (.inl (t, n, .inl (upd f j x))), nc, ns)) : k_W Y sc G (pc, ls, .int x :: .int (nI j) :: .ref a :: st, h, nc, ns) := by
  intro p l e s m args below meth c g cA A b ad0 n0 Q C E ad H locs la I hv
  subst ht
  refine va_zast C.1 C.2.1 C.2.2.2.2.2.1 I.1 I.2.1 I.2.2.1 a 1 (k_w_get ho) rfl (vp_in_nI hj (by omega)) d (fun H1 locs1 hP hD hS => ?_)
  have hx2 : vp_nar .boolean x = x := by rcases hx with rfl | rfl <;> rfl
  rw [nI_clamp (by omega), hx2] at hP hD
  have e2 : (k_w cA ad h).set a (ad a, .inl (cA 1, n, .inl (upd f j x))) = k_w cA ad (k_set h a (.inl (1, n, .inl (upd f j x)))) := k_w_set (o := .inl (1, n, .inl (upd f j x)))
  rw [e2] at hP hD
  exact k p l e s m args below meth c g cA A b ad0 n0 Q C E ad H1 locs1 la ⟨hP, hD, hS, I.2.2.2.1, by rw [k_set_len]; exact I.2.2.2.2.1, I.2.2.2.2.2⟩ hv
theorem k_last {a n j : Nat} {f : Nat → Int64} {x : Int64} {t : Nat} (ht : t = 2) (d : decode (k_cc Y) pc = .ok (.lastore, 1)) (ho : k_get h a = some (.inl (t, n, .inr (.inl f)))) (hn : n < 100000) (hj : j < n) (k : k_W Y sc G (pc + 1, ls, st, k_set h a (.inl (t, n, .inr (.inl (vp_updL f j x)))), nc, ns)) : k_W Y sc G (pc, ls, .long x :: .int (nI j) :: .ref a :: st, h, nc, ns) := by
  intro p l e s m args below meth c g cA A b ad0 n0 Q C E ad H locs la I hv
  subst ht
  refine va_last C.1 C.2.1 C.2.2.2.2.2.1 I.1 I.2.1 I.2.2.1 a 2 (k_w_get ho) rfl (vp_in_nI hj (by omega)) d (fun H1 locs1 hP hD hS => ?_)
  rw [nI_clamp (by omega)] at hP hD
  have e2 : (k_w cA ad h).set a (ad a, .inl (cA 2, n, .inr (.inl (vp_updL f j x)))) = k_w cA ad (k_set h a (.inl (2, n, .inr (.inl (vp_updL f j x))))) := k_w_set (o := .inl (2, n, .inr (.inl (vp_updL f j x))))
  rw [e2] at hP hD
  exact k p l e s m args below meth c g cA A b ad0 n0 Q C E ad H1 locs1 la ⟨hP, hD, hS, I.2.2.2.1, by rw [k_set_len]; exact I.2.2.2.2.1, I.2.2.2.2.2⟩ hv
theorem k_alen {a n : Nat} {f : Nat → Int32} {t : Nat} (ht : t = 0) (d : decode (k_cc Y) pc = .ok (.arraylength, 1)) (ho : k_get h a = some (.inl (t, n, .inl f))) (k : k_W Y sc G (pc + 1, ls, .int (nI n) :: st, h, nc, ns)) : k_W Y sc G (pc, ls, .ref a :: st, h, nc, ns) := by
  intro p l e s m args below meth c g cA A b ad0 n0 Q C E ad H locs la I hv
  subst ht
  exact va_alen C.1 C.2.1 C.2.2.2.2.2.1 I.1 a 0 (k_w_get ho) (ty := .int) rfl rfl d (k p l e s m args below meth c g cA A b ad0 n0 Q C E ad H locs la I hv)
theorem k_slen {L : Nat} {xs : Nat → Int32} (hs : sc = some (L, xs)) (d : decode (k_cc Y) pc = .ok (.arraylength, 1)) (k : k_W Y sc G (pc + 1, ls, .int (nI L) :: st, h, nc, ns)) : k_W Y sc G (pc, ls, .ref 1000000 :: st, h, nc, ns) := by
  intro p l e s m args below meth c g cA A b ad0 n0 Q C E ad H locs la I hv
  obtain ⟨x1, x2, x3⟩ := C.2.2.2.2.2.2.2.2.2.2.2.2 L xs hs
  have hb : ad 1000000 = b := I.2.2.2.2.2.1 (by rw [hs]; exact Option.some_ne_none _)
  show W p l e (k_R Y G) s m args below meth c H locs nc ns Q (F0 m pc la (.ref (ad 1000000) :: st.map (k_v ad)))
  rw [hb]
  exact va_slen C.1 C.2.1 x1 x2 x3 I.2.2.1 d (k p l e s m args below meth c g cA A b ad0 n0 Q C E ad H locs la I hv)
theorem k_sld {L j : Nat} {xs : Nat → Int32} (hs : sc = some (L, xs)) (d : decode (k_cc Y) pc = .ok (.iaload, 1)) (hj : j < L) (hj2 : j < 100000) (k : k_W Y sc G (pc + 1, ls, .int (xs j) :: st, h, nc, ns)) : k_W Y sc G (pc, ls, .int (nI j) :: .ref 1000000 :: st, h, nc, ns) := by
  intro p l e s m args below meth c g cA A b ad0 n0 Q C E ad H locs la I hv
  obtain ⟨x1, x2, x3⟩ := C.2.2.2.2.2.2.2.2.2.2.2.2 L xs hs
  have hb : ad 1000000 = b := I.2.2.2.2.2.1 (by rw [hs]; exact Option.some_ne_none _)
  show W p l e (k_R Y G) s m args below meth c H locs nc ns Q (F0 m pc la (.int (nI j) :: .ref (ad 1000000) :: st.map (k_v ad)))
  rw [hb]
  refine va_sld C.1 C.2.1 x1 x2 x3 I.2.2.1 (vp_in_iff.mpr ⟨by rw [nI_toInt (by omega)]; omega, by rw [nI_toInt (by omega)]; omega⟩) d ?_
  rw [nI_clamp (by omega)]
  exact k p l e s m args below meth c g cA A b ad0 n0 Q C E ad H locs la I hv
end KM
end
section
def k_dck (cc : ByteArray) (q : Nat × Instr × Nat × Nat) : Bool := decide (decode cc q.1 = .ok (q.2.1, k_len q.2.1)) && Nat.beq q.2.2.1 (q.1 + k_len q.2.1) && k_tgt q.1 q.2.1 q.2.2.2
set_option maxHeartbeats 4000000 in
theorem k_ex_ok {Y : k_Y} {sc : k_Sc} {G : k_G} {i : Instr} {nx tg : Nat} {S : k_S} {K : k_S → Prop} (d : decode (k_cc Y) S.1 = .ok (i, k_len i)) (hn : nx = S.1 + k_len i) (ht : k_tgt S.1 i tg = true) (hK : ∀ S', K S' → k_W Y sc G S') (hx : k_ex Y.1 (k_nL Y) sc i nx tg S K) : k_W Y sc G S := by
  obtain ⟨pc, ls, st, h, nc, ns⟩ := S
  subst hn
  cases i with
  | iload_n j =>
    unfold k_ex at hx
    dsimp only at hx
    split at hx
    · next x hl => exact k_iload_n d hl (hK _ hx)
    · exact hx.elim
  | iload j =>
    unfold k_ex at hx
    dsimp only at hx
    split at hx
    · next x hl => exact k_iload d hl (hK _ hx)
    · exact hx.elim
  | aload_n j =>
    unfold k_ex at hx
    dsimp only at hx
    split at hx
    · next x hl => exact k_aload_n d hl (hK _ hx)
    · exact hx.elim
  | aload j =>
    unfold k_ex at hx
    dsimp only at hx
    split at hx
    · next x hl => exact k_aload d hl (hK _ hx)
    · exact hx.elim
  | istore_n j =>
    unfold k_ex at hx
    dsimp only at hx
    split at hx
    · next x st2 =>
      obtain ⟨h1, h2⟩ := k_cond hx
      obtain ⟨h3, h4⟩ := k_and2 h1
      exact k_istore_n d h3 h4 (hK _ h2)
    · exact hx.elim
  | istore j =>
    unfold k_ex at hx
    dsimp only at hx
    split at hx
    · next x st2 =>
      obtain ⟨h1, h2⟩ := k_cond hx
      obtain ⟨h3, h4⟩ := k_and2 h1
      exact k_istore d h3 h4 (hK _ h2)
    · exact hx.elim
  | astore_n j =>
    unfold k_ex at hx
    dsimp only at hx
    split at hx
    · next x st2 =>
      obtain ⟨h1, h2⟩ := k_cond hx
      obtain ⟨h3, h4⟩ := k_and2 h1
      exact k_astore_n d h3 h4 (hK _ h2)
    · exact hx.elim
  | astore j =>
    unfold k_ex at hx
    dsimp only at hx
    split at hx
    · next x st2 =>
      obtain ⟨h1, h2⟩ := k_cond hx
      obtain ⟨h3, h4⟩ := k_and2 h1
      exact k_astore d h3 h4 (hK _ h2)
    · exact hx.elim
  | iconst n => exact k_iconst d (hK _ hx)
  | bipush n =>
    unfold k_ex at hx
    dsimp only at hx
    split at hx
    · next q =>
      obtain ⟨h1, h2⟩ := k_cond hx
      exact k_bipush d h1 (hK _ h2)
    · exact hx.elim
  | sipush n =>
    unfold k_ex at hx
    dsimp only at hx
    split at hx
    · next q =>
      obtain ⟨h1, h2⟩ := k_cond hx
      exact k_sipush d h1 (hK _ h2)
    · exact hx.elim
  | lconst n => exact k_lconst d (hK _ hx)
  | i2l =>
    unfold k_ex at hx
    dsimp only at hx
    split at hx
    · exact k_i2l d (hK _ hx)
    · exact hx.elim
  | lcmp =>
    unfold k_ex at hx
    dsimp only at hx
    split at hx
    · exact k_lcmp d (hK _ hx)
    · exact hx.elim
  | iinc j n =>
    unfold k_ex at hx
    dsimp only at hx
    split at hx
    · next x hl =>
      obtain ⟨h1, z, hz, h2⟩ := k_cond hx
      obtain ⟨h3, h4⟩ := k_and2 h1
      exact k_iinc d hl hz h3 h4 (hK _ h2)
    · exact hx.elim
  | iadd =>
    unfold k_ex at hx
    dsimp only at hx
    split at hx
    · obtain ⟨z, hz, h2⟩ := hx
      exact k_iadd d hz (hK _ h2)
    · exact hx.elim
  | isub =>
    unfold k_ex at hx
    dsimp only at hx
    split at hx
    · obtain ⟨z, hz, h2⟩ := hx
      exact k_isub d hz (hK _ h2)
    · exact hx.elim
  | imul =>
    unfold k_ex at hx
    dsimp only at hx
    split at hx
    · obtain ⟨z, hz, h2⟩ := hx
      exact k_imul d hz (hK _ h2)
    · exact hx.elim
  | iand =>
    unfold k_ex at hx
    dsimp only at hx
    split at hx
    · obtain ⟨z, hz, h2⟩ := hx
      exact k_iand d hz (hK _ h2)
    · exact hx.elim
  | dup =>
    unfold k_ex at hx
    dsimp only at hx
    split at hx
    · obtain ⟨h1, h2⟩ := k_cond hx
      exact k_dup d h1 (hK _ h2)
    · exact hx.elim
  | dup2 =>
    unfold k_ex at hx
    dsimp only at hx
    split at hx
    · obtain ⟨h1, h2⟩ := k_cond hx
      obtain ⟨h3, h4⟩ := k_and2 h1
      exact k_dup2 d h3 h4 (hK _ h2)
    · exact hx.elim
  | ifCond c off =>
    have ht2 : (pc : Int) + off = (tg : Int) := by simpa [k_tgt] using ht
    unfold k_ex at hx
    dsimp only at hx
    split at hx
    · exact k_ifCond d ht2 (fun q => hK _ (hx.1 q)) (fun q => hK _ (hx.2 q))
    · exact hx.elim
  | if_icmp c off =>
    have ht2 : (pc : Int) + off = (tg : Int) := by simpa [k_tgt] using ht
    unfold k_ex at hx
    dsimp only at hx
    split at hx
    · exact k_if_icmp d ht2 (fun q => hK _ (hx.1 q)) (fun q => hK _ (hx.2 q))
    · exact hx.elim
  | goto off =>
    have ht2 : (pc : Int) + off = (tg : Int) := by simpa [k_tgt] using ht
    exact k_goto d ht2 (hK _ hx)
  | getfield n =>
    unfold k_ex at hx
    dsimp only at hx
    split at hx
    · next a st2 =>
      split at hx
      · next q hq =>
        split at hx
        · next z hz =>
          obtain ⟨h1, h2⟩ := k_cond hx
          split at h2
          · next v hv =>
            have e1 : z.1 = q.1 := Nat.eq_of_beq_eq_true h1
            obtain ⟨z1, z2⟩ := z
            dsimp only at e1
            subst e1
            exact k_getfield d hq hz hv (hK _ h2)
          · exact h2.elim
        · exact hx.elim
      · exact hx.elim
    · exact hx.elim
  | putfield n =>
    unfold k_ex at hx
    dsimp only at hx
    split at hx
    · next x a st2 =>
      split at hx
      · next q hq =>
        split at hx
        · next z hz =>
          obtain ⟨h1, h2⟩ := k_cond hx
          obtain ⟨h3, h5⟩ := k_and2 h1
          obtain ⟨h3, h4⟩ := k_and2 h3
          have e1 : z.1 = q.1 := Nat.eq_of_beq_eq_true h3
          obtain ⟨z1, z2⟩ := z
          dsimp only at e1
          subst e1
          exact k_putfield d hq hz h4 (k_blt h5) (hK _ h2)
        · exact hx.elim
      · exact hx.elim
    · exact hx.elim
  | iaload =>
    unfold k_ex at hx
    dsimp only at hx
    split at hx
    · next i a st2 =>
      split at hx
      · next n f hz =>
        obtain ⟨h1, j, rfl, h3, h4⟩ := k_cond hx
        exact k_iald rfl d hz (k_blt h1) h3 (hK _ h4)
      · next hz =>
        obtain ⟨h1, h2⟩ := k_cond hx
        have e1 : a = 1000000 := Nat.eq_of_beq_eq_true h1
        subst e1
        split at h2
        · next q =>
          obtain ⟨j, rfl, h3, h5, h4⟩ := h2
          exact k_sld rfl d h3 h5 (hK _ h4)
        · exact h2.elim
      · exact hx.elim
    · exact hx.elim
  | baload =>
    unfold k_ex at hx
    dsimp only at hx
    split at hx
    · next i a st2 =>
      split at hx
      · next n f hz =>
        obtain ⟨h1, j, rfl, h3, h4⟩ := k_cond hx
        exact k_zald rfl d hz (k_blt h1) h3 (hK _ h4)
      · exact hx.elim
    · exact hx.elim
  | laload =>
    unfold k_ex at hx
    dsimp only at hx
    split at hx
    · next i a st2 =>
      split at hx
      · next n f hz =>
        obtain ⟨h1, j, rfl, h3, h4⟩ := k_cond hx
        exact k_lald rfl d hz (k_blt h1) h3 (hK _ h4)
      · exact hx.elim
    · exact hx.elim
  | iastore =>
    unfold k_ex at hx
    dsimp only at hx
    split at hx
    · next x i a st2 =>
      split at hx
      · next n f hz =>
        obtain ⟨h1, j, rfl, h3, h4⟩ := k_cond hx
        exact k_iast rfl d hz (k_blt h1) h3 (hK _ h4)
      · exact hx.elim
    · exact hx.elim
  | bastore =>
    unfold k_ex at hx
    dsimp only at hx
    split at hx
    · next x i a st2 =>
      split at hx
      · next n f hz =>
        obtain ⟨h1, h2, j, rfl, h3, h4⟩ := k_cond hx
        exact k_zast rfl d hz (k_blt h1) h3 h2 (hK _ h4)
      · exact hx.elim
    · exact hx.elim
  | lastore =>
    unfold k_ex at hx
    dsimp only at hx
    split at hx
    · next x i a st2 =>
      split at hx
      · next n f hz =>
        obtain ⟨h1, j, rfl, h3, h4⟩ := k_cond hx
        exact k_last rfl d hz (k_blt h1) h3 (hK _ h4)
      · exact hx.elim
    · exact hx.elim
  | arraylength =>
    unfold k_ex at hx
    dsimp only at hx
    split at hx
    · next a st2 =>
      split at hx
      · next n f hz => exact k_alen rfl d hz (hK _ hx)
      · next hz =>
        obtain ⟨h1, h2⟩ := k_cond hx
        have e1 : a = 1000000 := Nat.eq_of_beq_eq_true h1
        subst e1
        split at h2
        · next q => exact k_slen rfl d (hK _ h2)
        · exact h2.elim
      · exact hx.elim
    · exact hx.elim
  | _ => exact False.elim hx
theorem k_run_ok {Y : k_Y} {sc : k_Sc} {G : k_G} {blk : List (Nat × Instr × Nat × Nat)} (hb : blk.all (k_dck (k_cc Y)) = true) (stops : List Nat) {K : k_S → Prop} (hK : ∀ S', K S' → k_W Y sc G S') : ∀ (f : Nat) (S : k_S), k_run Y.1 (k_nL Y) sc blk stops K f S → k_W Y sc G S := by
  intro f
  induction f with
  | zero => intro S h; exact hK S h
  | succ f ih =>
    intro S h
    unfold k_run at h
    split at h
    · exact hK S h
    · next q hq =>
      have h1 := List.all_eq_true.mp hb _ (k_lk_mem hq)
      unfold k_dck at h1
      obtain ⟨h2, h3⟩ := k_and2 h1
      obtain ⟨h4, h5⟩ := k_and2 h2
      refine k_ex_ok (of_decide_eq_true h4) (Nat.eq_of_beq_eq_true h5) h3 (K := fun S' => cond (k_elem S'.1 stops) (K S') (k_run Y.1 (k_nL Y) sc blk stops K f S')) (fun S' h' => ?_) h
      cases hc : k_elem S'.1 stops with
      | true => rw [hc] at h'; exact hK S' h'
      | false => rw [hc] at h'; exact ih S' h'
theorem k_go {Y : k_Y} {sc : k_Sc} {G : k_G} {S : k_S} (f : Nat) {blk : List (Nat × Instr × Nat × Nat)} (stops : List Nat) (hb : blk.all (k_dck (k_cc Y)) = true) (h : ∀ K : k_S → Prop, (∀ S', k_W Y sc G S' → K S') → k_run Y.1 (k_nL Y) sc blk stops K f S) : k_W Y sc G S :=
  k_run_ok hb stops (fun _ h' => h') f S (h (k_W Y sc G) (fun _ h' => h'))
end
section
def k_ws (Y : k_Y) : List Cond := (match k_hh Y with | [] => Cond.code (k_nm Y) (k_cc Y) (k_nL Y) (k_rt Y) | q :: hh => Cond.codeWith (k_nm Y) (k_cc Y) (k_nL Y) (k_rt Y) (q :: hh)) :: k_T
def k_B (g : va_G) (cA : Nat → ClassId) (ad : Nat → Nat) (A : Nat → Prop) (h : List k_O) (t : State) : Prop := va_P g k_cl (k_w cA ad h) t.heap ∧ va_K g k_cl (k_tys cA) t ∧ va_D A (k_w cA ad h)
def k_Qc (g : va_G) (cA : Nat → ClassId) (ad0 : Nat → Nat) (n0 : Nat) (A : Nat → Prop) (out : Option Value ⊕ String) (h : List k_O) : Array Value → State → Outcome → State → Prop := fun _ st o t =>
  (∃ (ad : Nat → Nat) (v : Option Value), (∀ i, i < n0 → ad i = ad0 i) ∧ n0 ≤ h.length ∧ ad 1000000 = ad0 1000000 ∧ out = .inl v ∧ o = .returned (v.map (k_v ad)) ∧ k_B g cA ad A h t) ∧ va_F A st t
def k_XC (g : va_G) (cA : Nat → ClassId) (ad0 : Nat → Nat) (n0 : Nat) (A : Nat → Prop) (out : Option Value ⊕ String) (h : List k_O) : String → State → State → Prop := fun E st t =>
  (∃ (ad : Nat → Nat), (∀ i, i < n0 → ad i = ad0 i) ∧ n0 ≤ h.length ∧ ad 1000000 = ad0 1000000 ∧ out = .inr E ∧ k_B g cA ad A h t) ∧ va_F A st t
def k_Pre (g : va_G) (cA : Nat → ClassId) (ad : Nat → Nat) (sz : Nat) (h : List k_O) (U : State) : Prop :=
  U.heap.size = sz ∧ va_P g k_cl (k_w cA ad h) U.heap ∧ va_K g k_cl (k_tys cA) U ∧ va_D (fun _ => True) (k_w cA ad h) ∧ k_Fix (va_A (k_w cA ad h) sz) U U.heap
def k_Met (Y : k_Y) (as : List Value) (h : List k_O) (G : k_G) : Prop := ∀ (l : Launch), l.stackTraces = false → ∀ (g : va_G) (cA : Nat → ClassId) (ad : Nat → Nat) (sz : Nat),
  vx_Met l (k_nm Y) (k_ws Y) (k_R Y G) (va_Pc (as.map (k_v ad)) (k_Pre g cA ad sz h)) (k_Qc g cA ad h.length (va_A (k_w cA ad h) sz) G.1 G.2.1) (k_XC g cA ad h.length (va_A (k_w cA ad h) sz) G.1 G.2.1) G.2.2.1 G.2.2.2 (va_A (k_w cA ad h) sz)
theorem k_Fix.warm {A B : Nat → Prop} {u U : State} {H H1 : Heap} (hW : u.WarmedH U.vm) (hq : ∀ a : Nat, a < H.size → ¬ A a → H1[a]? = H[a]?) (hAB : ∀ q, B q → A q) (h : k_Fix A u H) : k_Fix B U H1 := by
  obtain ⟨h1, h2, h3, h4⟩ := h
  refine ⟨((h1.kept hq).narrow hAB).moved hW.alike, ((h2.kept hq).narrow hAB).moved hW.alike, ⟨fun x hx => va_Nw.warmD hW (h3.1 x hx), fun E hE F hF => ⟨fun hs => va_Nw.warmC hW ((h3.2 E hE F hF).1 hs), fun hs => ((h3.2 E hE F hF).2 hs).moved hW.alike⟩⟩, fun q hq => ?_⟩
  obtain ⟨sa, hsa⟩ := h4 q hq
  exact ⟨sa, vk_R.warm hW hsa⟩
theorem k_Fix.same {A : Nat → Prop} {u U : State} {H : Heap} (hv : U.vm = u.vm) (h : k_Fix A u H) : k_Fix A U H := by
  obtain ⟨h1, h2, h3, h4⟩ := h
  have hal : u.vm.Alike U.vm := by rw [hv]; exact Vm.Alike.refl _
  refine ⟨h1.moved hal, h2.moved hal, ⟨fun x hx => va_Nw.same rfl hv.symm (h3.1 x hx), fun E hE F hF => ⟨fun hs => va_Nw.same rfl hv.symm ((h3.2 E hE F hF).1 hs), fun hs => ((h3.2 E hE F hF).2 hs).moved hal⟩⟩, fun q hq => ?_⟩
  obtain ⟨sa, hsa⟩ := h4 q hq
  exact ⟨sa, vk_R.same hv hsa⟩
theorem k_blind {g : va_G} {cA : Nat → ClassId} {ad : Nat → Nat} {sz : Nat} {h : List k_O} {vs : List Value} : FrameBlind (va_Pc vs (k_Pre g cA ad sz h)) := by
  intro a U fr mk q
  obtain ⟨q0, q1, qP, qK, qD, qF⟩ := q
  exact ⟨q0, q1, qP, va_K.moved (u := U) (U := U.calling fr mk a) (Vm.Alike.refl U.vm) qK, qD, k_Fix.same (u := U) (U := U.calling fr mk a) rfl qF⟩
theorem k_good {ws : List Cond} (h : ∀ w ∈ ws, w ∈ k_T) : GoodIn k_T ws := fun w hw => ⟨h w hw, good_of_word (List.mem_filter.mp (h w hw)).2⟩
theorem k_args (ad : Nat → Nat) (as : List Value) : ∀ i, lv_args i (as.map (k_v ad)) = (lv_args i as).map (fun q => (q.1, k_v ad q.2)) := by
  induction as with
  | nil => intro i; rfl
  | cons a as ih => intro i; simp only [List.map_cons, lv_args, k_cat, ih]
theorem k_sl (ad : Nat → Nat) (as : List Value) : (lg_sl (as.map (k_v ad))).length = (lg_sl as).length := by
  induction as with
  | nil => rfl
  | cons a as ih =>
    have h1 : ∀ (v : Value) (vs : List Value), (lg_sl (v :: vs)).length = (if v.category = 2 then 2 else 1) + (lg_sl vs).length := by
      intro v vs
      simp only [lg_sl, List.flatMap_cons, List.length_append]
      split <;> rfl
    rw [List.map_cons, h1, h1, k_cat, ih]
theorem k_sum (ad : Nat → Nat) (st : List Value) : ((st.map (k_v ad)).map fun v => v.category).sum = (st.map fun v => v.category).sum := by
  rw [List.map_map]
  congr 1
  apply List.map_congr_left
  intro v _
  exact k_cat ad v
end
section
theorem k_inA {g : va_G} {cA : Nat → ClassId} {ad : Nat → Nat} {A : Nat → Prop} {H0 H : Heap} {locs : List Loc} {h : List k_O} (hD : va_D A (k_w cA ad h)) (hS : va_S A H0 H locs) (hA : ∀ q, H0.size ≤ q → A q) : ∀ q, va_A (k_w cA ad h) H.size q → A q := by
  intro q hq
  rcases hq with ⟨k, e, hk⟩ | hq
  · exact hD.2 k (q, e) hk
  · exact hA q (Nat.le_trans hS.1 hq)
set_option maxHeartbeats 1000000 in
theorem k_intro {Y : k_Y} {as : List Value} {h : List k_O} {G : k_G} (hy : plainName (k_nm Y).cls = true) (ho : (k_nm Y).cls = k_own Y.1) (hh : k_hh Y = []) (hn : Nat.ble (lg_sl as).length (k_nL Y) = true) (k : k_W Y none G (0, lv_args 0 as, [], h, 0, 0)) : k_Met Y as h G := by
  intro l hl g cA ad sz
  have hws : k_ws Y = Cond.code (k_nm Y) (k_cc Y) (k_nL Y) (k_rt Y) :: k_T := by unfold k_ws; rw [hh]
  refine vx_ofW (cc := k_cc Y) (maxL := k_nL Y) (ret := k_rt Y) hy hws ?_
  intro p e s m args below meth c s₁ B hml htab hv
  obtain ⟨rfl, hsz, hP, hK, hD0, hF⟩ := hv
  have hts : ∀ w ∈ k_T, w.before (as.map (k_v ad)).toArray s = true := fun w hw => atoms_spec (ws := k_ws Y) B.pre w (by rw [hws]; exact List.mem_cons_of_mem _ hw)
  have hown : s.vm.findClass (k_own Y.1) = some m.cls := by rw [← ho]; exact findClass_of_methodNamed B.named
  have hlocks := B.notSynchronized
  have hin : meth.name = (k_nm Y).name := (name_of_methodNamed B.named B.method).1
  subst hsz
  have hD := hD0.self (sz := s.heap.size)
  have hA : ∀ q : Nat, s.heap.size ≤ q → va_A (k_w cA ad h) s.heap.size q := fun q h => Or.inr h
  have C : k_C Y none p l s m (as.map (k_v ad)).toArray meth c g cA (va_A (k_w cA ad h) s.heap.size) 0 :=
    ⟨B.exec, B.bytes, hml, hown, hts, hK, hA, hlocks, hl, hF, hin, fun q => absurd hh q, fun L xs q => by cases q⟩
  have hlv : lv_has ((lg_sl (as.map (k_v ad)) ++ List.replicate (k_nL Y - (lg_sl (as.map (k_v ad))).length) Slot.unset).toArray) (k_nL Y) ((lv_args 0 as).map (fun q => (q.1, k_v ad q.2))) := by
    rw [← k_args]
    exact lv_entry _ (by rw [k_sl]; exact Nat.le_of_ble_eq_true hn)
  rw [lg_entry_eq]
  refine k p l e s m _ below meth c g cA (va_A (k_w cA ad h) s.heap.size) 0 ad h.length _ C ?_ ad s.heap [] _ ⟨hP, hD, va_S.rf, fun _ _ => rfl, Nat.le_refl _, fun q => absurd rfl q, rfl⟩ hlv
  refine ⟨?_, ?_, ?_⟩
  · intro v hG hnar ad1 H1 locs1 la pc I hd
    refine vx_ret ?_
    rcases hd with ⟨rfl, hrt, hd⟩ | ⟨x, ty, rfl, hrt, hd⟩
    · exact W.vret B.exec B.bytes (B.returns.trans hrt) (fun t ht hW => ⟨⟨ad1, none, I.2.2.2.1, I.2.2.2.2.1, I.2.2.2.2.2.2, hG, rfl, by rw [ht]; exact I.1, va_K.moved hW.alike hK, I.2.1⟩, I.2.2.1.F ht⟩) I.2.2.1.2.2 hd
    · exact W.zret B.exec B.bytes (B.returns.trans hrt) (hnar x ty rfl hrt) (fun t ht hW => ⟨⟨ad1, some (.int x), I.2.2.2.1, I.2.2.2.2.1, I.2.2.2.2.2.2, hG, rfl, by rw [ht]; exact I.1, va_K.moved hW.alike hK, I.2.1⟩, I.2.2.1.F ht⟩) I.2.2.1.2.2 hd
  · intro E hG _ ad1 H1 locs1 la pc rest q ce I hce hcv hcl
    exact vx_out (fun x hx => (htab x hx).elim) hlocks hce hcv hcl (fun t ht hal => ⟨⟨ad1, I.2.2.2.1, I.2.2.2.2.1, I.2.2.2.2.2.2, hG, by rw [ht]; exact I.1, va_K.moved hal hK, I.2.1⟩, I.2.2.1.F ht⟩) I.2.2.1.2.2 (Nat.le_refl _) (Nat.le_refl _)
  · intro E hG _ ad1 H1 locs1 la pc rest names text ik is ic sa cells slots I hsize f1 f2 w1 w2 w3 w4 w5 d0 d3 d4 d6 d9 r1 r2 r3 r4
    refine vx_throwS (A := va_A (k_w cA ad h) s.heap.size) (names := names) B.exec B.bytes hl hown f1 f2 w1 w2 w3 w4 w5 hF.1 hF.2.1 I.2.2.1 hsize d0 d3 d4 d6 d9 (fun x hx => (htab x hx).elim) r1 r2 r3 r4 hlocks (fun t hal hsz hk => ?_) I.2.2.1.2.2 r3 r4
    refine ⟨⟨ad1, I.2.2.2.1, I.2.2.2.2.1, I.2.2.2.2.2.2, hG, I.1.kept (fun k x hx => hk x.1 (I.1 k x hx).lt), va_K.moved hal hK, I.2.1⟩, ?_⟩
    exact ⟨Nat.le_trans I.2.2.1.1 hsz, fun q h1 h2 => by rw [hk q (Nat.lt_of_lt_of_le h1 I.2.2.1.1)]; exact I.2.2.1.2.1 q h1 h2⟩
end
section
section KE
variable {Y : k_Y} {sc : k_Sc} {G : k_G} {pc : Nat} {ls : List (Nat × Value)} {st : List Value} {h : List k_O} {nc ns : Nat}
theorem k_ireturn {x : Int32} {ty : FieldType} (d : decode (k_cc Y) pc = .ok (.ireturn, 1)) (hrt : k_rt Y = some ty) (hn : narrow ty (.int x) = .int x) (h1 : G.1 = .inl (some (.int x))) (h2 : G.2.1 = h) (h3 : nc ≤ G.2.2.1) (h4 : ns ≤ G.2.2.2) : k_W Y sc G (pc, ls, [.int x], h, nc, ns) := by
  intro p l e s m args below meth c g cA A b ad0 n0 Q C E ad H locs la I hv
  subst h2
  exact W.widen h3 h4 (E.1 (some (.int x)) h1 (fun x' ty' e1 e2 => by cases e1; rw [hrt] at e2; cases e2; exact hn) ad H locs la pc I (Or.inr ⟨x, ty, rfl, hrt, d⟩))
theorem k_return (d : decode (k_cc Y) pc = .ok (.return_, 1)) (hrt : k_rt Y = none) (h1 : G.1 = .inl none) (h2 : G.2.1 = h) (h3 : nc ≤ G.2.2.1) (h4 : ns ≤ G.2.2.2) : k_W Y sc G (pc, ls, [], h, nc, ns) := by
  intro p l e s m args below meth c g cA A b ad0 n0 Q C E ad H locs la I hv
  subst h2
  exact W.widen h3 h4 (E.1 none h1 (fun x' ty' e1 e2 => by cases e1) ad H locs la pc I (Or.inl ⟨rfl, hrt, d⟩))
/-- what is checked of a throw with a text -/
def k_okT (o ik is ic : Nat) (E text : String) (names : List String) : Bool :=
  Bundle.fit E && names.all Bundle.fit && decide (E ∈ k_ex6) && k_sub E E && decide (Cond.classLink (k_own o) ik E ∈ k_T) && decide (Cond.initialized E ∈ k_T) && decide ((is, text) ∈ k_str) &&
  (vx_atS (k_own o) ic E names).all (fun w => decide (w ∈ k_T) || decide (w = Cond.castable E E) || k_dcl.any (fun x => decide (w = Cond.declares x))) && (Cond.classLink (k_own o) ik E :: Cond.initialized E :: vx_atS (k_own o) ic E names).all vx_ot
theorem k_throw {E text : String} {names : List String} {ik is ic : Nat} (ho : k_own Y.1 = RX2) (hok : k_okT Y.1 ik is ic E text names = true) (hh : k_hh Y = [])
    (d0 : decode (k_cc Y) pc = .ok (.new ik, 3)) (d3 : decode (k_cc Y) (pc + 3) = .ok (.dup, 1)) (d4 : decode (k_cc Y) (pc + 4) = .ok (.ldc is, 2)) (d6 : decode (k_cc Y) (pc + 6) = .ok (.invokespecial ic, 3)) (d9 : decode (k_cc Y) (pc + 9) = .ok (.athrow, 1))
    (r1 : names.length + 3 < k_fr Y) (r2 : (st.map fun v => v.category).sum + (13 * (names.length + 1) + 43) ≤ k_lo Y) (h1 : G.1 = .inr E) (h2 : G.2.1 = h) (h3 : nc + 1 ≤ G.2.2.1) (h4 : ns + 6 ≤ G.2.2.2) : k_W Y sc G (pc, ls, st, h, nc, ns) := by
  intro p l e s m args below meth c g cA A b ad0 n0 Q C EE ad H locs la I hv
  subst h2
  unfold k_okT at hok
  simp only [Bool.and_eq_true, decide_eq_true_eq, List.all_eq_true] at hok
  obtain ⟨⟨⟨⟨⟨⟨⟨⟨a1, a2⟩, a3⟩, a4⟩, a5⟩, a6⟩, a7⟩, a8⟩, a9⟩ := hok
  obtain ⟨f1, f2, f3, f4⟩ := C.2.2.2.2.2.2.2.2.2.1
  obtain ⟨sa, hsa⟩ := f4 _ a7
  have hts := C.2.2.2.2.1
  refine EE.2.2 E h1 hh ad H locs la pc (st.map (k_v ad)) names text ik is ic sa nc ns I (hv.1.trans C.2.2.1.symm) a1 a2 (hts _ a5) (hts _ a6) (by rw [ho]; exact hsa) (fun w hw => ?_) a9 d0 d3 d4 d6 d9 r1 (by rw [k_sum]; exact r2) h3 h4
  have h8 := a8 w hw
  simp only [Bool.or_eq_true, decide_eq_true_eq] at h8
  rcases h8 with (h8 | h8) | h8
  · exact hts _ h8
  · rw [h8]
    exact va_Nw.use rfl ((f3.2 E a3 E a3).1 a4)
  · obtain ⟨x, hx, hxe⟩ := List.any_eq_true.mp h8
    rw [of_decide_eq_true hxe]
    exact va_Nw.use rfl (f3.1 x hx)
end KE
end
section
def k_okB (o idx n : Nat) (Y : k_Y) : Bool := decide (k_hh Y = []) && decide (Cond.methodLink (k_own o) idx (k_nm Y) ∈ k_T) && decide (Cond.initialized (k_nm Y).cls ∈ k_T) && decide (Cond.code (k_nm Y) (k_cc Y) (k_nL Y) (k_rt Y) ∈ k_T) && decide ((k_nm Y).cls ≠ "java/lang/invoke/MethodHandle" ∧ (k_nm Y).cls ≠ "java/lang/invoke/VarHandle" ∧ (parseMethodDescriptor (k_nm Y).desc).map (fun d => d.parameters.length) = some n) && decide ((k_nm Y).cls = k_own Y.1)
def k_okV (o idx n : Nat) (Y : k_Y) : Bool := k_okB o idx n Y && Nat.blt Y.1 4 && decide (Cond.instanceMethod (k_nm Y) ∈ k_T) && decide (Cond.selects (k_nm Y).cls (k_nm Y) (k_nm Y) ∈ k_T)
def k_okSt (o idx n : Nat) (Y : k_Y) : Bool := k_okB o idx n Y && decide (Cond.static (k_nm Y) ∈ k_T)
def k_okI (o idx n : Nat) (Y : k_Y) : Bool := k_okB o idx n Y && decide (Cond.instanceMethod (k_nm Y) ∈ k_T) && decide ((k_nm Y).name = "<init>") && decide (k_rt Y = none)
theorem k_wsT {Y : k_Y} (h1 : k_hh Y = []) (h2 : Cond.code (k_nm Y) (k_cc Y) (k_nL Y) (k_rt Y) ∈ k_T) : GoodIn k_T (k_ws Y) := by
  have hws : k_ws Y = Cond.code (k_nm Y) (k_cc Y) (k_nL Y) (k_rt Y) :: k_T := by unfold k_ws; rw [h1]
  rw [hws]
  exact k_good (fun w hw => (List.mem_cons.mp hw).elim (fun e => by rw [e]; exact h2) (fun h => h))
theorem k_cl_own {o : Nat} (h : o < 4) : ∃ z, k_cl[o]? = some z ∧ z.1 = k_own o := by
  match o, h with
  | 0, _ => exact ⟨_, rfl, rfl⟩
  | 1, _ => exact ⟨_, rfl, rfl⟩
  | 2, _ => exact ⟨_, rfl, rfl⟩
  | 3, _ => exact ⟨_, rfl, rfl⟩
def k_rm (Y Y' : k_Y) : Bool := Nat.ble (k_fr Y' + 1) (k_fr Y) && Nat.ble (8 + (k_nL Y' + 11) + k_lo Y') (k_lo Y)
section KV
variable {p : Program} {l : Launch} {e : Env} {s : State} {m : MethodId} {args : Array Value} {below : List Frame} {meth : Method} {c : Code} {g : va_G} {cA : Nat → ClassId} {A : Nat → Prop} {b : Nat} {ad0 : Nat → Nat} {n0 : Nat} {Q : State → Prop} {ad : Nat → Nat} {H : Heap} {locs : List Loc} {la : Array Slot}
variable {Y Y' : k_Y} {sc : k_Sc} {G G' : k_G} {pc : Nat} {ls : List (Nat × Value)} {st : List Value} {h : List k_O} {nc ns idx : Nat} {as : List Value}
theorem k_preOf (C : k_C Y sc p l s m args meth c g cA A b) (I : k_I Y sc s g cA A b ad0 n0 ad H locs h) : FrameBlind (va_Pc (as.map (k_v ad)) (k_Pre g cA ad H.size h)) ∧ ∀ U : State, U.heap = H → s.WarmedH U.vm → va_Pc (as.map (k_v ad)) (k_Pre g cA ad H.size h) (as.map (k_v ad)).toArray U := by
  refine ⟨k_blind, fun U hU hW => ⟨rfl, by rw [hU], by rw [hU]; exact I.1, va_K.moved hW.alike C.2.2.2.2.2.1, I.2.1.weaken (fun _ _ _ _ => trivial), ?_⟩⟩
  rw [hU]
  exact k_Fix.warm hW I.2.2.1.2.1 (k_inA (g := g) I.2.1 I.2.2.1 C.2.2.2.2.2.2.1) C.2.2.2.2.2.2.2.2.2.1
theorem k_runV {a : Nat} {fs : List Value} (C : k_C Y sc p l s m args meth c g cA A b) (I : k_I Y sc s g cA A b ad0 n0 ad H locs h) (hv : lv_has la (k_nL Y) (ls.map (fun q => (q.1, k_v ad q.2))))
    (hM : k_Met Y' (.ref a :: as) h G') (hok : k_okV Y.1 idx as.length Y' = true) (hrm : k_rm Y Y' = true) (hr : k_get h a = some (.inr (Y'.1, fs))) (hsum : Nat.ble (st.map fun v => v.category).sum 8 = true) (hd : decode (k_cc Y) pc = .ok (.invokevirtual idx, 3)) (hf : nc + G'.2.2.1 ≤ G.2.2.1 ∧ ns + G'.2.2.2 ≤ G.2.2.2) :
    vx_Run p l e (k_R Y G) s m args below meth c H locs nc ns G'.2.2.1 G'.2.2.2 (F0 m pc la ((as.reverse ++ .ref a :: st).map (k_v ad))) (st.map (k_v ad)) (k_Qc g cA ad h.length (va_A (k_w cA ad h) H.size) G'.1 G'.2.1 (((Value.ref a :: as).map (k_v ad)).toArray)) (k_XC g cA ad h.length (va_A (k_w cA ad h) H.size) G'.1 G'.2.1) (va_A (k_w cA ad h) H.size) := by
  unfold k_okV k_okB at hok
  simp only [Bool.and_eq_true, decide_eq_true_eq] at hok
  obtain ⟨⟨⟨⟨⟨⟨⟨⟨a1, a2⟩, a3⟩, a4⟩, a5⟩, a6⟩, a7⟩, a8⟩, a9⟩ := hok
  obtain ⟨r1, r2⟩ := k_and2 hrm
  obtain ⟨z, hz, hz1⟩ := k_cl_own (k_blt a7)
  have hws : k_ws Y' = Cond.code (k_nm Y') (k_cc Y') (k_nL Y') (k_rt Y') :: k_T := by unfold k_ws; rw [a1]
  have hG : GoodIn k_T (wsV (k_own Y.1) idx (k_nm Y').cls (k_nm Y') (k_ws Y')) := goodIn_app (k_good (fun w hw => by
    simp only [List.mem_cons, List.not_mem_nil, or_false] at hw
    rcases hw with rfl | rfl | rfl | rfl <;> assumption)) (k_wsT a1 a4)
  have hpre := k_preOf (as := .ref a :: as) C I
  have hrec := va_recv C.2.2.2.2.2.1 I.1 hz (k_w_get hr)
  rw [hz1, ← a6] at hrec
  have hst : (F0 m pc la ((as.reverse ++ .ref a :: st).map (k_v ad))).stack = (as.map (k_v ad)).reverse ++ .ref (ad a) :: st.map (k_v ad) := by
    simp [k_v]
  refine vx_runV (As := as.map (k_v ad)) (rest := st.map (k_v ad)) ⟨C.1, C.2.1, C.2.2.1, C.2.2.2.1, C.2.2.2.2.1⟩ (hM l C.2.2.2.2.2.2.2.2.1 g cA ad H.size) (cwV as.length C.2.2.2.2.1 hG hws rfl rfl ⟨rfl, a5⟩ ⟨Nat.le_of_ble_eq_true r1, Nat.le_of_ble_eq_true r2⟩) ⟨hpre.1, hrec, hpre.2⟩ rfl (by simp) hv.1 hst (lv_room (by rw [k_sum]; exact Nat.le_of_ble_eq_true hsum)) hd hf
theorem k_runS (C : k_C Y sc p l s m args meth c g cA A b) (I : k_I Y sc s g cA A b ad0 n0 ad H locs h) (hv : lv_has la (k_nL Y) (ls.map (fun q => (q.1, k_v ad q.2))))
    (hM : k_Met Y' as h G') (hok : k_okSt Y.1 idx as.length Y' = true) (hrm : k_rm Y Y' = true) (hsum : Nat.ble (st.map fun v => v.category).sum 8 = true) (hd : decode (k_cc Y) pc = .ok (.invokestatic idx, 3)) (hf : nc + G'.2.2.1 ≤ G.2.2.1 ∧ ns + G'.2.2.2 ≤ G.2.2.2) :
    vx_Run p l e (k_R Y G) s m args below meth c H locs nc ns G'.2.2.1 G'.2.2.2 (F0 m pc la ((as.reverse ++ st).map (k_v ad))) (st.map (k_v ad)) (k_Qc g cA ad h.length (va_A (k_w cA ad h) H.size) G'.1 G'.2.1 ((as.map (k_v ad)).toArray)) (k_XC g cA ad h.length (va_A (k_w cA ad h) H.size) G'.1 G'.2.1) (va_A (k_w cA ad h) H.size) := by
  unfold k_okSt k_okB at hok
  simp only [Bool.and_eq_true, decide_eq_true_eq] at hok
  obtain ⟨⟨⟨⟨⟨⟨a1, a2⟩, a3⟩, a4⟩, a5⟩, a6⟩, a8⟩ := hok
  obtain ⟨r1, r2⟩ := k_and2 hrm
  have hws : k_ws Y' = Cond.code (k_nm Y') (k_cc Y') (k_nL Y') (k_rt Y') :: k_T := by unfold k_ws; rw [a1]
  have hG : GoodIn k_T (va_wsS (k_own Y.1) idx (k_nm Y') (k_ws Y')) := goodIn_app (k_good (fun w hw => by
    simp only [List.mem_cons, List.not_mem_nil, or_false] at hw
    rcases hw with rfl | rfl | rfl <;> assumption)) (k_wsT a1 a4)
  have hpre := k_preOf (as := as) C I
  have hst : (F0 m pc la ((as.reverse ++ st).map (k_v ad))).stack = (as.map (k_v ad)).reverse ++ st.map (k_v ad) := by
    simp
  refine vx_runS (As := as.map (k_v ad)) (rest := st.map (k_v ad)) ⟨C.1, C.2.1, C.2.2.1, C.2.2.2.1, C.2.2.2.2.1⟩ (hM l C.2.2.2.2.2.2.2.2.1 g cA ad H.size) (va_cwS as.length C.2.2.2.2.1 hG hws rfl rfl a5 ⟨Nat.le_of_ble_eq_true r1, Nat.le_of_ble_eq_true r2⟩) ⟨hpre.1, hpre.2⟩ rfl (by simp) hv.1 hst (lv_room (by rw [k_sum]; exact Nat.le_of_ble_eq_true hsum)) hd hf
/-- behind a call that comes back -/
theorem k_backR {st0 : List Value} {aa : Array Value} {v : Option Value} (C : k_C Y sc p l s m args meth c g cA A b) (E : k_E Y sc G p l e s m args below meth c g cA A b ad0 n0 Q) (I : k_I Y sc s g cA A b ad0 n0 ad H locs h) (hv : lv_has la (k_nL Y) (ls.map (fun q => (q.1, k_v ad q.2))))
    (hr : vx_Run p l e (k_R Y G) s m args below meth c H locs nc ns G'.2.2.1 G'.2.2.2 (F0 m pc la st0) (st.map (k_v ad)) (k_Qc g cA ad h.length (va_A (k_w cA ad h) H.size) G'.1 G'.2.1 aa) (k_XC g cA ad h.length (va_A (k_w cA ad h) H.size) G'.1 G'.2.1) (va_A (k_w cA ad h) H.size))
    (hG : G'.1 = .inl v) (ho1 : ls.all (fun q => k_okv h.length q.2) = true) (ho2 : st.all (k_okv h.length) = true)
    (k : k_W Y sc G (pc + 3, ls, v.toList ++ st, G'.2.1, nc + G'.2.2.1, ns + G'.2.2.2)) : W p l e (k_R Y G) s m args below meth c H locs nc ns Q (F0 m pc la st0) := by
  have hin := k_inA (g := g) I.2.1 I.2.2.1 C.2.2.2.2.2.2.1
  intro T hT X
  rcases hr T hT X with ⟨w, st₀, t, T', L, h0, X', hL, e1, e2, ⟨⟨ad1, v1, q1, q2, q3, q4, q5, q6⟩, hF⟩, stp⟩ | ⟨q, st₀, t, T', L, E1, ce, h0, X', hL, e1, e2, ⟨⟨ad1, q1, q2, q3, q4, q5⟩, hF⟩, hce, hcv, hcl, stp⟩
  · rw [hG] at q4
    cases q4
    obtain ⟨k1, k2, k3⟩ := vx_keep h0 e1 I.2.2.1 (fun q _ hq => hin q hq) hin hL hF
    have hst : w.toList ++ st.map (k_v ad) = (v.toList ++ st).map (k_v ad1) := by
      have e5 : w = v.map (k_v ad1) := by injection q5
      have e6 : st.map (k_v ad) = st.map (k_v ad1) := List.map_congr_left (fun x hx => (k_v_eq (ad := ad) (ad' := ad1) q1 q3 (List.all_eq_true.mp ho2 x hx)).symm)
      rw [e5, e6, List.map_append]
      cases v <;> rfl
    have hv1 : lv_has la (k_nL Y) (ls.map (fun q => (q.1, k_v ad1 q.2))) := by
      have e7 : ls.map (fun q => (q.1, k_v ad1 q.2)) = ls.map (fun q => (q.1, k_v ad q.2)) := List.map_congr_left (fun x hx => by
        have := k_v_eq (ad := ad) (ad' := ad1) q1 q3 (List.all_eq_true.mp ho1 x hx)
        rw [this])
      rw [e7]; exact hv
    have I1 : k_I Y sc s g cA A b ad0 n0 ad1 T'.heap (locs ++ L) G'.2.1 := ⟨by rw [e1]; exact q6.1, q6.2.2.weaken (fun _ _ _ hq => hin _ hq), k3, fun i hi => (q1 i (Nat.lt_of_lt_of_le hi I.2.2.2.2.1)).trans (I.2.2.2.1 i hi), Nat.le_trans I.2.2.2.2.1 q2, fun hs => q3.trans (I.2.2.2.2.2.1 hs), q3.trans I.2.2.2.2.2.2⟩
    have hk := k p l e s m args below meth c g cA A b ad0 n0 Q C E ad1 T'.heap (locs ++ L) la I1 hv1
    dsimp only at hk
    rw [← hst] at hk
    obtain ⟨t2, a1, b1⟩ := hk T' rfl X'
    exact ⟨t2, stp t2 a1, b1⟩
  · rw [hG] at q4
    cases q4
/-- behind a call that throws, which nobody takes here -/
theorem k_backX {st0 : List Value} {aa : Array Value} {F : String} (C : k_C Y sc p l s m args meth c g cA A b) (E : k_E Y sc G p l e s m args below meth c g cA A b ad0 n0 Q) (I : k_I Y sc s g cA A b ad0 n0 ad H locs h)
    (hr : vx_Run p l e (k_R Y G) s m args below meth c H locs nc ns G'.2.2.1 G'.2.2.2 (F0 m pc la st0) (st.map (k_v ad)) (k_Qc g cA ad h.length (va_A (k_w cA ad h) H.size) G'.1 G'.2.1 aa) (k_XC g cA ad h.length (va_A (k_w cA ad h) H.size) G'.1 G'.2.1) (va_A (k_w cA ad h) H.size))
    (hG : G'.1 = .inr F) (hh : k_hh Y = []) (g1 : G.1 = .inr F) (g2 : G.2.1 = G'.2.1) (g3 : nc + G'.2.2.1 ≤ G.2.2.1) (g4 : ns + G'.2.2.2 ≤ G.2.2.2) : W p l e (k_R Y G) s m args below meth c H locs nc ns Q (F0 m pc la st0) := by
  have hin := k_inA (g := g) I.2.1 I.2.2.1 C.2.2.2.2.2.2.1
  intro T hT X
  rcases hr T hT X with ⟨w, st₀, t, T', L, h0, X', hL, e1, e2, ⟨⟨ad1, v1, q1, q2, q3, q4, q5, q6⟩, hF⟩, stp⟩ | ⟨q, st₀, t, T', L, E1, ce, h0, X', hL, e1, e2, ⟨⟨ad1, q1, q2, q3, q4, q6⟩, hF⟩, hce, hcv, hcl, stp⟩
  · rw [hG] at q4
    cases q4
  · rw [hG] at q4
    cases q4
    obtain ⟨k1, k2, k3⟩ := vx_keep h0 e1 I.2.2.1 (fun q _ hq => hin q hq) hin hL hF
    have I1 : k_I Y sc s g cA A b ad0 n0 ad1 T'.heap (locs ++ L) G.2.1 := by
      rw [g2]
      exact ⟨by rw [e1]; exact q6.1, q6.2.2.weaken (fun _ _ _ hq => hin _ hq), k3, fun i hi => (q1 i (Nat.lt_of_lt_of_le hi I.2.2.2.2.1)).trans (I.2.2.2.1 i hi), Nat.le_trans I.2.2.2.2.1 q2, fun hs => q3.trans (I.2.2.2.2.2.1 hs), q3.trans I.2.2.2.2.2.2⟩
    have hk := vx_widen g3 g4 (E.2.1 F g1 hh ad1 T'.heap (locs ++ L) la pc (st.map (k_v ad)) q ce I1 (by rw [e1]; exact hce) hcv hcl)
    obtain ⟨t2, a1, b1⟩ := hk T' rfl X'
    exact ⟨t2, stp.trans a1, b1⟩
theorem k_callV {a : Nat} {fs : List Value} {v : Option Value} (hM : k_Met Y' (.ref a :: as) h G') (hG : G'.1 = .inl v) (hok : k_okV Y.1 idx as.length Y' = true) (hrm : k_rm Y Y' = true) (hr : k_get h a = some (.inr (Y'.1, fs))) (hsum : Nat.ble (st.map fun v => v.category).sum 8 = true) (hd : decode (k_cc Y) pc = .ok (.invokevirtual idx, 3)) (hf1 : nc + G'.2.2.1 ≤ G.2.2.1) (hf2 : ns + G'.2.2.2 ≤ G.2.2.2)
    (ho1 : ls.all (fun q => k_okv h.length q.2) = true) (ho2 : st.all (k_okv h.length) = true) (k : k_W Y sc G (pc + 3, ls, v.toList ++ st, G'.2.1, nc + G'.2.2.1, ns + G'.2.2.2)) : k_W Y sc G (pc, ls, as.reverse ++ .ref a :: st, h, nc, ns) := by
  intro p l e s m args below meth c g cA A b ad0 n0 Q C E ad H locs la I hv
  exact k_backR C E I hv (k_runV C I hv hM hok hrm hr hsum hd ⟨hf1, hf2⟩) hG ho1 ho2 k
theorem k_callS {v : Option Value} (hM : k_Met Y' as h G') (hG : G'.1 = .inl v) (hok : k_okSt Y.1 idx as.length Y' = true) (hrm : k_rm Y Y' = true) (hsum : Nat.ble (st.map fun v => v.category).sum 8 = true) (hd : decode (k_cc Y) pc = .ok (.invokestatic idx, 3)) (hf1 : nc + G'.2.2.1 ≤ G.2.2.1) (hf2 : ns + G'.2.2.2 ≤ G.2.2.2)
    (ho1 : ls.all (fun q => k_okv h.length q.2) = true) (ho2 : st.all (k_okv h.length) = true) (k : k_W Y sc G (pc + 3, ls, v.toList ++ st, G'.2.1, nc + G'.2.2.1, ns + G'.2.2.2)) : k_W Y sc G (pc, ls, as.reverse ++ st, h, nc, ns) := by
  intro p l e s m args below meth c g cA A b ad0 n0 Q C E ad H locs la I hv
  exact k_backR C E I hv (k_runS C I hv hM hok hrm hsum hd ⟨hf1, hf2⟩) hG ho1 ho2 k
theorem k_callVX {a : Nat} {fs : List Value} {F : String} (hM : k_Met Y' (.ref a :: as) h G') (hG : G'.1 = .inr F) (hok : k_okV Y.1 idx as.length Y' = true) (hrm : k_rm Y Y' = true) (hr : k_get h a = some (.inr (Y'.1, fs))) (hsum : Nat.ble (st.map fun v => v.category).sum 8 = true) (hd : decode (k_cc Y) pc = .ok (.invokevirtual idx, 3)) (hf1 : nc + G'.2.2.1 ≤ G.2.2.1) (hf2 : ns + G'.2.2.2 ≤ G.2.2.2)
    (hh : k_hh Y = []) (g1 : G.1 = .inr F) (g2 : G.2.1 = G'.2.1) : k_W Y sc G (pc, ls, as.reverse ++ .ref a :: st, h, nc, ns) := by
  intro p l e s m args below meth c g cA A b ad0 n0 Q C E ad H locs la I hv
  exact k_backX C E I (k_runV C I hv hM hok hrm hr hsum hd ⟨hf1, hf2⟩) hG hh g1 g2 hf1 hf2
end KV
end
section
def Y0_init : k_Y := (0, yX0_init, cX0_init, 2, none, 1, 20, [])
def T0_init : List (Nat × Instr × Nat × Nat) := [(0, .aload_n 0, 1, 0), (4, .aload_n 0, 5, 0), (5, .iload_n 1, 6, 0), (8, .putfield 9, 11, 0), (11, .aload_n 0, 12, 0), (12, .iload_n 1, 13, 0), (15, .putfield 15, 18, 0), (18, .aload_n 0, 19, 0), (19, .iload_n 1, 20, 0), (22, .putfield 18, 25, 0), (25, .aload_n 0, 26, 0), (26, .iload_n 1, 27, 0), (29, .putfield 21, 32, 0), (32, .aload_n 0, 33, 0), (33, .iload_n 1, 34, 0), (36, .putfield 24, 39, 0), (39, .aload_n 0, 40, 0), (40, .iload_n 1, 41, 0), (43, .putfield 27, 46, 0), (46, .aload_n 0, 47, 0), (47, .iload_n 1, 48, 0), (50, .putfield 30, 53, 0), (53, .aload_n 0, 54, 0), (54, .iload_n 1, 55, 0), (57, .putfield 33, 60, 0), (60, .aload_n 0, 61, 0), (61, .iload_n 1, 62, 0), (64, .putfield 36, 67, 0)]
theorem T0_init_ok : (T0_init).all (k_dck (k_cc Y0_init)) = true := by decide +kernel
theorem d0_init_1 : decode (k_cc Y0_init) 1 = .ok (.invokespecial 3, 3) := by decide +kernel
theorem d0_init_6 : decode (k_cc Y0_init) 6 = .ok (.newarray .int, 2) := by decide +kernel
theorem d0_init_13 : decode (k_cc Y0_init) 13 = .ok (.newarray .int, 2) := by decide +kernel
theorem d0_init_20 : decode (k_cc Y0_init) 20 = .ok (.newarray .int, 2) := by decide +kernel
theorem d0_init_27 : decode (k_cc Y0_init) 27 = .ok (.newarray .int, 2) := by decide +kernel
theorem d0_init_34 : decode (k_cc Y0_init) 34 = .ok (.newarray .int, 2) := by decide +kernel
theorem d0_init_41 : decode (k_cc Y0_init) 41 = .ok (.newarray .int, 2) := by decide +kernel
theorem d0_init_48 : decode (k_cc Y0_init) 48 = .ok (.newarray .int, 2) := by decide +kernel
theorem d0_init_55 : decode (k_cc Y0_init) 55 = .ok (.newarray .int, 2) := by decide +kernel
theorem d0_init_62 : decode (k_cc Y0_init) 62 = .ok (.newarray .int, 2) := by decide +kernel
theorem d0_init_67 : decode (k_cc Y0_init) 67 = .ok (.return_, 1) := by decide +kernel
def Y0_add : k_Y := (0, yX0_add, cX0_add, 8, (some .int), 0, 0, [])
def T0_add : List (Nat × Instr × Nat × Nat) := [(0, .aload_n 0, 1, 0), (1, .getfield 39, 4, 0), (4, .istore 6, 6, 0), (6, .iload 6, 8, 0), (8, .istore 7, 10, 0), (10, .iload 7, 12, 0), (12, .ifCond .le 43, 15, 55), (15, .aload_n 0, 16, 0), (16, .getfield 18, 19, 0), (19, .aload_n 0, 20, 0), (20, .getfield 36, 23, 0), (23, .iload 7, 25, 0), (25, .iconst 1, 26, 0), (26, .isub, 27, 0), (27, .iaload, 28, 0), (28, .iaload, 29, 0), (29, .iload_n 3, 30, 0), (30, .if_icmp .le 25, 33, 55), (33, .aload_n 0, 34, 0), (34, .getfield 36, 37, 0), (37, .iload 7, 39, 0), (39, .aload_n 0, 40, 0), (40, .getfield 36, 43, 0), (43, .iload 7, 45, 0), (45, .iconst 1, 46, 0), (46, .isub, 47, 0), (47, .iaload, 48, 0), (48, .iastore, 49, 0), (49, .iinc 7 (-1), 52, 0), (52, .goto (-42), 55, 10), (55, .aload_n 0, 56, 0), (56, .getfield 36, 59, 0), (59, .iload 7, 61, 0), (61, .iload 6, 63, 0), (63, .iastore, 64, 0), (64, .aload_n 0, 65, 0), (65, .dup, 66, 0), (66, .getfield 39, 69, 0), (69, .iconst 1, 70, 0), (70, .iadd, 71, 0), (71, .putfield 39, 74, 0), (74, .aload_n 0, 75, 0), (75, .getfield 9, 78, 0), (78, .iload 6, 80, 0), (80, .iload_n 1, 81, 0), (81, .iastore, 82, 0), (82, .aload_n 0, 83, 0), (83, .getfield 15, 86, 0), (86, .iload 6, 88, 0), (88, .iload_n 2, 89, 0), (89, .iastore, 90, 0), (90, .aload_n 0, 91, 0), (91, .getfield 18, 94, 0), (94, .iload 6, 96, 0), (96, .iload_n 3, 97, 0), (97, .iastore, 98, 0), (98, .aload_n 0, 99, 0), (99, .getfield 21, 102, 0), (102, .iload 6, 104, 0), (104, .iload 4, 106, 0), (106, .iastore, 107, 0), (107, .aload_n 0, 108, 0), (108, .getfield 24, 111, 0), (111, .iload 6, 113, 0), (113, .iload 5, 115, 0), (115, .iastore, 116, 0), (116, .iload 6, 118, 0)]
theorem T0_add_ok : (T0_add).all (k_dck (k_cc Y0_add)) = true := by decide +kernel
theorem d0_add_65 : decode (k_cc Y0_add) 65 = .ok (.dup, 1) := by decide +kernel
theorem d0_add_118 : decode (k_cc Y0_add) 118 = .ok (.ireturn, 1) := by decide +kernel
def Y0_hasBegin : k_Y := (0, yX0_hasBegin, cX0_hasBegin, 4, (some .boolean), 0, 0, [])
def T0_hasBegin : List (Nat × Instr × Nat × Nat) := [(0, .iconst 0, 1, 0), (1, .istore_n 3, 2, 0), (2, .iload_n 3, 3, 0), (3, .aload_n 0, 4, 0), (4, .getfield 39, 7, 0), (7, .if_icmp .ge 31, 10, 38), (10, .aload_n 0, 11, 0), (11, .getfield 9, 14, 0), (14, .iload_n 3, 15, 0), (15, .iaload, 16, 0), (16, .iload_n 1, 17, 0), (17, .if_icmp .ne 15, 20, 32), (20, .aload_n 0, 21, 0), (21, .getfield 18, 24, 0), (24, .iload_n 3, 25, 0), (25, .iaload, 26, 0), (26, .iload_n 2, 27, 0), (27, .if_icmp .ne 5, 30, 32), (30, .iconst 1, 31, 0), (32, .iinc 3 1, 35, 0), (35, .goto (-33), 38, 2), (38, .iconst 0, 39, 0)]
theorem T0_hasBegin_ok : (T0_hasBegin).all (k_dck (k_cc Y0_hasBegin)) = true := by decide +kernel
theorem d0_hasBegin_31 : decode (k_cc Y0_hasBegin) 31 = .ok (.ireturn, 1) := by decide +kernel
theorem d0_hasBegin_39 : decode (k_cc Y0_hasBegin) 39 = .ok (.ireturn, 1) := by decide +kernel
def Y0_beginsWith : k_Y := (0, yX0_beginsWith, cX0_beginsWith, 3, (some .boolean), 0, 0, [])
def T0_beginsWith : List (Nat × Instr × Nat × Nat) := [(0, .aload_n 0, 1, 0), (1, .getfield 18, 4, 0), (4, .aload_n 0, 5, 0), (5, .getfield 36, 8, 0), (8, .iload_n 1, 9, 0), (9, .iaload, 10, 0), (10, .iaload, 11, 0), (11, .aload_n 0, 12, 0), (12, .getfield 18, 15, 0), (15, .iload_n 2, 16, 0), (16, .iaload, 17, 0), (17, .if_icmp .ne 7, 20, 24), (20, .iconst 1, 21, 0), (21, .goto 4, 24, 25), (24, .iconst 0, 25, 0)]
theorem T0_beginsWith_ok : (T0_beginsWith).all (k_dck (k_cc Y0_beginsWith)) = true := by decide +kernel
theorem d0_beginsWith_25 : decode (k_cc Y0_beginsWith) 25 = .ok (.ireturn, 1) := by decide +kernel
def Y0_setOn : k_Y := (0, yX0_setOn, cX0_setOn, 5, none, 0, 0, [])
def T0_setOn : List (Nat × Instr × Nat × Nat) := [(0, .aload_n 0, 1, 0), (1, .getfield 27, 4, 0), (4, .iload_n 1, 5, 0), (5, .iload_n 2, 6, 0), (6, .iastore, 7, 0), (7, .aload_n 0, 8, 0), (8, .getfield 30, 11, 0), (11, .iload_n 1, 12, 0), (12, .iload_n 3, 13, 0), (13, .iastore, 14, 0), (14, .aload_n 0, 15, 0), (15, .getfield 33, 18, 0), (18, .iload_n 1, 19, 0), (19, .iload 4, 21, 0), (21, .iastore, 22, 0)]
theorem T0_setOn_ok : (T0_setOn).all (k_dck (k_cc Y0_setOn)) = true := by decide +kernel
theorem d0_setOn_22 : decode (k_cc Y0_setOn) 22 = .ok (.return_, 1) := by decide +kernel
def Y0_markLost : k_Y := (0, yX0_markLost, cX0_markLost, 2, none, 1, 24, [])
def T0_markLost : List (Nat × Instr × Nat × Nat) := [(0, .aload_n 0, 1, 0), (1, .iload_n 1, 2, 0), (2, .aload_n 0, 3, 0), (3, .getfield 18, 6, 0), (6, .iload_n 1, 7, 0), (7, .iaload, 8, 0), (8, .iconst 0, 9, 0), (9, .iconst 3, 10, 0)]
theorem T0_markLost_ok : (T0_markLost).all (k_dck (k_cc Y0_markLost)) = true := by decide +kernel
theorem d0_markLost_10 : decode (k_cc Y0_markLost) 10 = .ok (.invokevirtual 43, 3) := by decide +kernel
theorem d0_markLost_13 : decode (k_cc Y0_markLost) 13 = .ok (.return_, 1) := by decide +kernel
def Y0_cutAfter : k_Y := (0, yX0_cutAfter, cX0_cutAfter, 4, none, 1, 24, [])
def T0_cutAfter : List (Nat × Instr × Nat × Nat) := [(0, .iload_n 2, 1, 0), (1, .aload_n 0, 2, 0), (2, .getfield 27, 5, 0), (5, .iload_n 1, 6, 0), (6, .iaload, 7, 0), (7, .isub, 8, 0), (8, .iconst 1, 9, 0), (9, .iadd, 10, 0), (10, .istore_n 3, 11, 0), (11, .iload_n 3, 12, 0), (12, .aload_n 0, 13, 0), (13, .getfield 30, 16, 0), (16, .iload_n 1, 17, 0), (17, .iaload, 18, 0), (18, .if_icmp .ge 16, 21, 34), (21, .aload_n 0, 22, 0), (22, .iload_n 1, 23, 0), (23, .aload_n 0, 24, 0), (24, .getfield 27, 27, 0), (27, .iload_n 1, 28, 0), (28, .iaload, 29, 0), (29, .iload_n 3, 30, 0), (30, .iconst 1, 31, 0)]
theorem T0_cutAfter_ok : (T0_cutAfter).all (k_dck (k_cc Y0_cutAfter)) = true := by decide +kernel
theorem d0_cutAfter_31 : decode (k_cc Y0_cutAfter) 31 = .ok (.invokevirtual 43, 3) := by decide +kernel
theorem d0_cutAfter_34 : decode (k_cc Y0_cutAfter) 34 = .ok (.return_, 1) := by decide +kernel
def Y0_isOn : k_Y := (0, yX0_isOn, cX0_isOn, 3, (some .boolean), 0, 0, [])
def T0_isOn : List (Nat × Instr × Nat × Nat) := [(0, .iload_n 2, 1, 0), (1, .aload_n 0, 2, 0), (2, .getfield 27, 5, 0), (5, .iload_n 1, 6, 0), (6, .iaload, 7, 0), (7, .if_icmp .lt 24, 10, 31), (10, .iload_n 2, 11, 0), (11, .aload_n 0, 12, 0), (12, .getfield 27, 15, 0), (15, .iload_n 1, 16, 0), (16, .iaload, 17, 0), (17, .isub, 18, 0), (18, .aload_n 0, 19, 0), (19, .getfield 30, 22, 0), (22, .iload_n 1, 23, 0), (23, .iaload, 24, 0), (24, .if_icmp .ge 7, 27, 31), (27, .iconst 1, 28, 0), (28, .goto 4, 31, 32), (31, .iconst 0, 32, 0)]
theorem T0_isOn_ok : (T0_isOn).all (k_dck (k_cc Y0_isOn)) = true := by decide +kernel
theorem d0_isOn_32 : decode (k_cc Y0_isOn) 32 = .ok (.ireturn, 1) := by decide +kernel
def Y0_wordIn : k_Y := (0, yX0_wordIn, cX0_wordIn, 3, (some .int), 0, 0, [])
def T0_wordIn : List (Nat × Instr × Nat × Nat) := [(0, .aload_n 0, 1, 0), (1, .getfield 21, 4, 0), (4, .iload_n 1, 5, 0), (5, .iaload, 6, 0), (6, .ifCond .ne 7, 9, 13), (9, .iconst 0, 10, 0), (10, .goto 13, 13, 23), (13, .iload_n 2, 14, 0), (14, .aload_n 0, 15, 0), (15, .getfield 27, 18, 0), (18, .iload_n 1, 19, 0), (19, .iaload, 20, 0), (20, .isub, 21, 0), (21, .iconst 1, 22, 0), (22, .iadd, 23, 0)]
theorem T0_wordIn_ok : (T0_wordIn).all (k_dck (k_cc Y0_wordIn)) = true := by decide +kernel
theorem d0_wordIn_23 : decode (k_cc Y0_wordIn) 23 = .ok (.ireturn, 1) := by decide +kernel
def Y0_slotsOnWithin : k_Y := (0, yX0_slotsOnWithin, cX0_slotsOnWithin, 6, (some .int), 1, 21, [])
def T0_slotsOnWithin : List (Nat × Instr × Nat × Nat) := [(0, .iload_n 2, 1, 0), (1, .aload_n 0, 2, 0), (2, .getfield 27, 5, 0), (5, .iload_n 1, 6, 0), (6, .iaload, 7, 0), (10, .istore 4, 12, 0), (12, .iload_n 3, 13, 0), (13, .aload_n 0, 14, 0), (14, .getfield 27, 17, 0), (17, .iload_n 1, 18, 0), (18, .iaload, 19, 0), (19, .aload_n 0, 20, 0), (20, .getfield 30, 23, 0), (23, .iload_n 1, 24, 0), (24, .iaload, 25, 0), (25, .iadd, 26, 0), (29, .istore 5, 31, 0), (31, .iconst 0, 32, 0), (32, .iload 5, 34, 0), (34, .iload 4, 36, 0), (36, .isub, 37, 0)]
theorem T0_slotsOnWithin_ok : (T0_slotsOnWithin).all (k_dck (k_cc Y0_slotsOnWithin)) = true := by decide +kernel
theorem d0_slotsOnWithin_7 : decode (k_cc Y0_slotsOnWithin) 7 = .ok (.invokestatic 47, 3) := by decide +kernel
theorem d0_slotsOnWithin_26 : decode (k_cc Y0_slotsOnWithin) 26 = .ok (.invokestatic 53, 3) := by decide +kernel
theorem d0_slotsOnWithin_37 : decode (k_cc Y0_slotsOnWithin) 37 = .ok (.invokestatic 47, 3) := by decide +kernel
theorem d0_slotsOnWithin_40 : decode (k_cc Y0_slotsOnWithin) 40 = .ok (.ireturn, 1) := by decide +kernel
def Y1_init : k_Y := (1, yX1_init, cX1_init, 2, none, 1, 20, [])
def T1_init : List (Nat × Instr × Nat × Nat) := [(0, .aload_n 0, 1, 0), (4, .aload_n 0, 5, 0), (5, .iload_n 1, 6, 0), (6, .putfield 7, 9, 0), (9, .aload_n 0, 10, 0), (10, .iload_n 1, 11, 0), (13, .putfield 13, 16, 0), (16, .aload_n 0, 17, 0), (17, .iload_n 1, 18, 0), (20, .putfield 17, 23, 0), (23, .aload_n 0, 24, 0), (24, .iload_n 1, 25, 0), (27, .putfield 20, 30, 0), (30, .aload_n 0, 31, 0), (31, .iload_n 1, 32, 0), (34, .putfield 23, 37, 0)]
theorem T1_init_ok : (T1_init).all (k_dck (k_cc Y1_init)) = true := by decide +kernel
theorem d1_init_1 : decode (k_cc Y1_init) 1 = .ok (.invokespecial 1, 3) := by decide +kernel
theorem d1_init_11 : decode (k_cc Y1_init) 11 = .ok (.newarray .int, 2) := by decide +kernel
theorem d1_init_18 : decode (k_cc Y1_init) 18 = .ok (.newarray .int, 2) := by decide +kernel
theorem d1_init_25 : decode (k_cc Y1_init) 25 = .ok (.newarray .int, 2) := by decide +kernel
theorem d1_init_32 : decode (k_cc Y1_init) 32 = .ok (.newarray .int, 2) := by decide +kernel
theorem d1_init_37 : decode (k_cc Y1_init) 37 = .ok (.return_, 1) := by decide +kernel
def Y1_isFull : k_Y := (1, yX1_isFull, cX1_isFull, 1, (some .boolean), 0, 0, [])
def T1_isFull : List (Nat × Instr × Nat × Nat) := [(0, .aload_n 0, 1, 0), (1, .getfield 26, 4, 0), (4, .aload_n 0, 5, 0), (5, .getfield 7, 8, 0), (8, .if_icmp .lt 7, 11, 15), (11, .iconst 1, 12, 0), (12, .goto 4, 15, 16), (15, .iconst 0, 16, 0)]
theorem T1_isFull_ok : (T1_isFull).all (k_dck (k_cc Y1_isFull)) = true := by decide +kernel
theorem d1_isFull_16 : decode (k_cc Y1_isFull) 16 = .ok (.ireturn, 1) := by decide +kernel
def Y1_add : k_Y := (1, yX1_add, cX1_add, 6, (some .int), 1, 24, [])
def T1_add : List (Nat × Instr × Nat × Nat) := [(0, .aload_n 0, 1, 0), (1, .getfield 26, 4, 0), (4, .istore 5, 6, 0), (6, .aload_n 0, 7, 0), (7, .dup, 8, 0), (8, .getfield 26, 11, 0), (11, .iconst 1, 12, 0), (12, .iadd, 13, 0), (13, .putfield 26, 16, 0), (16, .aload_n 0, 17, 0), (17, .getfield 20, 20, 0), (20, .iload 5, 22, 0), (22, .iload_n 3, 23, 0), (23, .iastore, 24, 0), (24, .aload_n 0, 25, 0), (25, .iload 5, 27, 0), (27, .iload_n 1, 28, 0), (28, .iload_n 2, 29, 0), (29, .iload 4, 31, 0), (34, .iload 5, 36, 0)]
theorem T1_add_ok : (T1_add).all (k_dck (k_cc Y1_add)) = true := by decide +kernel
theorem d1_add_7 : decode (k_cc Y1_add) 7 = .ok (.dup, 1) := by decide +kernel
theorem d1_add_31 : decode (k_cc Y1_add) 31 = .ok (.invokevirtual 29, 3) := by decide +kernel
theorem d1_add_36 : decode (k_cc Y1_add) 36 = .ok (.ireturn, 1) := by decide +kernel
def Y1_move : k_Y := (1, yX1_move, cX1_move, 5, none, 0, 0, [])
def T1_move : List (Nat × Instr × Nat × Nat) := [(0, .aload_n 0, 1, 0), (1, .getfield 13, 4, 0), (4, .iload_n 1, 5, 0), (5, .iload_n 2, 6, 0), (6, .iastore, 7, 0), (7, .aload_n 0, 8, 0), (8, .getfield 17, 11, 0), (11, .iload_n 1, 12, 0), (12, .iload_n 3, 13, 0), (13, .iastore, 14, 0), (14, .aload_n 0, 15, 0), (15, .getfield 23, 18, 0), (18, .iload_n 1, 19, 0), (19, .iload 4, 21, 0), (21, .iastore, 22, 0)]
theorem T1_move_ok : (T1_move).all (k_dck (k_cc Y1_move)) = true := by decide +kernel
theorem d1_move_22 : decode (k_cc Y1_move) 22 = .ok (.return_, 1) := by decide +kernel
def Y1_reaches : k_Y := (1, yX1_reaches, cX1_reaches, 6, (some .boolean), 0, 0, [])
def T1_reaches : List (Nat × Instr × Nat × Nat) := [(0, .aload_n 0, 1, 0), (1, .getfield 13, 4, 0), (4, .iload_n 1, 5, 0), (5, .iaload, 6, 0), (6, .aload_n 2, 7, 0), (7, .getfield 13, 10, 0), (10, .iload_n 3, 11, 0), (11, .iaload, 12, 0), (12, .isub, 13, 0), (13, .istore 4, 15, 0), (15, .aload_n 0, 16, 0), (16, .getfield 17, 19, 0), (19, .iload_n 1, 20, 0), (20, .iaload, 21, 0), (21, .aload_n 2, 22, 0), (22, .getfield 17, 25, 0), (25, .iload_n 3, 26, 0), (26, .iaload, 27, 0), (27, .isub, 28, 0), (28, .istore 5, 30, 0), (30, .iload 4, 32, 0), (32, .iload 4, 34, 0), (34, .imul, 35, 0), (35, .iload 5, 37, 0), (37, .iload 5, 39, 0), (39, .imul, 40, 0), (40, .iadd, 41, 0), (41, .aload_n 0, 42, 0), (42, .getfield 20, 45, 0), (45, .iload_n 1, 46, 0), (46, .iaload, 47, 0), (47, .aload_n 0, 48, 0), (48, .getfield 20, 51, 0), (51, .iload_n 1, 52, 0), (52, .iaload, 53, 0), (53, .imul, 54, 0), (54, .if_icmp .gt 7, 57, 61), (57, .iconst 1, 58, 0), (58, .goto 4, 61, 62), (61, .iconst 0, 62, 0)]
theorem T1_reaches_ok : (T1_reaches).all (k_dck (k_cc Y1_reaches)) = true := by decide +kernel
theorem d1_reaches_62 : decode (k_cc Y1_reaches) 62 = .ok (.ireturn, 1) := by decide +kernel
def Y2_init : k_Y := (2, yX2_init, cX2_init, 1, none, 2, 41, [])
def T2_init : List (Nat × Instr × Nat × Nat) := [(0, .aload_n 0, 1, 0), (4, .aload_n 0, 5, 0), (8, .dup, 9, 0), (9, .bipush 20, 11, 0), (14, .putfield 14, 17, 0), (17, .aload_n 0, 18, 0), (21, .dup, 22, 0), (22, .bipush 8, 24, 0), (27, .putfield 18, 30, 0), (30, .aload_n 0, 31, 0), (34, .dup, 35, 0), (35, .bipush 60, 37, 0), (40, .putfield 24, 43, 0), (43, .aload_n 0, 44, 0), (44, .sipush 1000, 47, 0), (49, .putfield 28, 52, 0), (52, .aload_n 0, 53, 0), (53, .bipush 6, 55, 0), (57, .putfield 32, 60, 0), (60, .aload_n 0, 61, 0), (61, .bipush 6, 63, 0), (65, .putfield 36, 68, 0), (68, .aload_n 0, 69, 0)]
theorem T2_init_ok : (T2_init).all (k_dck (k_cc Y2_init)) = true := by decide +kernel
theorem d2_init_1 : decode (k_cc Y2_init) 1 = .ok (.invokespecial 1, 3) := by decide +kernel
theorem d2_init_5 : decode (k_cc Y2_init) 5 = .ok (.new 7, 3) := by decide +kernel
theorem d2_init_8 : decode (k_cc Y2_init) 8 = .ok (.dup, 1) := by decide +kernel
theorem d2_init_11 : decode (k_cc Y2_init) 11 = .ok (.invokespecial 11, 3) := by decide +kernel
theorem d2_init_18 : decode (k_cc Y2_init) 18 = .ok (.new 7, 3) := by decide +kernel
theorem d2_init_21 : decode (k_cc Y2_init) 21 = .ok (.dup, 1) := by decide +kernel
theorem d2_init_24 : decode (k_cc Y2_init) 24 = .ok (.invokespecial 11, 3) := by decide +kernel
theorem d2_init_31 : decode (k_cc Y2_init) 31 = .ok (.new 21, 3) := by decide +kernel
theorem d2_init_34 : decode (k_cc Y2_init) 34 = .ok (.dup, 1) := by decide +kernel
theorem d2_init_37 : decode (k_cc Y2_init) 37 = .ok (.invokespecial 23, 3) := by decide +kernel
theorem d2_init_47 : decode (k_cc Y2_init) 47 = .ok (.newarray .boolean, 2) := by decide +kernel
theorem d2_init_55 : decode (k_cc Y2_init) 55 = .ok (.newarray .int, 2) := by decide +kernel
theorem d2_init_63 : decode (k_cc Y2_init) 63 = .ok (.newarray .int, 2) := by decide +kernel
theorem d2_init_69 : decode (k_cc Y2_init) 69 = .ok (.invokevirtual 39, 3) := by decide +kernel
theorem d2_init_72 : decode (k_cc Y2_init) 72 = .ok (.return_, 1) := by decide +kernel
def Y2_day : k_Y := (2, yX2_day, cX2_day, 2, none, 7, 103, [])
def T2_day : List (Nat × Instr × Nat × Nat) := [(0, .iload_n 1, 1, 0), (1, .sipush 1000, 4, 0), (4, .if_icmp .le 13, 7, 17), (10, .dup, 11, 0), (17, .iload_n 1, 18, 0), (18, .ifCond .ge 13, 21, 31), (24, .dup, 25, 0), (31, .aload_n 0, 32, 0), (35, .aload_n 0, 36, 0), (36, .iload_n 1, 37, 0), (37, .putfield 54, 40, 0)]
theorem T2_day_ok : (T2_day).all (k_dck (k_cc Y2_day)) = true := by decide +kernel
theorem d2_day_7 : decode (k_cc Y2_day) 7 = .ok (.new 42, 3) := by decide +kernel
theorem d2_day_10 : decode (k_cc Y2_day) 10 = .ok (.dup, 1) := by decide +kernel
theorem d2_day_11 : decode (k_cc Y2_day) 11 = .ok (.ldc 44, 2) := by decide +kernel
theorem d2_day_13 : decode (k_cc Y2_day) 13 = .ok (.invokespecial 46, 3) := by decide +kernel
theorem d2_day_16 : decode (k_cc Y2_day) 16 = .ok (.athrow, 1) := by decide +kernel
theorem d2_day_21 : decode (k_cc Y2_day) 21 = .ok (.new 49, 3) := by decide +kernel
theorem d2_day_24 : decode (k_cc Y2_day) 24 = .ok (.dup, 1) := by decide +kernel
theorem d2_day_25 : decode (k_cc Y2_day) 25 = .ok (.ldc 51, 2) := by decide +kernel
theorem d2_day_27 : decode (k_cc Y2_day) 27 = .ok (.invokespecial 53, 3) := by decide +kernel
theorem d2_day_30 : decode (k_cc Y2_day) 30 = .ok (.athrow, 1) := by decide +kernel
theorem d2_day_32 : decode (k_cc Y2_day) 32 = .ok (.invokevirtual 39, 3) := by decide +kernel
theorem d2_day_40 : decode (k_cc Y2_day) 40 = .ok (.return_, 1) := by decide +kernel
def Y2_unit : k_Y := (2, yX2_unit, cX2_unit, 5, (some .int), 9, 151, [])
def T2_unit : List (Nat × Instr × Nat × Nat) := [(0, .aload_n 0, 1, 0), (1, .aload_n 0, 2, 0), (2, .getfield 14, 5, 0), (5, .iload_n 1, 6, 0), (6, .iload_n 2, 7, 0), (7, .iload_n 3, 8, 0), (8, .iload 4, 10, 0)]
theorem T2_unit_ok : (T2_unit).all (k_dck (k_cc Y2_unit)) = true := by decide +kernel
theorem d2_unit_10 : decode (k_cc Y2_unit) 10 = .ok (.invokevirtual 58, 3) := by decide +kernel
theorem d2_unit_13 : decode (k_cc Y2_unit) 13 = .ok (.ireturn, 1) := by decide +kernel
def Y2_go : k_Y := (2, yX2_go, cX2_go, 5, none, 8, 126, [])
def T2_go : List (Nat × Instr × Nat × Nat) := [(0, .aload_n 0, 1, 0), (1, .iload_n 1, 2, 0), (5, .aload_n 0, 6, 0), (6, .iload_n 2, 7, 0), (7, .iload_n 3, 8, 0), (8, .iload 4, 10, 0), (13, .aload_n 0, 14, 0), (14, .getfield 14, 17, 0), (17, .iload_n 1, 18, 0), (18, .iload_n 2, 19, 0), (19, .iload_n 3, 20, 0), (20, .iload 4, 22, 0)]
theorem T2_go_ok : (T2_go).all (k_dck (k_cc Y2_go)) = true := by decide +kernel
theorem d2_go_2 : decode (k_cc Y2_go) 2 = .ok (.invokevirtual 62, 3) := by decide +kernel
theorem d2_go_10 : decode (k_cc Y2_go) 10 = .ok (.invokevirtual 65, 3) := by decide +kernel
theorem d2_go_22 : decode (k_cc Y2_go) 22 = .ok (.invokevirtual 69, 3) := by decide +kernel
theorem d2_go_25 : decode (k_cc Y2_go) 25 = .ok (.return_, 1) := by decide +kernel
def Y2_repeater : k_Y := (2, yX2_repeater, cX2_repeater, 5, (some .int), 9, 151, [])
def T2_repeater : List (Nat × Instr × Nat × Nat) := [(0, .aload_n 0, 1, 0), (1, .aload_n 0, 2, 0), (2, .getfield 18, 5, 0), (5, .iload_n 1, 6, 0), (6, .iload_n 2, 7, 0), (7, .iload_n 3, 8, 0), (8, .iload 4, 10, 0)]
theorem T2_repeater_ok : (T2_repeater).all (k_dck (k_cc Y2_repeater)) = true := by decide +kernel
theorem d2_repeater_10 : decode (k_cc Y2_repeater) 10 = .ok (.invokevirtual 58, 3) := by decide +kernel
theorem d2_repeater_13 : decode (k_cc Y2_repeater) 13 = .ok (.ireturn, 1) := by decide +kernel
def Y2_patch : k_Y := (2, yX2_patch, cX2_patch, 3, (some .boolean), 7, 113, [])
def T2_patch : List (Nat × Instr × Nat × Nat) := [(0, .aload_n 0, 1, 0), (1, .iload_n 1, 2, 0), (5, .ifCond .eq 11, 8, 16), (8, .aload_n 0, 9, 0), (9, .iload_n 2, 10, 0), (13, .ifCond .ne 13, 16, 26), (19, .dup, 20, 0), (26, .aload_n 0, 27, 0), (27, .iload_n 1, 28, 0), (28, .iload_n 2, 29, 0), (32, .ifCond .eq 5, 35, 37), (35, .iconst 0, 36, 0), (37, .aload_n 0, 38, 0), (38, .aload_n 0, 39, 0), (39, .getfield 32, 42, 0), (42, .iload_n 1, 43, 0), (43, .iaload, 44, 0), (44, .aload_n 0, 45, 0), (45, .getfield 32, 48, 0), (48, .iload_n 2, 49, 0), (49, .iaload, 50, 0), (53, .aload_n 0, 54, 0), (57, .iconst 1, 58, 0)]
theorem T2_patch_ok : (T2_patch).all (k_dck (k_cc Y2_patch)) = true := by decide +kernel
theorem d2_patch_2 : decode (k_cc Y2_patch) 2 = .ok (.invokevirtual 73, 3) := by decide +kernel
theorem d2_patch_10 : decode (k_cc Y2_patch) 10 = .ok (.invokevirtual 73, 3) := by decide +kernel
theorem d2_patch_16 : decode (k_cc Y2_patch) 16 = .ok (.new 77, 3) := by decide +kernel
theorem d2_patch_19 : decode (k_cc Y2_patch) 19 = .ok (.dup, 1) := by decide +kernel
theorem d2_patch_20 : decode (k_cc Y2_patch) 20 = .ok (.ldc 79, 2) := by decide +kernel
theorem d2_patch_22 : decode (k_cc Y2_patch) 22 = .ok (.invokespecial 81, 3) := by decide +kernel
theorem d2_patch_25 : decode (k_cc Y2_patch) 25 = .ok (.athrow, 1) := by decide +kernel
theorem d2_patch_29 : decode (k_cc Y2_patch) 29 = .ok (.invokevirtual 82, 3) := by decide +kernel
theorem d2_patch_36 : decode (k_cc Y2_patch) 36 = .ok (.ireturn, 1) := by decide +kernel
theorem d2_patch_50 : decode (k_cc Y2_patch) 50 = .ok (.invokevirtual 86, 3) := by decide +kernel
theorem d2_patch_54 : decode (k_cc Y2_patch) 54 = .ok (.invokevirtual 90, 3) := by decide +kernel
theorem d2_patch_58 : decode (k_cc Y2_patch) 58 = .ok (.ireturn, 1) := by decide +kernel
def Y2_limit : k_Y := (2, yX2_limit, cX2_limit, 2, none, 7, 113, [])
def T2_limit : List (Nat × Instr × Nat × Nat) := [(0, .iload_n 1, 1, 0), (1, .ifCond .lt 10, 4, 11), (4, .iload_n 1, 5, 0), (5, .sipush 1000, 8, 0), (8, .if_icmp .le 13, 11, 21), (14, .dup, 15, 0), (21, .aload_n 0, 22, 0), (22, .iload_n 1, 23, 0), (23, .putfield 95, 26, 0), (26, .aload_n 0, 27, 0)]
theorem T2_limit_ok : (T2_limit).all (k_dck (k_cc Y2_limit)) = true := by decide +kernel
theorem d2_limit_11 : decode (k_cc Y2_limit) 11 = .ok (.new 77, 3) := by decide +kernel
theorem d2_limit_14 : decode (k_cc Y2_limit) 14 = .ok (.dup, 1) := by decide +kernel
theorem d2_limit_15 : decode (k_cc Y2_limit) 15 = .ok (.ldc 93, 2) := by decide +kernel
theorem d2_limit_17 : decode (k_cc Y2_limit) 17 = .ok (.invokespecial 81, 3) := by decide +kernel
theorem d2_limit_20 : decode (k_cc Y2_limit) 20 = .ok (.athrow, 1) := by decide +kernel
theorem d2_limit_27 : decode (k_cc Y2_limit) 27 = .ok (.invokevirtual 90, 3) := by decide +kernel
theorem d2_limit_30 : decode (k_cc Y2_limit) 30 = .ok (.return_, 1) := by decide +kernel
def Y2_speak : k_Y := (2, yX2_speak, cX2_speak, 5, (some .int), 8, 138, [])
def T2_speak : List (Nat × Instr × Nat × Nat) := [(0, .aload_n 0, 1, 0), (1, .iload_n 1, 2, 0), (5, .aload_n 0, 6, 0), (6, .iload_n 2, 7, 0), (7, .iload 4, 9, 0), (12, .iload_n 3, 13, 0), (13, .ifCond .lt 9, 16, 22), (16, .iload_n 3, 17, 0), (17, .bipush 99, 19, 0), (19, .if_icmp .le 13, 22, 32), (25, .dup, 26, 0), (32, .aload_n 0, 33, 0), (33, .iload_n 1, 34, 0), (34, .iload_n 2, 35, 0), (38, .aload_n 0, 39, 0), (42, .aload_n 0, 43, 0), (43, .iload_n 1, 44, 0), (44, .iload_n 2, 45, 0), (45, .iload_n 3, 46, 0), (46, .iload 4, 48, 0)]
theorem T2_speak_ok : (T2_speak).all (k_dck (k_cc Y2_speak)) = true := by decide +kernel
theorem d2_speak_2 : decode (k_cc Y2_speak) 2 = .ok (.invokevirtual 62, 3) := by decide +kernel
theorem d2_speak_9 : decode (k_cc Y2_speak) 9 = .ok (.invokevirtual 98, 3) := by decide +kernel
theorem d2_speak_22 : decode (k_cc Y2_speak) 22 = .ok (.new 77, 3) := by decide +kernel
theorem d2_speak_25 : decode (k_cc Y2_speak) 25 = .ok (.dup, 1) := by decide +kernel
theorem d2_speak_26 : decode (k_cc Y2_speak) 26 = .ok (.ldc 101, 2) := by decide +kernel
theorem d2_speak_28 : decode (k_cc Y2_speak) 28 = .ok (.invokespecial 81, 3) := by decide +kernel
theorem d2_speak_31 : decode (k_cc Y2_speak) 31 = .ok (.athrow, 1) := by decide +kernel
theorem d2_speak_35 : decode (k_cc Y2_speak) 35 = .ok (.invokevirtual 103, 3) := by decide +kernel
theorem d2_speak_39 : decode (k_cc Y2_speak) 39 = .ok (.invokevirtual 106, 3) := by decide +kernel
theorem d2_speak_48 : decode (k_cc Y2_speak) 48 = .ok (.invokevirtual 109, 3) := by decide +kernel
theorem d2_speak_51 : decode (k_cc Y2_speak) 51 = .ok (.ireturn, 1) := by decide +kernel
def Y2_relay : k_Y := (2, yX2_relay, cX2_relay, 5, (some .int), 8, 138, [])
def T2_relay : List (Nat × Instr × Nat × Nat) := [(0, .aload_n 0, 1, 0), (1, .iload_n 1, 2, 0), (5, .aload_n 0, 6, 0), (6, .iload_n 2, 7, 0), (10, .aload_n 0, 11, 0), (11, .iload_n 3, 12, 0), (12, .iload 4, 14, 0), (17, .aload_n 0, 18, 0), (18, .iload_n 1, 19, 0), (19, .iload_n 3, 20, 0), (23, .aload_n 0, 24, 0), (24, .getfield 24, 27, 0), (27, .getfield 116, 30, 0), (30, .iload_n 2, 31, 0), (31, .iaload, 32, 0), (32, .ifCond .ne 12, 35, 44), (35, .aload_n 0, 36, 0), (36, .iload_n 1, 37, 0), (37, .iload_n 2, 38, 0), (41, .ifCond .ne 13, 44, 54), (47, .dup, 48, 0), (54, .aload_n 0, 55, 0), (58, .aload_n 0, 59, 0), (59, .iload_n 1, 60, 0), (60, .iload_n 3, 61, 0), (61, .aload_n 0, 62, 0), (62, .getfield 24, 65, 0), (65, .getfield 127, 68, 0), (68, .iload_n 2, 69, 0), (69, .iaload, 70, 0), (70, .iload 4, 72, 0)]
theorem T2_relay_ok : (T2_relay).all (k_dck (k_cc Y2_relay)) = true := by decide +kernel
theorem d2_relay_2 : decode (k_cc Y2_relay) 2 = .ok (.invokevirtual 62, 3) := by decide +kernel
theorem d2_relay_7 : decode (k_cc Y2_relay) 7 = .ok (.invokevirtual 113, 3) := by decide +kernel
theorem d2_relay_14 : decode (k_cc Y2_relay) 14 = .ok (.invokevirtual 98, 3) := by decide +kernel
theorem d2_relay_20 : decode (k_cc Y2_relay) 20 = .ok (.invokevirtual 103, 3) := by decide +kernel
theorem d2_relay_38 : decode (k_cc Y2_relay) 38 = .ok (.invokevirtual 119, 3) := by decide +kernel
theorem d2_relay_44 : decode (k_cc Y2_relay) 44 = .ok (.new 122, 3) := by decide +kernel
theorem d2_relay_47 : decode (k_cc Y2_relay) 47 = .ok (.dup, 1) := by decide +kernel
theorem d2_relay_48 : decode (k_cc Y2_relay) 48 = .ok (.ldc 124, 2) := by decide +kernel
theorem d2_relay_50 : decode (k_cc Y2_relay) 50 = .ok (.invokespecial 126, 3) := by decide +kernel
theorem d2_relay_53 : decode (k_cc Y2_relay) 53 = .ok (.athrow, 1) := by decide +kernel
theorem d2_relay_55 : decode (k_cc Y2_relay) 55 = .ok (.invokevirtual 106, 3) := by decide +kernel
theorem d2_relay_72 : decode (k_cc Y2_relay) 72 = .ok (.invokevirtual 109, 3) := by decide +kernel
theorem d2_relay_75 : decode (k_cc Y2_relay) 75 = .ok (.ireturn, 1) := by decide +kernel
def Y2_lose : k_Y := (2, yX2_lose, cX2_lose, 2, (some .boolean), 8, 124, [])
def T2_lose : List (Nat × Instr × Nat × Nat) := [(0, .aload_n 0, 1, 0), (1, .iload_n 1, 2, 0), (5, .aload_n 0, 6, 0), (6, .getfield 28, 9, 0), (9, .iload_n 1, 10, 0), (10, .aload_n 0, 11, 0), (11, .getfield 28, 14, 0), (14, .iload_n 1, 15, 0), (15, .baload, 16, 0), (16, .ifCond .ne 7, 19, 23), (19, .iconst 1, 20, 0), (20, .goto 4, 23, 24), (23, .iconst 0, 24, 0), (24, .bastore, 25, 0), (25, .aload_n 0, 26, 0), (26, .getfield 28, 29, 0), (29, .iload_n 1, 30, 0), (30, .baload, 31, 0)]
theorem T2_lose_ok : (T2_lose).all (k_dck (k_cc Y2_lose)) = true := by decide +kernel
theorem d2_lose_2 : decode (k_cc Y2_lose) 2 = .ok (.invokevirtual 130, 3) := by decide +kernel
theorem d2_lose_31 : decode (k_cc Y2_lose) 31 = .ok (.ireturn, 1) := by decide +kernel
def Y2_hears : k_Y := (2, yX2_hears, cX2_hears, 4, (some .int), 8, 124, [])
def T2_hears : List (Nat × Instr × Nat × Nat) := [(0, .aload_n 0, 1, 0), (1, .iload_n 1, 2, 0), (5, .aload_n 0, 6, 0), (6, .iload_n 2, 7, 0), (10, .aload_n 0, 11, 0), (11, .aload_n 0, 12, 0), (12, .getfield 14, 15, 0), (15, .getfield 133, 18, 0), (18, .iload_n 1, 19, 0), (19, .iaload, 20, 0), (20, .iload_n 2, 21, 0), (24, .istore_n 3, 25, 0), (25, .iload_n 3, 26, 0), (26, .iconst (-1), 27, 0), (27, .if_icmp .eq 21, 30, 48), (30, .aload_n 0, 31, 0), (31, .getfield 28, 34, 0), (34, .iload_n 2, 35, 0), (35, .baload, 36, 0), (36, .ifCond .ne 12, 39, 48), (39, .aload_n 0, 40, 0), (40, .iload_n 1, 41, 0), (41, .iload_n 3, 42, 0), (45, .ifCond .ne 5, 48, 50), (48, .iconst 0, 49, 0), (50, .bipush 100, 52, 0), (52, .iload_n 3, 53, 0), (53, .iconst 1, 54, 0), (54, .iadd, 55, 0), (55, .imul, 56, 0), (56, .aload_n 0, 57, 0), (57, .getfield 24, 60, 0), (60, .iload_n 3, 61, 0), (61, .iload_n 2, 62, 0), (65, .iadd, 66, 0)]
theorem T2_hears_ok : (T2_hears).all (k_dck (k_cc Y2_hears)) = true := by decide +kernel
theorem d2_hears_2 : decode (k_cc Y2_hears) 2 = .ok (.invokevirtual 62, 3) := by decide +kernel
theorem d2_hears_7 : decode (k_cc Y2_hears) 7 = .ok (.invokevirtual 130, 3) := by decide +kernel
theorem d2_hears_21 : decode (k_cc Y2_hears) 21 = .ok (.invokevirtual 136, 3) := by decide +kernel
theorem d2_hears_42 : decode (k_cc Y2_hears) 42 = .ok (.invokevirtual 140, 3) := by decide +kernel
theorem d2_hears_49 : decode (k_cc Y2_hears) 49 = .ok (.ireturn, 1) := by decide +kernel
theorem d2_hears_62 : decode (k_cc Y2_hears) 62 = .ok (.invokevirtual 143, 3) := by decide +kernel
theorem d2_hears_66 : decode (k_cc Y2_hears) 66 = .ok (.ireturn, 1) := by decide +kernel
end
section
def Y2_on : k_Y := (2, yX2_on, cX2_on, 3, (some .int), 8, 124, [])
def T2_on : List (Nat × Instr × Nat × Nat) := [(0, .aload_n 0, 1, 0), (1, .iload_n 1, 2, 0), (5, .aload_n 0, 6, 0), (6, .iload_n 2, 7, 0), (10, .aload_n 0, 11, 0), (11, .iload_n 1, 12, 0), (12, .iload_n 2, 13, 0)]
theorem T2_on_ok : (T2_on).all (k_dck (k_cc Y2_on)) = true := by decide +kernel
theorem d2_on_2 : decode (k_cc Y2_on) 2 = .ok (.invokevirtual 146, 3) := by decide +kernel
theorem d2_on_7 : decode (k_cc Y2_on) 7 = .ok (.invokevirtual 130, 3) := by decide +kernel
theorem d2_on_13 : decode (k_cc Y2_on) 13 = .ok (.invokevirtual 136, 3) := by decide +kernel
theorem d2_on_16 : decode (k_cc Y2_on) 16 = .ok (.ireturn, 1) := by decide +kernel
def Y2_ended : k_Y := (2, yX2_ended, cX2_ended, 2, (some .int), 8, 124, [])
def T2_ended : List (Nat × Instr × Nat × Nat) := [(0, .aload_n 0, 1, 0), (1, .iload_n 1, 2, 0), (5, .aload_n 0, 6, 0), (6, .getfield 24, 9, 0), (9, .getfield 116, 12, 0), (12, .iload_n 1, 13, 0), (13, .iaload, 14, 0)]
theorem T2_ended_ok : (T2_ended).all (k_dck (k_cc Y2_ended)) = true := by decide +kernel
theorem d2_ended_2 : decode (k_cc Y2_ended) 2 = .ok (.invokevirtual 113, 3) := by decide +kernel
theorem d2_ended_14 : decode (k_cc Y2_ended) 14 = .ok (.ireturn, 1) := by decide +kernel
def Y2_length : k_Y := (2, yX2_length, cX2_length, 2, (some .int), 8, 124, [])
def T2_length : List (Nat × Instr × Nat × Nat) := [(0, .aload_n 0, 1, 0), (1, .iload_n 1, 2, 0), (5, .aload_n 0, 6, 0), (6, .getfield 24, 9, 0), (9, .getfield 149, 12, 0), (12, .iload_n 1, 13, 0), (13, .iaload, 14, 0)]
theorem T2_length_ok : (T2_length).all (k_dck (k_cc Y2_length)) = true := by decide +kernel
theorem d2_length_2 : decode (k_cc Y2_length) 2 = .ok (.invokevirtual 113, 3) := by decide +kernel
theorem d2_length_14 : decode (k_cc Y2_length) 14 = .ok (.ireturn, 1) := by decide +kernel
def Y2_unheard : k_Y := (2, yX2_unheard, cX2_unheard, 5, (some .int), 8, 124, [])
def T2_unheard : List (Nat × Instr × Nat × Nat) := [(0, .aload_n 0, 1, 0), (1, .iload_n 1, 2, 0), (5, .iload_n 2, 6, 0), (6, .ifCond .ge 13, 9, 19), (12, .dup, 13, 0), (19, .iconst 0, 20, 0), (20, .istore_n 3, 21, 0), (21, .iconst 0, 22, 0), (22, .istore 4, 24, 0), (24, .iload 4, 26, 0), (26, .aload_n 0, 27, 0), (27, .getfield 14, 30, 0), (30, .getfield 154, 33, 0), (33, .if_icmp .ge 30, 36, 63), (36, .aload_n 0, 37, 0), (37, .iload 4, 39, 0), (39, .iload_n 1, 40, 0), (43, .ifCond .eq 14, 46, 57), (46, .iload_n 3, 47, 0), (47, .iload_n 2, 48, 0), (48, .if_icmp .ne 6, 51, 54), (51, .iload 4, 53, 0), (54, .iinc 3 1, 57, 0), (57, .iinc 4 1, 60, 0), (60, .goto (-36), 63, 24), (63, .iconst (-1), 64, 0)]
theorem T2_unheard_ok : (T2_unheard).all (k_dck (k_cc Y2_unheard)) = true := by decide +kernel
theorem d2_unheard_2 : decode (k_cc Y2_unheard) 2 = .ok (.invokevirtual 113, 3) := by decide +kernel
theorem d2_unheard_9 : decode (k_cc Y2_unheard) 9 = .ok (.new 77, 3) := by decide +kernel
theorem d2_unheard_12 : decode (k_cc Y2_unheard) 12 = .ok (.dup, 1) := by decide +kernel
theorem d2_unheard_13 : decode (k_cc Y2_unheard) 13 = .ok (.ldc 152, 2) := by decide +kernel
theorem d2_unheard_15 : decode (k_cc Y2_unheard) 15 = .ok (.invokespecial 81, 3) := by decide +kernel
theorem d2_unheard_18 : decode (k_cc Y2_unheard) 18 = .ok (.athrow, 1) := by decide +kernel
theorem d2_unheard_40 : decode (k_cc Y2_unheard) 40 = .ok (.invokevirtual 157, 3) := by decide +kernel
theorem d2_unheard_53 : decode (k_cc Y2_unheard) 53 = .ok (.ireturn, 1) := by decide +kernel
theorem d2_unheard_64 : decode (k_cc Y2_unheard) 64 = .ok (.ireturn, 1) := by decide +kernel
def Y2_used : k_Y := (2, yX2_used, cX2_used, 6, (some .int), 8, 124, [])
def T2_used : List (Nat × Instr × Nat × Nat) := [(0, .aload_n 0, 1, 0), (1, .iload_n 1, 2, 0), (5, .iload_n 2, 6, 0), (6, .ifCond .lt 16, 9, 22), (9, .iload_n 3, 10, 0), (10, .aload_n 0, 11, 0), (11, .getfield 54, 14, 0), (14, .if_icmp .gt 8, 17, 22), (17, .iload_n 3, 18, 0), (18, .iload_n 2, 19, 0), (19, .if_icmp .ge 13, 22, 32), (25, .dup, 26, 0), (32, .iconst 0, 33, 0), (33, .istore 4, 35, 0), (35, .iconst 0, 36, 0), (36, .istore 5, 38, 0), (38, .iload 5, 40, 0), (40, .aload_n 0, 41, 0), (41, .getfield 24, 44, 0), (44, .getfield 162, 47, 0), (47, .if_icmp .ge 43, 50, 90), (50, .aload_n 0, 51, 0), (51, .iload_n 1, 52, 0), (52, .aload_n 0, 53, 0), (53, .getfield 24, 56, 0), (56, .getfield 163, 59, 0), (59, .iload 5, 61, 0), (61, .iaload, 62, 0), (65, .ifCond .eq 19, 68, 84), (68, .iload 4, 70, 0), (70, .aload_n 0, 71, 0), (71, .getfield 24, 74, 0), (74, .iload 5, 76, 0), (76, .iload_n 2, 77, 0), (77, .iload_n 3, 78, 0), (81, .iadd, 82, 0), (82, .istore 4, 84, 0), (84, .iinc 5 1, 87, 0), (87, .goto (-49), 90, 38), (90, .iload 4, 92, 0)]
theorem T2_used_ok : (T2_used).all (k_dck (k_cc Y2_used)) = true := by decide +kernel
theorem d2_used_2 : decode (k_cc Y2_used) 2 = .ok (.invokevirtual 146, 3) := by decide +kernel
theorem d2_used_22 : decode (k_cc Y2_used) 22 = .ok (.new 77, 3) := by decide +kernel
theorem d2_used_25 : decode (k_cc Y2_used) 25 = .ok (.dup, 1) := by decide +kernel
theorem d2_used_26 : decode (k_cc Y2_used) 26 = .ok (.ldc 160, 2) := by decide +kernel
theorem d2_used_28 : decode (k_cc Y2_used) 28 = .ok (.invokespecial 81, 3) := by decide +kernel
theorem d2_used_31 : decode (k_cc Y2_used) 31 = .ok (.athrow, 1) := by decide +kernel
theorem d2_used_62 : decode (k_cc Y2_used) 62 = .ok (.invokevirtual 82, 3) := by decide +kernel
theorem d2_used_78 : decode (k_cc Y2_used) 78 = .ok (.invokevirtual 164, 3) := by decide +kernel
theorem d2_used_92 : decode (k_cc Y2_used) 92 = .ok (.ireturn, 1) := by decide +kernel
def Y2_forgetAll : k_Y := (2, yX2_forgetAll, cX2_forgetAll, 2, none, 0, 0, [])
def T2_forgetAll : List (Nat × Instr × Nat × Nat) := [(0, .aload_n 0, 1, 0), (1, .iconst 0, 2, 0), (2, .putfield 54, 5, 0), (5, .aload_n 0, 6, 0), (6, .iconst 0, 7, 0), (7, .putfield 95, 10, 0), (10, .aload_n 0, 11, 0), (11, .getfield 14, 14, 0), (14, .iconst 0, 15, 0), (15, .putfield 154, 18, 0), (18, .aload_n 0, 19, 0), (19, .getfield 18, 22, 0), (22, .iconst 0, 23, 0), (23, .putfield 154, 26, 0), (26, .aload_n 0, 27, 0), (27, .getfield 24, 30, 0), (30, .iconst 0, 31, 0), (31, .putfield 162, 34, 0), (34, .iconst 0, 35, 0), (35, .istore_n 1, 36, 0), (36, .iload_n 1, 37, 0), (37, .sipush 1000, 40, 0), (40, .if_icmp .ge 16, 43, 56), (43, .aload_n 0, 44, 0), (44, .getfield 28, 47, 0), (47, .iload_n 1, 48, 0), (48, .iconst 0, 49, 0), (49, .bastore, 50, 0), (50, .iinc 1 1, 53, 0), (53, .goto (-17), 56, 36), (56, .iconst 0, 57, 0), (57, .istore_n 1, 58, 0), (58, .iload_n 1, 59, 0), (59, .bipush 6, 61, 0), (61, .if_icmp .ge 16, 64, 77), (64, .aload_n 0, 65, 0), (65, .getfield 32, 68, 0), (68, .iload_n 1, 69, 0), (69, .iload_n 1, 70, 0), (70, .iastore, 71, 0), (71, .iinc 1 1, 74, 0), (74, .goto (-16), 77, 58)]
theorem T2_forgetAll_ok : (T2_forgetAll).all (k_dck (k_cc Y2_forgetAll)) = true := by decide +kernel
theorem d2_forgetAll_77 : decode (k_cc Y2_forgetAll) 77 = .ok (.return_, 1) := by decide +kernel
def Y2_needUnit : k_Y := (2, yX2_needUnit, cX2_needUnit, 2, none, 7, 103, [])
def T2_needUnit : List (Nat × Instr × Nat × Nat) := [(0, .iload_n 1, 1, 0), (1, .ifCond .lt 14, 4, 15), (4, .iload_n 1, 5, 0), (5, .aload_n 0, 6, 0), (6, .getfield 14, 9, 0), (9, .getfield 154, 12, 0), (12, .if_icmp .lt 13, 15, 25), (18, .dup, 19, 0)]
theorem T2_needUnit_ok : (T2_needUnit).all (k_dck (k_cc Y2_needUnit)) = true := by decide +kernel
theorem d2_needUnit_15 : decode (k_cc Y2_needUnit) 15 = .ok (.new 42, 3) := by decide +kernel
theorem d2_needUnit_18 : decode (k_cc Y2_needUnit) 18 = .ok (.dup, 1) := by decide +kernel
theorem d2_needUnit_19 : decode (k_cc Y2_needUnit) 19 = .ok (.ldc 168, 2) := by decide +kernel
theorem d2_needUnit_21 : decode (k_cc Y2_needUnit) 21 = .ok (.invokespecial 46, 3) := by decide +kernel
theorem d2_needUnit_24 : decode (k_cc Y2_needUnit) 24 = .ok (.athrow, 1) := by decide +kernel
theorem d2_needUnit_25 : decode (k_cc Y2_needUnit) 25 = .ok (.return_, 1) := by decide +kernel
def Y2_needMessage : k_Y := (2, yX2_needMessage, cX2_needMessage, 2, none, 7, 103, [])
def T2_needMessage : List (Nat × Instr × Nat × Nat) := [(0, .iload_n 1, 1, 0), (1, .ifCond .lt 14, 4, 15), (4, .iload_n 1, 5, 0), (5, .aload_n 0, 6, 0), (6, .getfield 24, 9, 0), (9, .getfield 162, 12, 0), (12, .if_icmp .lt 13, 15, 25), (18, .dup, 19, 0)]
theorem T2_needMessage_ok : (T2_needMessage).all (k_dck (k_cc Y2_needMessage)) = true := by decide +kernel
theorem d2_needMessage_15 : decode (k_cc Y2_needMessage) 15 = .ok (.new 42, 3) := by decide +kernel
theorem d2_needMessage_18 : decode (k_cc Y2_needMessage) 18 = .ok (.dup, 1) := by decide +kernel
theorem d2_needMessage_19 : decode (k_cc Y2_needMessage) 19 = .ok (.ldc 170, 2) := by decide +kernel
theorem d2_needMessage_21 : decode (k_cc Y2_needMessage) 21 = .ok (.invokespecial 46, 3) := by decide +kernel
theorem d2_needMessage_24 : decode (k_cc Y2_needMessage) 24 = .ok (.athrow, 1) := by decide +kernel
theorem d2_needMessage_25 : decode (k_cc Y2_needMessage) 25 = .ok (.return_, 1) := by decide +kernel
def Y2_needChannel : k_Y := (2, yX2_needChannel, cX2_needChannel, 2, none, 7, 103, [])
def T2_needChannel : List (Nat × Instr × Nat × Nat) := [(0, .aload_n 0, 1, 0), (1, .iload_n 1, 2, 0), (5, .ifCond .ne 13, 8, 18), (11, .dup, 12, 0)]
theorem T2_needChannel_ok : (T2_needChannel).all (k_dck (k_cc Y2_needChannel)) = true := by decide +kernel
theorem d2_needChannel_2 : decode (k_cc Y2_needChannel) 2 = .ok (.invokevirtual 73, 3) := by decide +kernel
theorem d2_needChannel_8 : decode (k_cc Y2_needChannel) 8 = .ok (.new 42, 3) := by decide +kernel
theorem d2_needChannel_11 : decode (k_cc Y2_needChannel) 11 = .ok (.dup, 1) := by decide +kernel
theorem d2_needChannel_12 : decode (k_cc Y2_needChannel) 12 = .ok (.ldc 172, 2) := by decide +kernel
theorem d2_needChannel_14 : decode (k_cc Y2_needChannel) 14 = .ok (.invokespecial 46, 3) := by decide +kernel
theorem d2_needChannel_17 : decode (k_cc Y2_needChannel) 17 = .ok (.athrow, 1) := by decide +kernel
theorem d2_needChannel_18 : decode (k_cc Y2_needChannel) 18 = .ok (.return_, 1) := by decide +kernel
def Y2_needSlot : k_Y := (2, yX2_needSlot, cX2_needSlot, 2, none, 7, 103, [])
def T2_needSlot : List (Nat × Instr × Nat × Nat) := [(0, .aload_n 0, 1, 0), (1, .iload_n 1, 2, 0), (5, .ifCond .ne 13, 8, 18), (11, .dup, 12, 0)]
theorem T2_needSlot_ok : (T2_needSlot).all (k_dck (k_cc Y2_needSlot)) = true := by decide +kernel
theorem d2_needSlot_2 : decode (k_cc Y2_needSlot) 2 = .ok (.invokevirtual 174, 3) := by decide +kernel
theorem d2_needSlot_8 : decode (k_cc Y2_needSlot) 8 = .ok (.new 177, 3) := by decide +kernel
theorem d2_needSlot_11 : decode (k_cc Y2_needSlot) 11 = .ok (.dup, 1) := by decide +kernel
theorem d2_needSlot_12 : decode (k_cc Y2_needSlot) 12 = .ok (.ldc 179, 2) := by decide +kernel
theorem d2_needSlot_14 : decode (k_cc Y2_needSlot) 14 = .ok (.invokespecial 181, 3) := by decide +kernel
theorem d2_needSlot_17 : decode (k_cc Y2_needSlot) 17 = .ok (.athrow, 1) := by decide +kernel
theorem d2_needSlot_18 : decode (k_cc Y2_needSlot) 18 = .ok (.return_, 1) := by decide +kernel
def Y2_needPlace : k_Y := (2, yX2_needPlace, cX2_needPlace, 4, none, 7, 103, [])
def T2_needPlace : List (Nat × Instr × Nat × Nat) := [(0, .iload_n 1, 1, 0), (1, .ifCond .lt 21, 4, 22), (4, .iload_n 1, 5, 0), (5, .sipush 9999, 8, 0), (8, .if_icmp .gt 14, 11, 22), (11, .iload_n 2, 12, 0), (12, .ifCond .lt 10, 15, 22), (15, .iload_n 2, 16, 0), (16, .sipush 9999, 19, 0), (19, .if_icmp .le 13, 22, 32), (25, .dup, 26, 0), (32, .aload_n 0, 33, 0), (33, .iload_n 3, 34, 0), (37, .ifCond .ne 13, 40, 50), (43, .dup, 44, 0)]
theorem T2_needPlace_ok : (T2_needPlace).all (k_dck (k_cc Y2_needPlace)) = true := by decide +kernel
theorem d2_needPlace_22 : decode (k_cc Y2_needPlace) 22 = .ok (.new 77, 3) := by decide +kernel
theorem d2_needPlace_25 : decode (k_cc Y2_needPlace) 25 = .ok (.dup, 1) := by decide +kernel
theorem d2_needPlace_26 : decode (k_cc Y2_needPlace) 26 = .ok (.ldc 182, 2) := by decide +kernel
theorem d2_needPlace_28 : decode (k_cc Y2_needPlace) 28 = .ok (.invokespecial 81, 3) := by decide +kernel
theorem d2_needPlace_31 : decode (k_cc Y2_needPlace) 31 = .ok (.athrow, 1) := by decide +kernel
theorem d2_needPlace_34 : decode (k_cc Y2_needPlace) 34 = .ok (.invokevirtual 73, 3) := by decide +kernel
theorem d2_needPlace_40 : decode (k_cc Y2_needPlace) 40 = .ok (.new 77, 3) := by decide +kernel
theorem d2_needPlace_43 : decode (k_cc Y2_needPlace) 43 = .ok (.dup, 1) := by decide +kernel
theorem d2_needPlace_44 : decode (k_cc Y2_needPlace) 44 = .ok (.ldc 184, 2) := by decide +kernel
theorem d2_needPlace_46 : decode (k_cc Y2_needPlace) 46 = .ok (.invokespecial 81, 3) := by decide +kernel
theorem d2_needPlace_49 : decode (k_cc Y2_needPlace) 49 = .ok (.athrow, 1) := by decide +kernel
theorem d2_needPlace_50 : decode (k_cc Y2_needPlace) 50 = .ok (.return_, 1) := by decide +kernel
def Y2_needBegin : k_Y := (2, yX2_needBegin, cX2_needBegin, 3, none, 7, 103, [])
def T2_needBegin : List (Nat × Instr × Nat × Nat) := [(0, .aload_n 0, 1, 0), (1, .iload_n 1, 2, 0), (5, .ifCond .ne 13, 8, 18), (11, .dup, 12, 0), (18, .iload_n 2, 19, 0), (19, .ifCond .lt 9, 22, 28), (22, .iload_n 2, 23, 0), (23, .bipush 9, 25, 0), (25, .if_icmp .le 13, 28, 38), (31, .dup, 32, 0)]
theorem T2_needBegin_ok : (T2_needBegin).all (k_dck (k_cc Y2_needBegin)) = true := by decide +kernel
theorem d2_needBegin_2 : decode (k_cc Y2_needBegin) 2 = .ok (.invokevirtual 174, 3) := by decide +kernel
theorem d2_needBegin_8 : decode (k_cc Y2_needBegin) 8 = .ok (.new 77, 3) := by decide +kernel
theorem d2_needBegin_11 : decode (k_cc Y2_needBegin) 11 = .ok (.dup, 1) := by decide +kernel
theorem d2_needBegin_12 : decode (k_cc Y2_needBegin) 12 = .ok (.ldc 186, 2) := by decide +kernel
theorem d2_needBegin_14 : decode (k_cc Y2_needBegin) 14 = .ok (.invokespecial 81, 3) := by decide +kernel
theorem d2_needBegin_17 : decode (k_cc Y2_needBegin) 17 = .ok (.athrow, 1) := by decide +kernel
theorem d2_needBegin_28 : decode (k_cc Y2_needBegin) 28 = .ok (.new 77, 3) := by decide +kernel
theorem d2_needBegin_31 : decode (k_cc Y2_needBegin) 31 = .ok (.dup, 1) := by decide +kernel
theorem d2_needBegin_32 : decode (k_cc Y2_needBegin) 32 = .ok (.ldc 188, 2) := by decide +kernel
theorem d2_needBegin_34 : decode (k_cc Y2_needBegin) 34 = .ok (.invokespecial 81, 3) := by decide +kernel
theorem d2_needBegin_37 : decode (k_cc Y2_needBegin) 37 = .ok (.athrow, 1) := by decide +kernel
theorem d2_needBegin_38 : decode (k_cc Y2_needBegin) 38 = .ok (.return_, 1) := by decide +kernel
def Y2_needFreeBegin : k_Y := (2, yX2_needFreeBegin, cX2_needFreeBegin, 3, none, 7, 103, [])
def T2_needFreeBegin : List (Nat × Instr × Nat × Nat) := [(0, .aload_n 0, 1, 0), (1, .getfield 24, 4, 0), (4, .iload_n 1, 5, 0), (5, .iload_n 2, 6, 0), (9, .ifCond .eq 13, 12, 22), (15, .dup, 16, 0)]
theorem T2_needFreeBegin_ok : (T2_needFreeBegin).all (k_dck (k_cc Y2_needFreeBegin)) = true := by decide +kernel
theorem d2_needFreeBegin_6 : decode (k_cc Y2_needFreeBegin) 6 = .ok (.invokevirtual 190, 3) := by decide +kernel
theorem d2_needFreeBegin_12 : decode (k_cc Y2_needFreeBegin) 12 = .ok (.new 122, 3) := by decide +kernel
theorem d2_needFreeBegin_15 : decode (k_cc Y2_needFreeBegin) 15 = .ok (.dup, 1) := by decide +kernel
theorem d2_needFreeBegin_16 : decode (k_cc Y2_needFreeBegin) 16 = .ok (.ldc 193, 2) := by decide +kernel
theorem d2_needFreeBegin_18 : decode (k_cc Y2_needFreeBegin) 18 = .ok (.invokespecial 126, 3) := by decide +kernel
theorem d2_needFreeBegin_21 : decode (k_cc Y2_needFreeBegin) 21 = .ok (.athrow, 1) := by decide +kernel
theorem d2_needFreeBegin_22 : decode (k_cc Y2_needFreeBegin) 22 = .ok (.return_, 1) := by decide +kernel
def Y2_needRoomForMessage : k_Y := (2, yX2_needRoomForMessage, cX2_needRoomForMessage, 1, none, 7, 103, [])
def T2_needRoomForMessage : List (Nat × Instr × Nat × Nat) := [(0, .aload_n 0, 1, 0), (1, .getfield 24, 4, 0), (4, .getfield 162, 7, 0), (7, .bipush 60, 9, 0), (9, .if_icmp .lt 13, 12, 22), (15, .dup, 16, 0)]
theorem T2_needRoomForMessage_ok : (T2_needRoomForMessage).all (k_dck (k_cc Y2_needRoomForMessage)) = true := by decide +kernel
theorem d2_needRoomForMessage_12 : decode (k_cc Y2_needRoomForMessage) 12 = .ok (.new 195, 3) := by decide +kernel
theorem d2_needRoomForMessage_15 : decode (k_cc Y2_needRoomForMessage) 15 = .ok (.dup, 1) := by decide +kernel
theorem d2_needRoomForMessage_16 : decode (k_cc Y2_needRoomForMessage) 16 = .ok (.ldc 197, 2) := by decide +kernel
theorem d2_needRoomForMessage_18 : decode (k_cc Y2_needRoomForMessage) 18 = .ok (.invokespecial 199, 3) := by decide +kernel
theorem d2_needRoomForMessage_21 : decode (k_cc Y2_needRoomForMessage) 21 = .ok (.athrow, 1) := by decide +kernel
theorem d2_needRoomForMessage_22 : decode (k_cc Y2_needRoomForMessage) 22 = .ok (.return_, 1) := by decide +kernel
def Y2_isChannel : k_Y := (2, yX2_isChannel, cX2_isChannel, 2, (some .boolean), 0, 0, [])
def T2_isChannel : List (Nat × Instr × Nat × Nat) := [(0, .iload_n 1, 1, 0), (1, .ifCond .lt 13, 4, 14), (4, .iload_n 1, 5, 0), (5, .bipush 6, 7, 0), (7, .if_icmp .ge 7, 10, 14), (10, .iconst 1, 11, 0), (11, .goto 4, 14, 15), (14, .iconst 0, 15, 0)]
theorem T2_isChannel_ok : (T2_isChannel).all (k_dck (k_cc Y2_isChannel)) = true := by decide +kernel
theorem d2_isChannel_15 : decode (k_cc Y2_isChannel) 15 = .ok (.ireturn, 1) := by decide +kernel
def Y2_isSlot : k_Y := (2, yX2_isSlot, cX2_isSlot, 2, (some .boolean), 0, 0, [])
def T2_isSlot : List (Nat × Instr × Nat × Nat) := [(0, .iload_n 1, 1, 0), (1, .ifCond .lt 15, 4, 16), (4, .iload_n 1, 5, 0), (5, .aload_n 0, 6, 0), (6, .getfield 54, 9, 0), (9, .if_icmp .ge 7, 12, 16), (12, .iconst 1, 13, 0), (13, .goto 4, 16, 17), (16, .iconst 0, 17, 0)]
theorem T2_isSlot_ok : (T2_isSlot).all (k_dck (k_cc Y2_isSlot)) = true := by decide +kernel
theorem d2_isSlot_17 : decode (k_cc Y2_isSlot) 17 = .ok (.ireturn, 1) := by decide +kernel
def Y2_areJoined : k_Y := (2, yX2_areJoined, cX2_areJoined, 3, (some .boolean), 0, 0, [])
def T2_areJoined : List (Nat × Instr × Nat × Nat) := [(0, .aload_n 0, 1, 0), (1, .getfield 32, 4, 0), (4, .iload_n 1, 5, 0), (5, .iaload, 6, 0), (6, .aload_n 0, 7, 0), (7, .getfield 32, 10, 0), (10, .iload_n 2, 11, 0), (11, .iaload, 12, 0), (12, .if_icmp .ne 7, 15, 19), (15, .iconst 1, 16, 0), (16, .goto 4, 19, 20), (19, .iconst 0, 20, 0)]
theorem T2_areJoined_ok : (T2_areJoined).all (k_dck (k_cc Y2_areJoined)) = true := by decide +kernel
theorem d2_areJoined_20 : decode (k_cc Y2_areJoined) 20 = .ok (.ireturn, 1) := by decide +kernel
def Y2_joinGroups : k_Y := (2, yX2_joinGroups, cX2_joinGroups, 4, none, 0, 0, [])
def T2_joinGroups : List (Nat × Instr × Nat × Nat) := [(0, .iconst 0, 1, 0), (1, .istore_n 3, 2, 0), (2, .iload_n 3, 3, 0), (3, .bipush 6, 5, 0), (5, .if_icmp .ge 26, 8, 31), (8, .aload_n 0, 9, 0), (9, .getfield 32, 12, 0), (12, .iload_n 3, 13, 0), (13, .iaload, 14, 0), (14, .iload_n 2, 15, 0), (15, .if_icmp .ne 10, 18, 25), (18, .aload_n 0, 19, 0), (19, .getfield 32, 22, 0), (22, .iload_n 3, 23, 0), (23, .iload_n 1, 24, 0), (24, .iastore, 25, 0), (25, .iinc 3 1, 28, 0), (28, .goto (-26), 31, 2)]
theorem T2_joinGroups_ok : (T2_joinGroups).all (k_dck (k_cc Y2_joinGroups)) = true := by decide +kernel
theorem d2_joinGroups_31 : decode (k_cc Y2_joinGroups) 31 = .ok (.return_, 1) := by decide +kernel
def Y2_place : k_Y := (2, yX2_place, cX2_place, 6, (some .int), 8, 126, [])
def T2_place : List (Nat × Instr × Nat × Nat) := [(0, .aload_n 0, 1, 0), (1, .iload_n 2, 2, 0), (2, .iload_n 3, 3, 0), (3, .iload 5, 5, 0), (8, .iload 4, 10, 0), (10, .ifCond .lt 11, 13, 21), (13, .iload 4, 15, 0), (15, .sipush 9999, 18, 0), (18, .if_icmp .le 13, 21, 31), (24, .dup, 25, 0), (31, .aload_n 1, 32, 0), (35, .ifCond .eq 13, 38, 48), (41, .dup, 42, 0), (48, .aload_n 1, 49, 0), (49, .iload_n 2, 50, 0), (50, .iload_n 3, 51, 0), (51, .iload 4, 53, 0), (53, .iload 5, 55, 0)]
theorem T2_place_ok : (T2_place).all (k_dck (k_cc Y2_place)) = true := by decide +kernel
theorem d2_place_5 : decode (k_cc Y2_place) 5 = .ok (.invokevirtual 65, 3) := by decide +kernel
theorem d2_place_21 : decode (k_cc Y2_place) 21 = .ok (.new 77, 3) := by decide +kernel
theorem d2_place_24 : decode (k_cc Y2_place) 24 = .ok (.dup, 1) := by decide +kernel
theorem d2_place_25 : decode (k_cc Y2_place) 25 = .ok (.ldc 200, 2) := by decide +kernel
theorem d2_place_27 : decode (k_cc Y2_place) 27 = .ok (.invokespecial 81, 3) := by decide +kernel
theorem d2_place_30 : decode (k_cc Y2_place) 30 = .ok (.athrow, 1) := by decide +kernel
theorem d2_place_32 : decode (k_cc Y2_place) 32 = .ok (.invokevirtual 202, 3) := by decide +kernel
theorem d2_place_38 : decode (k_cc Y2_place) 38 = .ok (.new 195, 3) := by decide +kernel
theorem d2_place_41 : decode (k_cc Y2_place) 41 = .ok (.dup, 1) := by decide +kernel
theorem d2_place_42 : decode (k_cc Y2_place) 42 = .ok (.ldc 206, 2) := by decide +kernel
theorem d2_place_44 : decode (k_cc Y2_place) 44 = .ok (.invokespecial 199, 3) := by decide +kernel
theorem d2_place_47 : decode (k_cc Y2_place) 47 = .ok (.athrow, 1) := by decide +kernel
theorem d2_place_55 : decode (k_cc Y2_place) 55 = .ok (.invokevirtual 208, 3) := by decide +kernel
theorem d2_place_58 : decode (k_cc Y2_place) 58 = .ok (.ireturn, 1) := by decide +kernel
def Y2_tell : k_Y := (2, yX2_tell, cX2_tell, 6, (some .int), 5, 113, [])
def T2_tell : List (Nat × Instr × Nat × Nat) := [(0, .aload_n 0, 1, 0), (1, .getfield 24, 4, 0), (4, .iload_n 1, 5, 0), (5, .aload_n 0, 6, 0), (6, .getfield 14, 9, 0), (9, .getfield 133, 12, 0), (12, .iload_n 1, 13, 0), (13, .iaload, 14, 0), (14, .iload_n 2, 15, 0), (15, .iload_n 3, 16, 0), (16, .iload 4, 18, 0), (21, .istore 5, 23, 0), (23, .aload_n 0, 24, 0), (27, .iload 5, 29, 0)]
theorem T2_tell_ok : (T2_tell).all (k_dck (k_cc Y2_tell)) = true := by decide +kernel
theorem d2_tell_18 : decode (k_cc Y2_tell) 18 = .ok (.invokevirtual 211, 3) := by decide +kernel
theorem d2_tell_24 : decode (k_cc Y2_tell) 24 = .ok (.invokevirtual 90, 3) := by decide +kernel
theorem d2_tell_29 : decode (k_cc Y2_tell) 29 = .ok (.ireturn, 1) := by decide +kernel
def Y2_planAll : k_Y := (2, yX2_planAll, cX2_planAll, 2, none, 4, 92, [])
def T2_planAll : List (Nat × Instr × Nat × Nat) := [(0, .aload_n 0, 1, 0), (1, .getfield 36, 4, 0), (4, .iconst (-1), 5, 0), (8, .iconst 0, 9, 0), (9, .istore_n 1, 10, 0), (10, .iload_n 1, 11, 0), (11, .aload_n 0, 12, 0), (12, .getfield 24, 15, 0), (15, .getfield 162, 18, 0), (18, .if_icmp .ge 14, 21, 32), (21, .aload_n 0, 22, 0), (22, .iload_n 1, 23, 0), (26, .iinc 1 1, 29, 0), (29, .goto (-19), 32, 10)]
theorem T2_planAll_ok : (T2_planAll).all (k_dck (k_cc Y2_planAll)) = true := by decide +kernel
theorem d2_planAll_5 : decode (k_cc Y2_planAll) 5 = .ok (.invokestatic 214, 3) := by decide +kernel
theorem d2_planAll_23 : decode (k_cc Y2_planAll) 23 = .ok (.invokevirtual 220, 3) := by decide +kernel
theorem d2_planAll_32 : decode (k_cc Y2_planAll) 32 = .ok (.return_, 1) := by decide +kernel
def Y2_plan : k_Y := (2, yX2_plan, cX2_plan, 5, none, 3, 68, [])
def T2_plan : List (Nat × Instr × Nat × Nat) := [(0, .aload_n 0, 1, 0), (1, .getfield 24, 4, 0), (4, .getfield 223, 7, 0), (7, .iload_n 1, 8, 0), (8, .iaload, 9, 0), (9, .istore_n 2, 10, 0), (10, .aload_n 0, 11, 0), (11, .getfield 24, 14, 0), (14, .getfield 226, 17, 0), (17, .iload_n 2, 18, 0), (18, .iaload, 19, 0), (19, .istore_n 3, 20, 0), (20, .aload_n 0, 21, 0), (21, .getfield 36, 24, 0), (24, .aload_n 0, 25, 0), (25, .getfield 32, 28, 0), (28, .aload_n 0, 29, 0), (29, .getfield 24, 32, 0), (32, .getfield 163, 35, 0), (35, .iload_n 2, 36, 0), (36, .iaload, 37, 0), (37, .iaload, 38, 0), (38, .iaload, 39, 0), (39, .istore 4, 41, 0), (41, .aload_n 0, 42, 0), (42, .iload_n 1, 43, 0), (46, .ifCond .eq 14, 49, 60), (49, .aload_n 0, 50, 0), (50, .getfield 24, 53, 0), (53, .iload_n 2, 54, 0), (57, .goto 82, 60, 139), (60, .iload 4, 62, 0), (62, .iconst (-1), 63, 0), (63, .if_icmp .eq 16, 66, 79), (66, .aload_n 0, 67, 0), (67, .getfield 24, 70, 0), (70, .iload 4, 72, 0), (72, .iload_n 3, 73, 0), (76, .ifCond .ne 12, 79, 88), (79, .aload_n 0, 80, 0), (80, .iload_n 2, 81, 0), (81, .iload_n 3, 82, 0), (85, .goto 54, 88, 139), (88, .aload_n 0, 89, 0), (89, .getfield 24, 92, 0), (92, .getfield 241, 95, 0), (95, .iload 4, 97, 0), (97, .iaload, 98, 0), (98, .aload_n 0, 99, 0), (99, .getfield 24, 102, 0), (102, .getfield 241, 105, 0), (105, .iload_n 2, 106, 0), (106, .iaload, 107, 0), (107, .if_icmp .ge 24, 110, 131), (110, .aload_n 0, 111, 0), (111, .getfield 24, 114, 0), (114, .iload 4, 116, 0), (116, .iload_n 3, 117, 0), (120, .aload_n 0, 121, 0), (121, .iload_n 2, 122, 0), (122, .iload_n 3, 123, 0), (123, .iconst 1, 124, 0), (124, .iadd, 125, 0), (128, .goto 11, 131, 139), (131, .aload_n 0, 132, 0), (132, .getfield 24, 135, 0), (135, .iload_n 2, 136, 0)]
theorem T2_plan_ok : (T2_plan).all (k_dck (k_cc Y2_plan)) = true := by decide +kernel
theorem d2_plan_43 : decode (k_cc Y2_plan) 43 = .ok (.invokevirtual 229, 3) := by decide +kernel
theorem d2_plan_54 : decode (k_cc Y2_plan) 54 = .ok (.invokevirtual 232, 3) := by decide +kernel
theorem d2_plan_73 : decode (k_cc Y2_plan) 73 = .ok (.invokevirtual 235, 3) := by decide +kernel
theorem d2_plan_82 : decode (k_cc Y2_plan) 82 = .ok (.invokevirtual 238, 3) := by decide +kernel
theorem d2_plan_117 : decode (k_cc Y2_plan) 117 = .ok (.invokevirtual 244, 3) := by decide +kernel
theorem d2_plan_125 : decode (k_cc Y2_plan) 125 = .ok (.invokevirtual 238, 3) := by decide +kernel
theorem d2_plan_136 : decode (k_cc Y2_plan) 136 = .ok (.invokevirtual 232, 3) := by decide +kernel
theorem d2_plan_139 : decode (k_cc Y2_plan) 139 = .ok (.return_, 1) := by decide +kernel
def Y2_meetsItsBetter : k_Y := (2, yX2_meetsItsBetter, cX2_meetsItsBetter, 5, (some .boolean), 2, 44, [])
def T2_meetsItsBetter : List (Nat × Instr × Nat × Nat) := [(0, .aload_n 0, 1, 0), (1, .getfield 24, 4, 0), (4, .getfield 223, 7, 0), (7, .iload_n 1, 8, 0), (8, .iaload, 9, 0), (9, .istore_n 2, 10, 0), (10, .iconst 0, 11, 0), (11, .istore_n 3, 12, 0), (12, .iload_n 1, 13, 0), (13, .iconst 1, 14, 0), (14, .isub, 15, 0), (15, .istore 4, 17, 0), (17, .iload 4, 19, 0), (19, .ifCond .lt 50, 22, 69), (22, .aload_n 0, 23, 0), (23, .getfield 24, 26, 0), (26, .iload 4, 28, 0), (28, .iload_n 2, 29, 0), (32, .ifCond .eq 37, 35, 69), (35, .iload_n 3, 36, 0), (36, .ifCond .ne 21, 39, 57), (39, .aload_n 0, 40, 0), (40, .aload_n 0, 41, 0), (41, .getfield 24, 44, 0), (44, .getfield 223, 47, 0), (47, .iload 4, 49, 0), (49, .iaload, 50, 0), (50, .iload_n 2, 51, 0), (54, .ifCond .eq 7, 57, 61), (57, .iconst 1, 58, 0), (58, .goto 4, 61, 62), (61, .iconst 0, 62, 0), (62, .istore_n 3, 63, 0), (63, .iinc 4 (-1), 66, 0), (66, .goto (-49), 69, 17), (69, .iload_n 1, 70, 0), (70, .iconst 1, 71, 0), (71, .iadd, 72, 0), (72, .istore 4, 74, 0), (74, .iload 4, 76, 0), (76, .aload_n 0, 77, 0), (77, .getfield 24, 80, 0), (80, .getfield 162, 83, 0), (83, .if_icmp .ge 50, 86, 133), (86, .aload_n 0, 87, 0), (87, .getfield 24, 90, 0), (90, .iload 4, 92, 0), (92, .iload_n 2, 93, 0), (96, .ifCond .eq 37, 99, 133), (99, .iload_n 3, 100, 0), (100, .ifCond .ne 21, 103, 121), (103, .aload_n 0, 104, 0), (104, .aload_n 0, 105, 0), (105, .getfield 24, 108, 0), (108, .getfield 223, 111, 0), (111, .iload 4, 113, 0), (113, .iaload, 114, 0), (114, .iload_n 2, 115, 0), (118, .ifCond .eq 7, 121, 125), (121, .iconst 1, 122, 0), (122, .goto 4, 125, 126), (125, .iconst 0, 126, 0), (126, .istore_n 3, 127, 0), (127, .iinc 4 1, 130, 0), (130, .goto (-56), 133, 74), (133, .iload_n 3, 134, 0)]
theorem T2_meetsItsBetter_ok : (T2_meetsItsBetter).all (k_dck (k_cc Y2_meetsItsBetter)) = true := by decide +kernel
theorem d2_meetsItsBetter_29 : decode (k_cc Y2_meetsItsBetter) 29 = .ok (.invokevirtual 247, 3) := by decide +kernel
theorem d2_meetsItsBetter_51 : decode (k_cc Y2_meetsItsBetter) 51 = .ok (.invokevirtual 250, 3) := by decide +kernel
theorem d2_meetsItsBetter_93 : decode (k_cc Y2_meetsItsBetter) 93 = .ok (.invokevirtual 247, 3) := by decide +kernel
theorem d2_meetsItsBetter_115 : decode (k_cc Y2_meetsItsBetter) 115 = .ok (.invokevirtual 250, 3) := by decide +kernel
theorem d2_meetsItsBetter_134 : decode (k_cc Y2_meetsItsBetter) 134 = .ok (.ireturn, 1) := by decide +kernel
def Y2_keepsFromCalling : k_Y := (2, yX2_keepsFromCalling, cX2_keepsFromCalling, 3, (some .boolean), 1, 22, [])
def T2_keepsFromCalling : List (Nat × Instr × Nat × Nat) := [(0, .aload_n 0, 1, 0), (1, .aload_n 0, 2, 0), (2, .getfield 24, 5, 0), (5, .getfield 163, 8, 0), (8, .iload_n 1, 9, 0), (9, .iaload, 10, 0), (10, .aload_n 0, 11, 0), (11, .getfield 24, 14, 0), (14, .getfield 163, 17, 0), (17, .iload_n 2, 18, 0), (18, .iaload, 19, 0), (22, .ifCond .eq 28, 25, 50), (25, .aload_n 0, 26, 0), (26, .getfield 24, 29, 0), (29, .getfield 241, 32, 0), (32, .iload_n 1, 33, 0), (33, .iaload, 34, 0), (34, .aload_n 0, 35, 0), (35, .getfield 24, 38, 0), (38, .getfield 241, 41, 0), (41, .iload_n 2, 42, 0), (42, .iaload, 43, 0), (43, .if_icmp .lt 7, 46, 50), (46, .iconst 1, 47, 0), (47, .goto 4, 50, 51), (50, .iconst 0, 51, 0)]
theorem T2_keepsFromCalling_ok : (T2_keepsFromCalling).all (k_dck (k_cc Y2_keepsFromCalling)) = true := by decide +kernel
theorem d2_keepsFromCalling_19 : decode (k_cc Y2_keepsFromCalling) 19 = .ok (.invokevirtual 82, 3) := by decide +kernel
theorem d2_keepsFromCalling_51 : decode (k_cc Y2_keepsFromCalling) 51 = .ok (.ireturn, 1) := by decide +kernel
def Y2_putOn : k_Y := (2, yX2_putOn, cX2_putOn, 5, none, 1, 24, [])
def T2_putOn : List (Nat × Instr × Nat × Nat) := [(0, .aload_n 0, 1, 0), (1, .getfield 36, 4, 0), (4, .aload_n 0, 5, 0), (5, .getfield 32, 8, 0), (8, .aload_n 0, 9, 0), (9, .getfield 24, 12, 0), (12, .getfield 163, 15, 0), (15, .iload_n 1, 16, 0), (16, .iaload, 17, 0), (17, .iaload, 18, 0), (18, .iload_n 1, 19, 0), (19, .iastore, 20, 0), (20, .iconst 1, 21, 0), (21, .aload_n 0, 22, 0), (22, .getfield 24, 25, 0), (25, .getfield 127, 28, 0), (28, .iload_n 1, 29, 0), (29, .iaload, 30, 0), (33, .istore_n 3, 34, 0), (34, .aload_n 0, 35, 0), (35, .getfield 95, 38, 0), (38, .ifCond .le 28, 41, 66), (41, .aload_n 0, 42, 0), (42, .getfield 95, 45, 0), (45, .iload_n 3, 46, 0), (46, .if_icmp .ge 20, 49, 66), (49, .aload_n 0, 50, 0), (50, .getfield 24, 53, 0), (53, .iload_n 1, 54, 0), (54, .iload_n 2, 55, 0), (55, .aload_n 0, 56, 0), (56, .getfield 95, 59, 0), (59, .iconst 2, 60, 0), (63, .goto 14, 66, 77), (66, .aload_n 0, 67, 0), (67, .getfield 24, 70, 0), (70, .iload_n 1, 71, 0), (71, .iload_n 2, 72, 0), (72, .iload_n 3, 73, 0), (73, .iconst 0, 74, 0), (77, .aload_n 0, 78, 0), (78, .getfield 54, 81, 0), (81, .iload_n 2, 82, 0), (82, .isub, 83, 0), (83, .istore 4, 85, 0), (85, .aload_n 0, 86, 0), (86, .getfield 24, 89, 0), (89, .getfield 149, 92, 0), (92, .iload_n 1, 93, 0), (93, .iaload, 94, 0), (94, .iload 4, 96, 0), (96, .if_icmp .le 15, 99, 111), (99, .aload_n 0, 100, 0), (100, .getfield 24, 103, 0), (103, .iload_n 1, 104, 0), (104, .iload_n 2, 105, 0), (105, .iload 4, 107, 0), (107, .iconst 4, 108, 0)]
theorem T2_putOn_ok : (T2_putOn).all (k_dck (k_cc Y2_putOn)) = true := by decide +kernel
theorem d2_putOn_30 : decode (k_cc Y2_putOn) 30 = .ok (.invokestatic 253, 3) := by decide +kernel
theorem d2_putOn_60 : decode (k_cc Y2_putOn) 60 = .ok (.invokevirtual 258, 3) := by decide +kernel
theorem d2_putOn_74 : decode (k_cc Y2_putOn) 74 = .ok (.invokevirtual 258, 3) := by decide +kernel
theorem d2_putOn_108 : decode (k_cc Y2_putOn) 108 = .ok (.invokevirtual 258, 3) := by decide +kernel
theorem d2_putOn_111 : decode (k_cc Y2_putOn) 111 = .ok (.return_, 1) := by decide +kernel
end
section
def Y2_messageOn : k_Y := (2, yX2_messageOn, cX2_messageOn, 4, (some .int), 1, 22, [])
def T2_messageOn : List (Nat × Instr × Nat × Nat) := [(0, .iconst 0, 1, 0), (1, .istore_n 3, 2, 0), (2, .iload_n 3, 3, 0), (3, .aload_n 0, 4, 0), (4, .getfield 24, 7, 0), (7, .getfield 162, 10, 0), (10, .if_icmp .ge 40, 13, 50), (13, .aload_n 0, 14, 0), (14, .getfield 24, 17, 0), (17, .iload_n 3, 18, 0), (18, .iload_n 2, 19, 0), (22, .ifCond .eq 22, 25, 44), (25, .aload_n 0, 26, 0), (26, .iload_n 1, 27, 0), (27, .aload_n 0, 28, 0), (28, .getfield 24, 31, 0), (31, .getfield 163, 34, 0), (34, .iload_n 3, 35, 0), (35, .iaload, 36, 0), (39, .ifCond .eq 5, 42, 44), (42, .iload_n 3, 43, 0), (44, .iinc 3 1, 47, 0), (47, .goto (-45), 50, 2), (50, .iconst (-1), 51, 0)]
theorem T2_messageOn_ok : (T2_messageOn).all (k_dck (k_cc Y2_messageOn)) = true := by decide +kernel
theorem d2_messageOn_19 : decode (k_cc Y2_messageOn) 19 = .ok (.invokevirtual 235, 3) := by decide +kernel
theorem d2_messageOn_36 : decode (k_cc Y2_messageOn) 36 = .ok (.invokevirtual 82, 3) := by decide +kernel
theorem d2_messageOn_43 : decode (k_cc Y2_messageOn) 43 = .ok (.ireturn, 1) := by decide +kernel
theorem d2_messageOn_51 : decode (k_cc Y2_messageOn) 51 = .ok (.ireturn, 1) := by decide +kernel
def Y2_listensTo : k_Y := (2, yX2_listensTo, cX2_listensTo, 3, (some .boolean), 1, 22, [])
def T2_listensTo : List (Nat × Instr × Nat × Nat) := [(0, .iload_n 1, 1, 0), (1, .aload_n 0, 2, 0), (2, .getfield 24, 5, 0), (5, .getfield 261, 8, 0), (8, .iload_n 2, 9, 0), (9, .iaload, 10, 0), (10, .if_icmp .eq 32, 13, 42), (13, .aload_n 0, 14, 0), (14, .aload_n 0, 15, 0), (15, .getfield 14, 18, 0), (18, .getfield 133, 21, 0), (21, .iload_n 1, 22, 0), (22, .iaload, 23, 0), (23, .aload_n 0, 24, 0), (24, .getfield 24, 27, 0), (27, .getfield 163, 30, 0), (30, .iload_n 2, 31, 0), (31, .iaload, 32, 0), (35, .ifCond .eq 7, 38, 42), (38, .iconst 1, 39, 0), (39, .goto 4, 42, 43), (42, .iconst 0, 43, 0)]
theorem T2_listensTo_ok : (T2_listensTo).all (k_dck (k_cc Y2_listensTo)) = true := by decide +kernel
theorem d2_listensTo_32 : decode (k_cc Y2_listensTo) 32 = .ok (.invokevirtual 82, 3) := by decide +kernel
theorem d2_listensTo_43 : decode (k_cc Y2_listensTo) 43 = .ok (.ireturn, 1) := by decide +kernel
def Y2_receives : k_Y := (2, yX2_receives, cX2_receives, 3, (some .boolean), 2, 49, [])
def T2_receives : List (Nat × Instr × Nat × Nat) := [(0, .aload_n 0, 1, 0), (1, .iload_n 1, 2, 0), (2, .iload_n 2, 3, 0), (6, .ifCond .eq 40, 9, 46), (9, .aload_n 0, 10, 0), (10, .getfield 14, 13, 0), (13, .aload_n 0, 14, 0), (14, .getfield 24, 17, 0), (17, .getfield 261, 20, 0), (20, .iload_n 2, 21, 0), (21, .iaload, 22, 0), (22, .aload_n 0, 23, 0), (23, .getfield 14, 26, 0), (26, .iload_n 1, 27, 0), (30, .ifCond .ne 12, 33, 42), (33, .aload_n 0, 34, 0), (34, .iload_n 1, 35, 0), (35, .iload_n 2, 36, 0), (39, .ifCond .eq 7, 42, 46), (42, .iconst 1, 43, 0), (43, .goto 4, 46, 47), (46, .iconst 0, 47, 0)]
theorem T2_receives_ok : (T2_receives).all (k_dck (k_cc Y2_receives)) = true := by decide +kernel
theorem d2_receives_3 : decode (k_cc Y2_receives) 3 = .ok (.invokevirtual 264, 3) := by decide +kernel
theorem d2_receives_27 : decode (k_cc Y2_receives) 27 = .ok (.invokevirtual 267, 3) := by decide +kernel
theorem d2_receives_36 : decode (k_cc Y2_receives) 36 = .ok (.invokevirtual 271, 3) := by decide +kernel
theorem d2_receives_47 : decode (k_cc Y2_receives) 47 = .ok (.ireturn, 1) := by decide +kernel
def Y2_receivesByRepeater : k_Y := (2, yX2_receivesByRepeater, cX2_receivesByRepeater, 5, (some .boolean), 1, 25, [])
def T2_receivesByRepeater : List (Nat × Instr × Nat × Nat) := [(0, .aload_n 0, 1, 0), (1, .getfield 24, 4, 0), (4, .getfield 261, 7, 0), (7, .iload_n 2, 8, 0), (8, .iaload, 9, 0), (9, .istore_n 3, 10, 0), (10, .iconst 0, 11, 0), (11, .istore 4, 13, 0), (13, .iload 4, 15, 0), (15, .aload_n 0, 16, 0), (16, .getfield 18, 19, 0), (19, .getfield 154, 22, 0), (22, .if_icmp .ge 71, 25, 93), (25, .aload_n 0, 26, 0), (26, .aload_n 0, 27, 0), (27, .getfield 18, 30, 0), (30, .getfield 133, 33, 0), (33, .iload 4, 35, 0), (35, .iaload, 36, 0), (36, .aload_n 0, 37, 0), (37, .getfield 24, 40, 0), (40, .getfield 163, 43, 0), (43, .iload_n 2, 44, 0), (44, .iaload, 45, 0), (48, .ifCond .eq 39, 51, 87), (51, .aload_n 0, 52, 0), (52, .getfield 14, 55, 0), (55, .iload_n 3, 56, 0), (56, .aload_n 0, 57, 0), (57, .getfield 18, 60, 0), (60, .iload 4, 62, 0), (65, .ifCond .eq 22, 68, 87), (68, .aload_n 0, 69, 0), (69, .getfield 18, 72, 0), (72, .iload 4, 74, 0), (74, .aload_n 0, 75, 0), (75, .getfield 14, 78, 0), (78, .iload_n 1, 79, 0), (82, .ifCond .eq 5, 85, 87), (85, .iconst 1, 86, 0), (87, .iinc 4 1, 90, 0), (90, .goto (-77), 93, 13), (93, .iconst 0, 94, 0)]
theorem T2_receivesByRepeater_ok : (T2_receivesByRepeater).all (k_dck (k_cc Y2_receivesByRepeater)) = true := by decide +kernel
theorem d2_receivesByRepeater_45 : decode (k_cc Y2_receivesByRepeater) 45 = .ok (.invokevirtual 82, 3) := by decide +kernel
theorem d2_receivesByRepeater_62 : decode (k_cc Y2_receivesByRepeater) 62 = .ok (.invokevirtual 267, 3) := by decide +kernel
theorem d2_receivesByRepeater_79 : decode (k_cc Y2_receivesByRepeater) 79 = .ok (.invokevirtual 267, 3) := by decide +kernel
theorem d2_receivesByRepeater_86 : decode (k_cc Y2_receivesByRepeater) 86 = .ok (.ireturn, 1) := by decide +kernel
theorem d2_receivesByRepeater_94 : decode (k_cc Y2_receivesByRepeater) 94 = .ok (.ireturn, 1) := by decide +kernel
def Y2_heardAllSlots : k_Y := (2, yX2_heardAllSlots, cX2_heardAllSlots, 3, (some .boolean), 3, 71, [])
def T2_heardAllSlots : List (Nat × Instr × Nat × Nat) := [(0, .aload_n 0, 1, 0), (1, .getfield 24, 4, 0), (4, .getfield 149, 7, 0), (7, .iload_n 2, 8, 0), (8, .iaload, 9, 0), (9, .ifCond .le 24, 12, 33), (12, .aload_n 0, 13, 0), (13, .iload_n 1, 14, 0), (14, .iload_n 2, 15, 0), (18, .ifCond .eq 15, 21, 33), (21, .aload_n 0, 22, 0), (22, .iload_n 2, 23, 0), (26, .ifCond .ne 7, 29, 33), (29, .iconst 1, 30, 0), (30, .goto 4, 33, 34), (33, .iconst 0, 34, 0)]
theorem T2_heardAllSlots_ok : (T2_heardAllSlots).all (k_dck (k_cc Y2_heardAllSlots)) = true := by decide +kernel
theorem d2_heardAllSlots_15 : decode (k_cc Y2_heardAllSlots) 15 = .ok (.invokevirtual 140, 3) := by decide +kernel
theorem d2_heardAllSlots_23 : decode (k_cc Y2_heardAllSlots) 23 = .ok (.invokevirtual 274, 3) := by decide +kernel
theorem d2_heardAllSlots_34 : decode (k_cc Y2_heardAllSlots) 34 = .ok (.ireturn, 1) := by decide +kernel
def Y2_missed : k_Y := (2, yX2_missed, cX2_missed, 3, (some .boolean), 4, 93, [])
def T2_missed : List (Nat × Instr × Nat × Nat) := [(0, .aload_n 0, 1, 0), (1, .iload_n 1, 2, 0), (2, .iload_n 2, 3, 0), (6, .ifCond .eq 16, 9, 22), (9, .aload_n 0, 10, 0), (10, .iload_n 1, 11, 0), (11, .iload_n 2, 12, 0), (15, .ifCond .ne 7, 18, 22), (18, .iconst 1, 19, 0), (19, .goto 4, 22, 23), (22, .iconst 0, 23, 0)]
theorem T2_missed_ok : (T2_missed).all (k_dck (k_cc Y2_missed)) = true := by decide +kernel
theorem d2_missed_3 : decode (k_cc Y2_missed) 3 = .ok (.invokevirtual 264, 3) := by decide +kernel
theorem d2_missed_12 : decode (k_cc Y2_missed) 12 = .ok (.invokevirtual 119, 3) := by decide +kernel
theorem d2_missed_23 : decode (k_cc Y2_missed) 23 = .ok (.ireturn, 1) := by decide +kernel
def Y2_hasNoise : k_Y := (2, yX2_hasNoise, cX2_hasNoise, 5, (some .boolean), 1, 21, [])
def T2_hasNoise : List (Nat × Instr × Nat × Nat) := [(0, .aload_n 0, 1, 0), (1, .getfield 24, 4, 0), (4, .getfield 277, 7, 0), (7, .iload_n 1, 8, 0), (8, .iaload, 9, 0), (9, .istore_n 2, 10, 0), (10, .iload_n 2, 11, 0), (11, .aload_n 0, 12, 0), (12, .getfield 24, 15, 0), (15, .getfield 149, 18, 0), (18, .iload_n 1, 19, 0), (19, .iaload, 20, 0), (20, .iadd, 21, 0), (21, .aload_n 0, 22, 0), (22, .getfield 54, 25, 0), (28, .istore_n 3, 29, 0), (29, .iload_n 2, 30, 0), (30, .istore 4, 32, 0), (32, .iload 4, 34, 0), (34, .iload_n 3, 35, 0), (35, .if_icmp .ge 21, 38, 56), (38, .aload_n 0, 39, 0), (39, .getfield 28, 42, 0), (42, .iload 4, 44, 0), (44, .baload, 45, 0), (45, .ifCond .eq 5, 48, 50), (48, .iconst 1, 49, 0), (50, .iinc 4 1, 53, 0), (53, .goto (-21), 56, 32), (56, .iconst 0, 57, 0)]
theorem T2_hasNoise_ok : (T2_hasNoise).all (k_dck (k_cc Y2_hasNoise)) = true := by decide +kernel
theorem d2_hasNoise_25 : decode (k_cc Y2_hasNoise) 25 = .ok (.invokestatic 280, 3) := by decide +kernel
theorem d2_hasNoise_49 : decode (k_cc Y2_hasNoise) 49 = .ok (.ireturn, 1) := by decide +kernel
theorem d2_hasNoise_57 : decode (k_cc Y2_hasNoise) 57 = .ok (.ireturn, 1) := by decide +kernel
def Y3_init : k_Y := (3, yX3_init, cX3_init, 2, none, 1, 20, [])
def T3_init : List (Nat × Instr × Nat × Nat) := [(0, .aload_n 0, 1, 0), (4, .aload_n 0, 5, 0), (5, .bipush 6, 7, 0), (9, .putfield 7, 12, 0), (12, .aload_n 0, 13, 0), (13, .bipush 20, 15, 0), (17, .putfield 13, 20, 0), (20, .aload_n 0, 21, 0), (21, .bipush 20, 23, 0), (25, .putfield 16, 28, 0), (28, .aload_n 0, 29, 0), (29, .bipush 20, 31, 0), (33, .putfield 19, 36, 0), (36, .aload_n 0, 37, 0), (37, .bipush 20, 39, 0), (41, .putfield 22, 44, 0), (44, .aload_n 0, 45, 0), (45, .bipush 8, 47, 0), (49, .putfield 25, 52, 0), (52, .aload_n 0, 53, 0), (53, .bipush 8, 55, 0), (57, .putfield 28, 60, 0), (60, .aload_n 0, 61, 0), (61, .bipush 8, 63, 0), (65, .putfield 31, 68, 0), (68, .aload_n 0, 69, 0), (69, .bipush 8, 71, 0), (73, .putfield 34, 76, 0), (76, .aload_n 0, 77, 0), (77, .bipush 60, 79, 0), (81, .putfield 37, 84, 0), (84, .aload_n 0, 85, 0), (85, .bipush 60, 87, 0), (89, .putfield 40, 92, 0), (92, .aload_n 0, 93, 0), (93, .bipush 60, 95, 0), (97, .putfield 43, 100, 0), (100, .aload_n 0, 101, 0), (101, .bipush 60, 103, 0), (105, .putfield 46, 108, 0), (108, .aload_n 0, 109, 0), (109, .bipush 60, 111, 0), (113, .putfield 49, 116, 0), (116, .aload_n 0, 117, 0), (117, .sipush 1000, 120, 0), (122, .putfield 52, 125, 0), (125, .aload_n 0, 126, 0), (126, .sipush 1000, 129, 0), (131, .putfield 56, 134, 0), (134, .aload_n 0, 135, 0), (135, .sipush 1000, 138, 0), (140, .putfield 59, 143, 0), (143, .aload_n 0, 144, 0), (144, .bipush 60, 146, 0), (148, .putfield 62, 151, 0), (151, .aload_n 0, 152, 0), (152, .bipush 60, 154, 0), (156, .putfield 65, 159, 0), (159, .iconst 0, 160, 0), (160, .istore_n 1, 161, 0), (161, .iload_n 1, 162, 0), (162, .bipush 6, 164, 0), (164, .if_icmp .ge 16, 167, 180), (167, .aload_n 0, 168, 0), (168, .getfield 7, 171, 0), (171, .iload_n 1, 172, 0), (172, .iload_n 1, 173, 0), (173, .iastore, 174, 0), (174, .iinc 1 1, 177, 0), (177, .goto (-16), 180, 161)]
theorem T3_init_ok : (T3_init).all (k_dck (k_cc Y3_init)) = true := by decide +kernel
theorem d3_init_1 : decode (k_cc Y3_init) 1 = .ok (.invokespecial 1, 3) := by decide +kernel
theorem d3_init_7 : decode (k_cc Y3_init) 7 = .ok (.newarray .int, 2) := by decide +kernel
theorem d3_init_15 : decode (k_cc Y3_init) 15 = .ok (.newarray .int, 2) := by decide +kernel
theorem d3_init_23 : decode (k_cc Y3_init) 23 = .ok (.newarray .int, 2) := by decide +kernel
theorem d3_init_31 : decode (k_cc Y3_init) 31 = .ok (.newarray .int, 2) := by decide +kernel
theorem d3_init_39 : decode (k_cc Y3_init) 39 = .ok (.newarray .int, 2) := by decide +kernel
theorem d3_init_47 : decode (k_cc Y3_init) 47 = .ok (.newarray .int, 2) := by decide +kernel
theorem d3_init_55 : decode (k_cc Y3_init) 55 = .ok (.newarray .int, 2) := by decide +kernel
theorem d3_init_63 : decode (k_cc Y3_init) 63 = .ok (.newarray .int, 2) := by decide +kernel
theorem d3_init_71 : decode (k_cc Y3_init) 71 = .ok (.newarray .int, 2) := by decide +kernel
theorem d3_init_79 : decode (k_cc Y3_init) 79 = .ok (.newarray .int, 2) := by decide +kernel
theorem d3_init_87 : decode (k_cc Y3_init) 87 = .ok (.newarray .int, 2) := by decide +kernel
theorem d3_init_95 : decode (k_cc Y3_init) 95 = .ok (.newarray .int, 2) := by decide +kernel
theorem d3_init_103 : decode (k_cc Y3_init) 103 = .ok (.newarray .int, 2) := by decide +kernel
theorem d3_init_111 : decode (k_cc Y3_init) 111 = .ok (.newarray .int, 2) := by decide +kernel
theorem d3_init_120 : decode (k_cc Y3_init) 120 = .ok (.newarray .boolean, 2) := by decide +kernel
theorem d3_init_129 : decode (k_cc Y3_init) 129 = .ok (.newarray .int, 2) := by decide +kernel
theorem d3_init_138 : decode (k_cc Y3_init) 138 = .ok (.newarray .int, 2) := by decide +kernel
theorem d3_init_146 : decode (k_cc Y3_init) 146 = .ok (.newarray .int, 2) := by decide +kernel
theorem d3_init_154 : decode (k_cc Y3_init) 154 = .ok (.newarray .int, 2) := by decide +kernel
theorem d3_init_180 : decode (k_cc Y3_init) 180 = .ok (.return_, 1) := by decide +kernel
def Y3_thrown : k_Y := (3, yX3_thrown, cX3_thrown, 1, (some .int), 0, 0, [])
def T3_thrown : List (Nat × Instr × Nat × Nat) := [(0, .aload_n 0, 1, 0), (1, .getfield 68, 4, 0)]
theorem T3_thrown_ok : (T3_thrown).all (k_dck (k_cc Y3_thrown)) = true := by decide +kernel
theorem d3_thrown_4 : decode (k_cc Y3_thrown) 4 = .ok (.ireturn, 1) := by decide +kernel
def Y3_in : k_Y := (3, yX3_in, cX3_in, 3, (some .boolean), 0, 0, [])
def T3_in : List (Nat × Instr × Nat × Nat) := [(0, .iload_n 0, 1, 0), (1, .iload_n 1, 2, 0), (2, .if_icmp .lt 12, 5, 14), (5, .iload_n 0, 6, 0), (6, .iload_n 2, 7, 0), (7, .if_icmp .gt 7, 10, 14), (10, .iconst 1, 11, 0), (11, .goto 4, 14, 15), (14, .iconst 0, 15, 0)]
theorem T3_in_ok : (T3_in).all (k_dck (k_cc Y3_in)) = true := by decide +kernel
theorem d3_in_15 : decode (k_cc Y3_in) 15 = .ok (.ireturn, 1) := by decide +kernel
def Y3_goes : k_Y := (3, yX3_goes, cX3_goes, 8, (some .boolean), 0, 0, [])
def T3_goes : List (Nat × Instr × Nat × Nat) := [(0, .iload_n 2, 1, 0), (1, .ifCond .ne 7, 4, 8), (4, .iconst 1, 5, 0), (5, .goto 31, 8, 36), (8, .iload_n 3, 9, 0), (9, .ifCond .ne 7, 12, 16), (12, .iconst 2, 13, 0), (13, .goto 23, 16, 36), (16, .iload 4, 18, 0), (18, .ifCond .ne 7, 21, 25), (21, .iconst 4, 22, 0), (22, .goto 14, 25, 36), (25, .iload 5, 27, 0), (27, .ifCond .ne 8, 30, 35), (30, .bipush 8, 32, 0), (32, .goto 4, 35, 36), (35, .iconst 0, 36, 0), (36, .istore 6, 38, 0), (38, .aload_n 0, 39, 0), (39, .iconst 0, 40, 0), (40, .putfield 68, 43, 0), (43, .iconst 1, 44, 0), (44, .istore 7, 46, 0), (46, .iload 7, 48, 0), (48, .iload 6, 50, 0), (50, .if_icmp .gt 29, 53, 79), (53, .iload_n 1, 54, 0), (54, .iload 7, 56, 0), (56, .iand, 57, 0), (57, .ifCond .le 13, 60, 70), (60, .aload_n 0, 61, 0), (61, .dup, 62, 0), (62, .getfield 68, 65, 0), (65, .iconst 1, 66, 0), (66, .iadd, 67, 0), (67, .putfield 68, 70, 0), (70, .iconst 2, 71, 0), (71, .iload 7, 73, 0), (73, .imul, 74, 0), (74, .istore 7, 76, 0), (76, .goto (-30), 79, 46), (79, .iload 6, 81, 0), (81, .ifCond .ne 7, 84, 88), (84, .iconst 1, 85, 0), (85, .goto 4, 88, 89), (88, .iconst 0, 89, 0)]
theorem T3_goes_ok : (T3_goes).all (k_dck (k_cc Y3_goes)) = true := by decide +kernel
theorem d3_goes_61 : decode (k_cc Y3_goes) 61 = .ok (.dup, 1) := by decide +kernel
theorem d3_goes_89 : decode (k_cc Y3_goes) 89 = .ok (.ireturn, 1) := by decide +kernel
def Y3_isPoint : k_Y := (3, yX3_isPoint, cX3_isPoint, 2, (some .boolean), 1, 22, [])
def T3_isPoint : List (Nat × Instr × Nat × Nat) := [(0, .iload_n 0, 1, 0), (1, .iconst 0, 2, 0), (2, .sipush 9999, 5, 0), (8, .ifCond .eq 18, 11, 26), (11, .iload_n 1, 12, 0), (12, .iconst 0, 13, 0), (13, .sipush 9999, 16, 0), (19, .ifCond .eq 7, 22, 26), (22, .iconst 1, 23, 0), (23, .goto 4, 26, 27), (26, .iconst 0, 27, 0)]
theorem T3_isPoint_ok : (T3_isPoint).all (k_dck (k_cc Y3_isPoint)) = true := by decide +kernel
theorem d3_isPoint_5 : decode (k_cc Y3_isPoint) 5 = .ok (.invokestatic 72, 3) := by decide +kernel
theorem d3_isPoint_16 : decode (k_cc Y3_isPoint) 16 = .ok (.invokestatic 72, 3) := by decide +kernel
theorem d3_isPoint_27 : decode (k_cc Y3_isPoint) 27 = .ok (.ireturn, 1) := by decide +kernel
def Y3_isChannel : k_Y := (3, yX3_isChannel, cX3_isChannel, 1, (some .boolean), 1, 22, [])
def T3_isChannel : List (Nat × Instr × Nat × Nat) := [(0, .iload_n 0, 1, 0), (1, .iconst 0, 2, 0), (2, .iconst 5, 3, 0)]
theorem T3_isChannel_ok : (T3_isChannel).all (k_dck (k_cc Y3_isChannel)) = true := by decide +kernel
theorem d3_isChannel_3 : decode (k_cc Y3_isChannel) 3 = .ok (.invokestatic 72, 3) := by decide +kernel
theorem d3_isChannel_6 : decode (k_cc Y3_isChannel) 6 = .ok (.ireturn, 1) := by decide +kernel
def Y3_isUnit : k_Y := (3, yX3_isUnit, cX3_isUnit, 2, (some .boolean), 1, 22, [])
def T3_isUnit : List (Nat × Instr × Nat × Nat) := [(0, .iload_n 1, 1, 0), (1, .iconst 0, 2, 0), (2, .aload_n 0, 3, 0), (3, .getfield 76, 6, 0), (6, .iconst 1, 7, 0), (7, .isub, 8, 0)]
theorem T3_isUnit_ok : (T3_isUnit).all (k_dck (k_cc Y3_isUnit)) = true := by decide +kernel
theorem d3_isUnit_8 : decode (k_cc Y3_isUnit) 8 = .ok (.invokestatic 72, 3) := by decide +kernel
theorem d3_isUnit_11 : decode (k_cc Y3_isUnit) 11 = .ok (.ireturn, 1) := by decide +kernel
def Y3_isMessage : k_Y := (3, yX3_isMessage, cX3_isMessage, 2, (some .boolean), 1, 22, [])
def T3_isMessage : List (Nat × Instr × Nat × Nat) := [(0, .iload_n 1, 1, 0), (1, .iconst 0, 2, 0), (2, .aload_n 0, 3, 0), (3, .getfield 79, 6, 0), (6, .iconst 1, 7, 0), (7, .isub, 8, 0)]
theorem T3_isMessage_ok : (T3_isMessage).all (k_dck (k_cc Y3_isMessage)) = true := by decide +kernel
theorem d3_isMessage_8 : decode (k_cc Y3_isMessage) 8 = .ok (.invokestatic 72, 3) := by decide +kernel
theorem d3_isMessage_11 : decode (k_cc Y3_isMessage) 11 = .ok (.ireturn, 1) := by decide +kernel
def Y3_isSlot : k_Y := (3, yX3_isSlot, cX3_isSlot, 2, (some .boolean), 1, 22, [])
def T3_isSlot : List (Nat × Instr × Nat × Nat) := [(0, .iload_n 1, 1, 0), (1, .iconst 0, 2, 0), (2, .aload_n 0, 3, 0), (3, .getfield 82, 6, 0), (6, .iconst 1, 7, 0), (7, .isub, 8, 0)]
theorem T3_isSlot_ok : (T3_isSlot).all (k_dck (k_cc Y3_isSlot)) = true := by decide +kernel
theorem d3_isSlot_8 : decode (k_cc Y3_isSlot) 8 = .ok (.invokestatic 72, 3) := by decide +kernel
theorem d3_isSlot_11 : decode (k_cc Y3_isSlot) 11 = .ok (.ireturn, 1) := by decide +kernel
def Y3_day : k_Y := (3, yX3_day, cX3_day, 3, none, 1, 27, [])
def T3_day : List (Nat × Instr × Nat × Nat) := [(0, .aload_n 0, 1, 0), (1, .iconst 3, 2, 0), (2, .iload_n 1, 3, 0), (3, .sipush 1000, 6, 0), (6, .if_icmp .gt 7, 9, 13), (9, .iconst 1, 10, 0), (10, .goto 4, 13, 14), (13, .iconst 0, 14, 0), (14, .iload_n 1, 15, 0), (15, .ifCond .lt 7, 18, 22), (18, .iconst 1, 19, 0), (19, .goto 4, 22, 23), (22, .iconst 0, 23, 0), (23, .iconst 1, 24, 0), (24, .iconst 1, 25, 0), (28, .ifCond .ne 4, 31, 32), (32, .aload_n 0, 33, 0), (33, .iload_n 1, 34, 0), (34, .putfield 82, 37, 0), (37, .aload_n 0, 38, 0), (38, .iconst 0, 39, 0), (39, .putfield 89, 42, 0), (42, .aload_n 0, 43, 0), (43, .iconst 0, 44, 0), (44, .putfield 76, 47, 0), (47, .aload_n 0, 48, 0), (48, .iconst 0, 49, 0), (49, .putfield 92, 52, 0), (52, .aload_n 0, 53, 0), (53, .iconst 0, 54, 0), (54, .putfield 79, 57, 0), (57, .iconst 0, 58, 0), (58, .istore_n 2, 59, 0), (59, .iload_n 2, 60, 0), (60, .bipush 6, 62, 0), (62, .if_icmp .ge 16, 65, 78), (65, .aload_n 0, 66, 0), (66, .getfield 7, 69, 0), (69, .iload_n 2, 70, 0), (70, .iload_n 2, 71, 0), (71, .iastore, 72, 0), (72, .iinc 2 1, 75, 0), (75, .goto (-16), 78, 59), (78, .iconst 0, 79, 0), (79, .istore_n 2, 80, 0), (80, .iload_n 2, 81, 0), (81, .sipush 1000, 84, 0), (84, .if_icmp .ge 16, 87, 100), (87, .aload_n 0, 88, 0), (88, .getfield 52, 91, 0), (91, .iload_n 2, 92, 0), (92, .iconst 0, 93, 0), (93, .bastore, 94, 0), (94, .iinc 2 1, 97, 0), (97, .goto (-17), 100, 80)]
theorem T3_day_ok : (T3_day).all (k_dck (k_cc Y3_day)) = true := by decide +kernel
theorem d3_day_25 : decode (k_cc Y3_day) 25 = .ok (.invokevirtual 85, 3) := by decide +kernel
theorem d3_day_31 : decode (k_cc Y3_day) 31 = .ok (.return_, 1) := by decide +kernel
theorem d3_day_100 : decode (k_cc Y3_day) 100 = .ok (.return_, 1) := by decide +kernel
def Y3_unit : k_Y := (3, yX3_unit, cX3_unit, 5, (some .int), 2, 43, [])
def T3_unit : List (Nat × Instr × Nat × Nat) := [(0, .aload_n 0, 1, 0), (1, .bipush 10, 3, 0), (3, .iconst 1, 4, 0), (4, .iload_n 1, 5, 0), (5, .iload_n 2, 6, 0), (9, .ifCond .eq 26, 12, 35), (12, .iload_n 3, 13, 0), (13, .iconst 0, 14, 0), (14, .sipush 9999, 17, 0), (20, .ifCond .eq 15, 23, 35), (23, .iload 4, 25, 0), (28, .ifCond .eq 7, 31, 35), (31, .iconst 1, 32, 0), (32, .goto 4, 35, 36), (35, .iconst 0, 36, 0), (36, .iconst 1, 37, 0), (37, .aload_n 0, 38, 0), (38, .getfield 76, 41, 0), (41, .bipush 20, 43, 0), (43, .if_icmp .ge 7, 46, 50), (46, .iconst 1, 47, 0), (47, .goto 4, 50, 51), (50, .iconst 0, 51, 0), (54, .ifCond .ne 5, 57, 59), (57, .iconst 0, 58, 0), (59, .aload_n 0, 60, 0), (60, .getfield 13, 63, 0), (63, .aload_n 0, 64, 0), (64, .getfield 76, 67, 0), (67, .iload_n 1, 68, 0), (68, .iastore, 69, 0), (69, .aload_n 0, 70, 0), (70, .getfield 16, 73, 0), (73, .aload_n 0, 74, 0), (74, .getfield 76, 77, 0), (77, .iload_n 2, 78, 0), (78, .iastore, 79, 0), (79, .aload_n 0, 80, 0), (80, .getfield 19, 83, 0), (83, .aload_n 0, 84, 0), (84, .getfield 76, 87, 0), (87, .iload_n 3, 88, 0), (88, .iastore, 89, 0), (89, .aload_n 0, 90, 0), (90, .getfield 22, 93, 0), (93, .aload_n 0, 94, 0), (94, .getfield 76, 97, 0), (97, .iload 4, 99, 0), (99, .iastore, 100, 0), (100, .aload_n 0, 101, 0), (101, .dup, 102, 0), (102, .getfield 76, 105, 0), (105, .iconst 1, 106, 0), (106, .iadd, 107, 0), (107, .putfield 76, 110, 0), (110, .aload_n 0, 111, 0), (111, .getfield 76, 114, 0), (114, .iconst 1, 115, 0), (115, .isub, 116, 0)]
theorem T3_unit_ok : (T3_unit).all (k_dck (k_cc Y3_unit)) = true := by decide +kernel
theorem d3_unit_6 : decode (k_cc Y3_unit) 6 = .ok (.invokestatic 95, 3) := by decide +kernel
theorem d3_unit_17 : decode (k_cc Y3_unit) 17 = .ok (.invokestatic 72, 3) := by decide +kernel
theorem d3_unit_25 : decode (k_cc Y3_unit) 25 = .ok (.invokestatic 99, 3) := by decide +kernel
theorem d3_unit_51 : decode (k_cc Y3_unit) 51 = .ok (.invokevirtual 85, 3) := by decide +kernel
theorem d3_unit_58 : decode (k_cc Y3_unit) 58 = .ok (.ireturn, 1) := by decide +kernel
theorem d3_unit_101 : decode (k_cc Y3_unit) 101 = .ok (.dup, 1) := by decide +kernel
theorem d3_unit_116 : decode (k_cc Y3_unit) 116 = .ok (.ireturn, 1) := by decide +kernel
def Y3_go : k_Y := (3, yX3_go, cX3_go, 5, none, 2, 43, [])
def T3_go : List (Nat × Instr × Nat × Nat) := [(0, .aload_n 0, 1, 0), (1, .iconst 3, 2, 0), (2, .aload_n 0, 3, 0), (3, .iload_n 1, 4, 0), (7, .iload_n 2, 8, 0), (8, .iload_n 3, 9, 0), (12, .ifCond .eq 15, 15, 27), (15, .iload 4, 17, 0), (20, .ifCond .eq 7, 23, 27), (23, .iconst 1, 24, 0), (24, .goto 4, 27, 28), (27, .iconst 0, 28, 0), (28, .iconst 1, 29, 0), (29, .iconst 1, 30, 0), (33, .ifCond .ne 4, 36, 37), (37, .aload_n 0, 38, 0), (38, .getfield 13, 41, 0), (41, .iload_n 1, 42, 0), (42, .iload_n 2, 43, 0), (43, .iastore, 44, 0), (44, .aload_n 0, 45, 0), (45, .getfield 16, 48, 0), (48, .iload_n 1, 49, 0), (49, .iload_n 3, 50, 0), (50, .iastore, 51, 0), (51, .aload_n 0, 52, 0), (52, .getfield 22, 55, 0), (55, .iload_n 1, 56, 0), (56, .iload 4, 58, 0), (58, .iastore, 59, 0)]
theorem T3_go_ok : (T3_go).all (k_dck (k_cc Y3_go)) = true := by decide +kernel
theorem d3_go_4 : decode (k_cc Y3_go) 4 = .ok (.invokevirtual 103, 3) := by decide +kernel
theorem d3_go_9 : decode (k_cc Y3_go) 9 = .ok (.invokestatic 95, 3) := by decide +kernel
theorem d3_go_17 : decode (k_cc Y3_go) 17 = .ok (.invokestatic 99, 3) := by decide +kernel
theorem d3_go_30 : decode (k_cc Y3_go) 30 = .ok (.invokevirtual 85, 3) := by decide +kernel
theorem d3_go_36 : decode (k_cc Y3_go) 36 = .ok (.return_, 1) := by decide +kernel
theorem d3_go_59 : decode (k_cc Y3_go) 59 = .ok (.return_, 1) := by decide +kernel
def Y3_repeater : k_Y := (3, yX3_repeater, cX3_repeater, 5, (some .int), 2, 43, [])
def T3_repeater : List (Nat × Instr × Nat × Nat) := [(0, .aload_n 0, 1, 0), (1, .bipush 10, 3, 0), (3, .iconst 1, 4, 0), (4, .iload_n 1, 5, 0), (5, .iload_n 2, 6, 0), (9, .ifCond .eq 26, 12, 35), (12, .iload_n 3, 13, 0), (13, .iconst 0, 14, 0), (14, .sipush 9999, 17, 0), (20, .ifCond .eq 15, 23, 35), (23, .iload 4, 25, 0), (28, .ifCond .eq 7, 31, 35), (31, .iconst 1, 32, 0), (32, .goto 4, 35, 36), (35, .iconst 0, 36, 0), (36, .iconst 1, 37, 0), (37, .aload_n 0, 38, 0), (38, .getfield 92, 41, 0), (41, .bipush 8, 43, 0), (43, .if_icmp .ge 7, 46, 50), (46, .iconst 1, 47, 0), (47, .goto 4, 50, 51), (50, .iconst 0, 51, 0), (54, .ifCond .ne 5, 57, 59), (57, .iconst 0, 58, 0), (59, .aload_n 0, 60, 0), (60, .getfield 25, 63, 0), (63, .aload_n 0, 64, 0), (64, .getfield 92, 67, 0), (67, .iload_n 1, 68, 0), (68, .iastore, 69, 0), (69, .aload_n 0, 70, 0), (70, .getfield 28, 73, 0), (73, .aload_n 0, 74, 0), (74, .getfield 92, 77, 0), (77, .iload_n 2, 78, 0), (78, .iastore, 79, 0), (79, .aload_n 0, 80, 0), (80, .getfield 31, 83, 0), (83, .aload_n 0, 84, 0), (84, .getfield 92, 87, 0), (87, .iload_n 3, 88, 0), (88, .iastore, 89, 0), (89, .aload_n 0, 90, 0), (90, .getfield 34, 93, 0), (93, .aload_n 0, 94, 0), (94, .getfield 92, 97, 0), (97, .iload 4, 99, 0), (99, .iastore, 100, 0), (100, .aload_n 0, 101, 0), (101, .dup, 102, 0), (102, .getfield 92, 105, 0), (105, .iconst 1, 106, 0), (106, .iadd, 107, 0), (107, .putfield 92, 110, 0), (110, .aload_n 0, 111, 0), (111, .getfield 92, 114, 0), (114, .iconst 1, 115, 0), (115, .isub, 116, 0)]
theorem T3_repeater_ok : (T3_repeater).all (k_dck (k_cc Y3_repeater)) = true := by decide +kernel
theorem d3_repeater_6 : decode (k_cc Y3_repeater) 6 = .ok (.invokestatic 95, 3) := by decide +kernel
theorem d3_repeater_17 : decode (k_cc Y3_repeater) 17 = .ok (.invokestatic 72, 3) := by decide +kernel
theorem d3_repeater_25 : decode (k_cc Y3_repeater) 25 = .ok (.invokestatic 99, 3) := by decide +kernel
theorem d3_repeater_51 : decode (k_cc Y3_repeater) 51 = .ok (.invokevirtual 85, 3) := by decide +kernel
theorem d3_repeater_58 : decode (k_cc Y3_repeater) 58 = .ok (.ireturn, 1) := by decide +kernel
theorem d3_repeater_101 : decode (k_cc Y3_repeater) 101 = .ok (.dup, 1) := by decide +kernel
theorem d3_repeater_116 : decode (k_cc Y3_repeater) 116 = .ok (.ireturn, 1) := by decide +kernel
def Y3_patch : k_Y := (3, yX3_patch, cX3_patch, 5, (some .boolean), 2, 42, [])
def T3_patch : List (Nat × Instr × Nat × Nat) := [(0, .aload_n 0, 1, 0), (1, .iconst 2, 2, 0), (2, .iconst 1, 3, 0), (3, .iload_n 1, 4, 0), (7, .ifCond .eq 14, 10, 21), (10, .iload_n 2, 11, 0), (14, .ifCond .eq 7, 17, 21), (17, .iconst 1, 18, 0), (18, .goto 4, 21, 22), (21, .iconst 0, 22, 0), (22, .iconst 1, 23, 0), (23, .iconst 1, 24, 0), (27, .ifCond .eq 18, 30, 45), (30, .aload_n 0, 31, 0), (31, .getfield 7, 34, 0), (34, .iload_n 1, 35, 0), (35, .iaload, 36, 0), (36, .aload_n 0, 37, 0), (37, .getfield 7, 40, 0), (40, .iload_n 2, 41, 0), (41, .iaload, 42, 0), (42, .if_icmp .ne 5, 45, 47), (45, .iconst 0, 46, 0), (47, .aload_n 0, 48, 0), (48, .getfield 7, 51, 0), (51, .iload_n 2, 52, 0), (52, .iaload, 53, 0), (53, .istore_n 3, 54, 0), (54, .iconst 0, 55, 0), (55, .istore 4, 57, 0), (57, .iload 4, 59, 0), (59, .bipush 6, 61, 0), (61, .if_icmp .ge 33, 64, 94), (64, .aload_n 0, 65, 0), (65, .getfield 7, 68, 0), (68, .iload 4, 70, 0), (70, .iaload, 71, 0), (71, .iload_n 3, 72, 0), (72, .if_icmp .ne 16, 75, 88), (75, .aload_n 0, 76, 0), (76, .getfield 7, 79, 0), (79, .iload 4, 81, 0), (81, .aload_n 0, 82, 0), (82, .getfield 7, 85, 0), (85, .iload_n 1, 86, 0), (86, .iaload, 87, 0), (87, .iastore, 88, 0), (88, .iinc 4 1, 91, 0), (91, .goto (-34), 94, 57), (94, .iconst 1, 95, 0)]
theorem T3_patch_ok : (T3_patch).all (k_dck (k_cc Y3_patch)) = true := by decide +kernel
theorem d3_patch_4 : decode (k_cc Y3_patch) 4 = .ok (.invokestatic 99, 3) := by decide +kernel
theorem d3_patch_11 : decode (k_cc Y3_patch) 11 = .ok (.invokestatic 99, 3) := by decide +kernel
theorem d3_patch_24 : decode (k_cc Y3_patch) 24 = .ok (.invokevirtual 85, 3) := by decide +kernel
theorem d3_patch_46 : decode (k_cc Y3_patch) 46 = .ok (.ireturn, 1) := by decide +kernel
theorem d3_patch_95 : decode (k_cc Y3_patch) 95 = .ok (.ireturn, 1) := by decide +kernel
def Y3_limit : k_Y := (3, yX3_limit, cX3_limit, 2, none, 1, 27, [])
def T3_limit : List (Nat × Instr × Nat × Nat) := [(0, .aload_n 0, 1, 0), (1, .iconst 2, 2, 0), (2, .iconst 1, 3, 0), (3, .iload_n 1, 4, 0), (4, .iconst 0, 5, 0), (5, .sipush 1000, 8, 0), (11, .iconst 1, 12, 0), (12, .iconst 1, 13, 0), (16, .ifCond .eq 8, 19, 24), (19, .aload_n 0, 20, 0), (20, .iload_n 1, 21, 0), (21, .putfield 89, 24, 0)]
theorem T3_limit_ok : (T3_limit).all (k_dck (k_cc Y3_limit)) = true := by decide +kernel
theorem d3_limit_8 : decode (k_cc Y3_limit) 8 = .ok (.invokestatic 72, 3) := by decide +kernel
theorem d3_limit_13 : decode (k_cc Y3_limit) 13 = .ok (.invokevirtual 85, 3) := by decide +kernel
theorem d3_limit_24 : decode (k_cc Y3_limit) 24 = .ok (.return_, 1) := by decide +kernel
end
section
def Y3_begins : k_Y := (3, yX3_begins, cX3_begins, 4, (some .boolean), 0, 0, [])
def T3_begins : List (Nat × Instr × Nat × Nat) := [(0, .iconst 0, 1, 0), (1, .istore_n 3, 2, 0), (2, .iload_n 3, 3, 0), (3, .aload_n 0, 4, 0), (4, .getfield 79, 7, 0), (7, .if_icmp .ge 31, 10, 38), (10, .aload_n 0, 11, 0), (11, .getfield 37, 14, 0), (14, .iload_n 3, 15, 0), (15, .iaload, 16, 0), (16, .iload_n 1, 17, 0), (17, .if_icmp .ne 15, 20, 32), (20, .aload_n 0, 21, 0), (21, .getfield 40, 24, 0), (24, .iload_n 3, 25, 0), (25, .iaload, 26, 0), (26, .iload_n 2, 27, 0), (27, .if_icmp .ne 5, 30, 32), (30, .iconst 1, 31, 0), (32, .iinc 3 1, 35, 0), (35, .goto (-33), 38, 2), (38, .iconst 0, 39, 0)]
theorem T3_begins_ok : (T3_begins).all (k_dck (k_cc Y3_begins)) = true := by decide +kernel
theorem d3_begins_31 : decode (k_cc Y3_begins) 31 = .ok (.ireturn, 1) := by decide +kernel
theorem d3_begins_39 : decode (k_cc Y3_begins) 39 = .ok (.ireturn, 1) := by decide +kernel
def Y3_add : k_Y := (3, yX3_add, cX3_add, 5, (some .int), 0, 0, [])
def T3_add : List (Nat × Instr × Nat × Nat) := [(0, .aload_n 0, 1, 0), (1, .getfield 37, 4, 0), (4, .aload_n 0, 5, 0), (5, .getfield 79, 8, 0), (8, .iload_n 1, 9, 0), (9, .iastore, 10, 0), (10, .aload_n 0, 11, 0), (11, .getfield 40, 14, 0), (14, .aload_n 0, 15, 0), (15, .getfield 79, 18, 0), (18, .iload_n 2, 19, 0), (19, .iastore, 20, 0), (20, .aload_n 0, 21, 0), (21, .getfield 43, 24, 0), (24, .aload_n 0, 25, 0), (25, .getfield 79, 28, 0), (28, .iload_n 3, 29, 0), (29, .iastore, 30, 0), (30, .aload_n 0, 31, 0), (31, .getfield 46, 34, 0), (34, .aload_n 0, 35, 0), (35, .getfield 79, 38, 0), (38, .iload 4, 40, 0), (40, .iastore, 41, 0), (41, .aload_n 0, 42, 0), (42, .getfield 49, 45, 0), (45, .aload_n 0, 46, 0), (46, .getfield 79, 49, 0), (49, .aload_n 0, 50, 0), (50, .getfield 22, 53, 0), (53, .iload_n 1, 54, 0), (54, .iaload, 55, 0), (55, .iastore, 56, 0), (56, .aload_n 0, 57, 0), (57, .dup, 58, 0), (58, .getfield 79, 61, 0), (61, .iconst 1, 62, 0), (62, .iadd, 63, 0), (63, .putfield 79, 66, 0), (66, .aload_n 0, 67, 0), (67, .getfield 79, 70, 0), (70, .iconst 1, 71, 0), (71, .isub, 72, 0)]
theorem T3_add_ok : (T3_add).all (k_dck (k_cc Y3_add)) = true := by decide +kernel
theorem d3_add_57 : decode (k_cc Y3_add) 57 = .ok (.dup, 1) := by decide +kernel
theorem d3_add_72 : decode (k_cc Y3_add) 72 = .ok (.ireturn, 1) := by decide +kernel
def Y3_speak : k_Y := (3, yX3_speak, cX3_speak, 5, (some .int), 2, 43, [])
def T3_speak : List (Nat × Instr × Nat × Nat) := [(0, .aload_n 0, 1, 0), (1, .bipush 15, 3, 0), (3, .aload_n 0, 4, 0), (4, .iload_n 1, 5, 0), (8, .aload_n 0, 9, 0), (9, .iload_n 2, 10, 0), (13, .ifCond .eq 28, 16, 41), (16, .iload_n 3, 17, 0), (17, .iconst 0, 18, 0), (18, .bipush 99, 20, 0), (23, .ifCond .eq 18, 26, 41), (26, .iload 4, 28, 0), (28, .iconst 0, 29, 0), (29, .bipush 9, 31, 0), (34, .ifCond .eq 7, 37, 41), (37, .iconst 1, 38, 0), (38, .goto 4, 41, 42), (41, .iconst 0, 42, 0), (42, .aload_n 0, 43, 0), (43, .iload_n 1, 44, 0), (44, .iload_n 2, 45, 0), (48, .ifCond .ne 7, 51, 55), (51, .iconst 1, 52, 0), (52, .goto 4, 55, 56), (55, .iconst 0, 56, 0), (56, .aload_n 0, 57, 0), (57, .getfield 79, 60, 0), (60, .bipush 60, 62, 0), (62, .if_icmp .ge 7, 65, 69), (65, .iconst 1, 66, 0), (66, .goto 4, 69, 70), (69, .iconst 0, 70, 0), (73, .ifCond .ne 5, 76, 78), (76, .iconst 0, 77, 0), (78, .aload_n 0, 79, 0), (79, .iload_n 1, 80, 0), (80, .iload_n 2, 81, 0), (81, .iload_n 3, 82, 0), (82, .iload 4, 84, 0)]
theorem T3_speak_ok : (T3_speak).all (k_dck (k_cc Y3_speak)) = true := by decide +kernel
theorem d3_speak_5 : decode (k_cc Y3_speak) 5 = .ok (.invokevirtual 103, 3) := by decide +kernel
theorem d3_speak_10 : decode (k_cc Y3_speak) 10 = .ok (.invokevirtual 106, 3) := by decide +kernel
theorem d3_speak_20 : decode (k_cc Y3_speak) 20 = .ok (.invokestatic 72, 3) := by decide +kernel
theorem d3_speak_31 : decode (k_cc Y3_speak) 31 = .ok (.invokestatic 72, 3) := by decide +kernel
theorem d3_speak_45 : decode (k_cc Y3_speak) 45 = .ok (.invokevirtual 109, 3) := by decide +kernel
theorem d3_speak_70 : decode (k_cc Y3_speak) 70 = .ok (.invokevirtual 85, 3) := by decide +kernel
theorem d3_speak_77 : decode (k_cc Y3_speak) 77 = .ok (.ireturn, 1) := by decide +kernel
theorem d3_speak_84 : decode (k_cc Y3_speak) 84 = .ok (.invokevirtual 112, 3) := by decide +kernel
theorem d3_speak_87 : decode (k_cc Y3_speak) 87 = .ok (.ireturn, 1) := by decide +kernel
def Y3_relay : k_Y := (3, yX3_relay, cX3_relay, 8, (some .int), 4, 94, [])
def T3_relay : List (Nat × Instr × Nat × Nat) := [(0, .aload_n 0, 1, 0), (1, .iload_n 1, 2, 0), (5, .ifCond .eq 15, 8, 20), (8, .aload_n 0, 9, 0), (9, .iload_n 2, 10, 0), (13, .ifCond .eq 7, 16, 20), (16, .iconst 1, 17, 0), (17, .goto 4, 20, 21), (20, .iconst 0, 21, 0), (21, .istore 5, 23, 0), (23, .aload_n 0, 24, 0), (24, .iload_n 3, 25, 0), (28, .ifCond .eq 18, 31, 46), (31, .iload 4, 33, 0), (33, .iconst 0, 34, 0), (34, .bipush 9, 36, 0), (39, .ifCond .eq 7, 42, 46), (42, .iconst 1, 43, 0), (43, .goto 4, 46, 47), (46, .iconst 0, 47, 0), (47, .istore 6, 49, 0), (49, .iload 5, 51, 0), (51, .ifCond .eq 39, 54, 90), (54, .iload 6, 56, 0), (56, .ifCond .eq 34, 59, 90), (59, .aload_n 0, 60, 0), (60, .iload_n 1, 61, 0), (61, .iload_n 3, 62, 0), (65, .ifCond .ne 25, 68, 90), (68, .aload_n 0, 69, 0), (69, .iload_n 1, 70, 0), (70, .iload_n 2, 71, 0), (74, .ifCond .eq 16, 77, 90), (77, .aload_n 0, 78, 0), (78, .getfield 62, 81, 0), (81, .iload_n 2, 82, 0), (82, .iaload, 83, 0), (83, .ifCond .ne 7, 86, 90), (86, .iconst 1, 87, 0), (87, .goto 4, 90, 91), (90, .iconst 0, 91, 0), (91, .istore 7, 93, 0), (93, .aload_n 0, 94, 0), (94, .bipush 15, 96, 0), (96, .iload 5, 98, 0), (98, .iload 6, 100, 0), (100, .iload 7, 102, 0), (102, .aload_n 0, 103, 0), (103, .getfield 79, 106, 0), (106, .bipush 60, 108, 0), (108, .if_icmp .ge 7, 111, 115), (111, .iconst 1, 112, 0), (112, .goto 4, 115, 116), (115, .iconst 0, 116, 0), (119, .ifCond .ne 5, 122, 124), (122, .iconst 0, 123, 0), (124, .aload_n 0, 125, 0), (125, .iload_n 1, 126, 0), (126, .iload_n 3, 127, 0), (127, .aload_n 0, 128, 0), (128, .getfield 43, 131, 0), (131, .iload_n 2, 132, 0), (132, .iaload, 133, 0), (133, .iload 4, 135, 0)]
theorem T3_relay_ok : (T3_relay).all (k_dck (k_cc Y3_relay)) = true := by decide +kernel
theorem d3_relay_2 : decode (k_cc Y3_relay) 2 = .ok (.invokevirtual 103, 3) := by decide +kernel
theorem d3_relay_10 : decode (k_cc Y3_relay) 10 = .ok (.invokevirtual 116, 3) := by decide +kernel
theorem d3_relay_25 : decode (k_cc Y3_relay) 25 = .ok (.invokevirtual 106, 3) := by decide +kernel
theorem d3_relay_36 : decode (k_cc Y3_relay) 36 = .ok (.invokestatic 72, 3) := by decide +kernel
theorem d3_relay_62 : decode (k_cc Y3_relay) 62 = .ok (.invokevirtual 109, 3) := by decide +kernel
theorem d3_relay_71 : decode (k_cc Y3_relay) 71 = .ok (.invokevirtual 119, 3) := by decide +kernel
theorem d3_relay_116 : decode (k_cc Y3_relay) 116 = .ok (.invokevirtual 85, 3) := by decide +kernel
theorem d3_relay_123 : decode (k_cc Y3_relay) 123 = .ok (.ireturn, 1) := by decide +kernel
theorem d3_relay_135 : decode (k_cc Y3_relay) 135 = .ok (.invokevirtual 112, 3) := by decide +kernel
theorem d3_relay_138 : decode (k_cc Y3_relay) 138 = .ok (.ireturn, 1) := by decide +kernel
def Y3_lose : k_Y := (3, yX3_lose, cX3_lose, 2, (some .boolean), 2, 43, [])
def T3_lose : List (Nat × Instr × Nat × Nat) := [(0, .aload_n 0, 1, 0), (1, .iconst 2, 2, 0), (2, .iconst 1, 3, 0), (3, .aload_n 0, 4, 0), (4, .iload_n 1, 5, 0), (8, .iconst 1, 9, 0), (9, .iconst 1, 10, 0), (13, .ifCond .ne 5, 16, 18), (16, .iconst 0, 17, 0), (18, .aload_n 0, 19, 0), (19, .getfield 52, 22, 0), (22, .iload_n 1, 23, 0), (23, .aload_n 0, 24, 0), (24, .getfield 52, 27, 0), (27, .iload_n 1, 28, 0), (28, .baload, 29, 0), (29, .ifCond .ne 7, 32, 36), (32, .iconst 1, 33, 0), (33, .goto 4, 36, 37), (36, .iconst 0, 37, 0), (37, .bastore, 38, 0), (38, .aload_n 0, 39, 0), (39, .getfield 52, 42, 0), (42, .iload_n 1, 43, 0), (43, .baload, 44, 0)]
theorem T3_lose_ok : (T3_lose).all (k_dck (k_cc Y3_lose)) = true := by decide +kernel
theorem d3_lose_5 : decode (k_cc Y3_lose) 5 = .ok (.invokevirtual 106, 3) := by decide +kernel
theorem d3_lose_10 : decode (k_cc Y3_lose) 10 = .ok (.invokevirtual 85, 3) := by decide +kernel
theorem d3_lose_17 : decode (k_cc Y3_lose) 17 = .ok (.ireturn, 1) := by decide +kernel
theorem d3_lose_44 : decode (k_cc Y3_lose) 44 = .ok (.ireturn, 1) := by decide +kernel
def Y3_caller : k_Y := (3, yX3_caller, cX3_caller, 6, (some .int), 0, 0, [])
def T3_caller : List (Nat × Instr × Nat × Nat) := [(0, .iconst (-1), 1, 0), (1, .istore_n 3, 2, 0), (2, .iconst 1, 3, 0), (3, .istore 4, 5, 0), (5, .iconst 0, 6, 0), (6, .istore 5, 8, 0), (8, .iload 5, 10, 0), (10, .aload_n 0, 11, 0), (11, .getfield 79, 14, 0), (14, .if_icmp .ge 107, 17, 121), (17, .aload_n 0, 18, 0), (18, .getfield 7, 21, 0), (21, .aload_n 0, 22, 0), (22, .getfield 49, 25, 0), (25, .iload 5, 27, 0), (27, .iaload, 28, 0), (28, .iaload, 29, 0), (29, .iload_n 1, 30, 0), (30, .if_icmp .ne 85, 33, 115), (33, .aload_n 0, 34, 0), (34, .getfield 40, 37, 0), (37, .iload 5, 39, 0), (39, .iaload, 40, 0), (40, .iload_n 2, 41, 0), (41, .if_icmp .eq 6, 44, 47), (44, .goto 71, 47, 115), (47, .aload_n 0, 48, 0), (48, .getfield 62, 51, 0), (51, .iload 5, 53, 0), (53, .iconst 3, 54, 0), (54, .iastore, 55, 0), (55, .aload_n 0, 56, 0), (56, .getfield 65, 59, 0), (59, .iload 5, 61, 0), (61, .iconst 0, 62, 0), (62, .iastore, 63, 0), (63, .iload_n 3, 64, 0), (64, .ifCond .lt 22, 67, 86), (67, .aload_n 0, 68, 0), (68, .getfield 46, 71, 0), (71, .iload 5, 73, 0), (73, .iaload, 74, 0), (74, .aload_n 0, 75, 0), (75, .getfield 46, 78, 0), (78, .iload_n 3, 79, 0), (79, .iaload, 80, 0), (80, .if_icmp .ne 6, 83, 86), (83, .iconst 0, 84, 0), (84, .istore 4, 86, 0), (86, .iload_n 3, 87, 0), (87, .ifCond .lt 22, 90, 109), (90, .aload_n 0, 91, 0), (91, .getfield 46, 94, 0), (94, .iload 5, 96, 0), (96, .iaload, 97, 0), (97, .aload_n 0, 98, 0), (98, .getfield 46, 101, 0), (101, .iload_n 3, 102, 0), (102, .iaload, 103, 0), (103, .if_icmp .gt 6, 106, 109), (106, .goto 9, 109, 115), (109, .iload 5, 111, 0), (111, .istore_n 3, 112, 0), (112, .iconst 1, 113, 0), (113, .istore 4, 115, 0), (115, .iinc 5 1, 118, 0), (118, .goto (-110), 121, 8), (121, .iload 4, 123, 0), (123, .ifCond .eq 7, 126, 130), (126, .iload_n 3, 127, 0), (127, .goto 4, 130, 131), (130, .iconst (-1), 131, 0)]
theorem T3_caller_ok : (T3_caller).all (k_dck (k_cc Y3_caller)) = true := by decide +kernel
theorem d3_caller_131 : decode (k_cc Y3_caller) 131 = .ok (.ireturn, 1) := by decide +kernel
def Y3_most : k_Y := (3, yX3_most, cX3_most, 3, (some .int), 0, 0, [])
def T3_most : List (Nat × Instr × Nat × Nat) := [(0, .aload_n 0, 1, 0), (1, .getfield 43, 4, 0), (4, .iload_n 1, 5, 0), (5, .iaload, 6, 0), (6, .ifCond .le 12, 9, 18), (9, .aload_n 0, 10, 0), (10, .getfield 43, 13, 0), (13, .iload_n 1, 14, 0), (14, .iaload, 15, 0), (15, .goto 4, 18, 19), (18, .iconst 1, 19, 0), (19, .istore_n 2, 20, 0), (20, .aload_n 0, 21, 0), (21, .getfield 89, 24, 0), (24, .ifCond .le 18, 27, 42), (27, .aload_n 0, 28, 0), (28, .getfield 89, 31, 0), (31, .iload_n 2, 32, 0), (32, .if_icmp .ge 10, 35, 42), (35, .aload_n 0, 36, 0), (36, .getfield 89, 39, 0), (39, .goto 4, 42, 43), (42, .iload_n 2, 43, 0)]
theorem T3_most_ok : (T3_most).all (k_dck (k_cc Y3_most)) = true := by decide +kernel
theorem d3_most_43 : decode (k_cc Y3_most) 43 = .ok (.ireturn, 1) := by decide +kernel
def Y3_endOf : k_Y := (3, yX3_endOf, cX3_endOf, 2, (some .int), 1, 22, [])
def T3_endOf : List (Nat × Instr × Nat × Nat) := [(0, .aload_n 0, 1, 0), (1, .iload_n 1, 2, 0), (5, .aload_n 0, 6, 0), (6, .getfield 43, 9, 0), (9, .iload_n 1, 10, 0), (10, .iaload, 11, 0), (11, .if_icmp .ge 7, 14, 18), (14, .iconst 2, 15, 0), (15, .goto 4, 18, 19), (18, .iconst 0, 19, 0)]
theorem T3_endOf_ok : (T3_endOf).all (k_dck (k_cc Y3_endOf)) = true := by decide +kernel
theorem d3_endOf_2 : decode (k_cc Y3_endOf) 2 = .ok (.invokevirtual 122, 3) := by decide +kernel
theorem d3_endOf_19 : decode (k_cc Y3_endOf) 19 = .ok (.ireturn, 1) := by decide +kernel
def Y3_day0 : k_Y := (3, yX3_day0, cX3_day0, 8, none, 2, 43, [])
def T3_day0 : List (Nat × Instr × Nat × Nat) := [(0, .iconst (-1), 1, 0), (1, .istore_n 2, 2, 0), (2, .iconst (-1), 3, 0), (3, .istore_n 3, 4, 0), (4, .iconst 0, 5, 0), (5, .istore 4, 7, 0), (7, .iload 4, 9, 0), (9, .aload_n 0, 10, 0), (10, .getfield 82, 13, 0), (13, .if_icmp .ge 198, 16, 211), (16, .iload_n 3, 17, 0), (17, .ifCond .lt 5, 20, 22), (20, .iload_n 3, 21, 0), (21, .istore_n 2, 22, 0), (22, .iconst (-1), 23, 0), (23, .istore_n 3, 24, 0), (24, .aload_n 0, 25, 0), (25, .iload_n 1, 26, 0), (26, .iload 4, 28, 0), (31, .istore 5, 33, 0), (33, .iconst 0, 34, 0), (34, .istore 6, 36, 0), (36, .iload 5, 38, 0), (38, .ifCond .lt 13, 41, 51), (41, .iload_n 2, 42, 0), (42, .ifCond .ge 9, 45, 51), (45, .iload 5, 47, 0), (47, .istore_n 2, 48, 0), (48, .goto 38, 51, 86), (51, .iload 5, 53, 0), (53, .ifCond .lt 33, 56, 86), (56, .aload_n 0, 57, 0), (57, .getfield 46, 60, 0), (60, .iload_n 2, 61, 0), (61, .iaload, 62, 0), (62, .aload_n 0, 63, 0), (63, .getfield 46, 66, 0), (66, .iload 5, 68, 0), (68, .iaload, 69, 0), (69, .if_icmp .ge 17, 72, 86), (72, .iconst 1, 73, 0), (73, .istore 6, 75, 0), (75, .iload 5, 77, 0), (77, .istore_n 3, 78, 0), (78, .aload_n 0, 79, 0), (79, .getfield 62, 82, 0), (82, .iload 5, 84, 0), (84, .iconst 4, 85, 0), (85, .iastore, 86, 0), (86, .aload_n 0, 87, 0), (87, .getfield 56, 90, 0), (90, .iload 4, 92, 0), (92, .iload_n 2, 93, 0), (93, .iastore, 94, 0), (94, .iload_n 2, 95, 0), (95, .ifCond .ge 6, 98, 101), (98, .goto 107, 101, 205), (101, .aload_n 0, 102, 0), (102, .getfield 65, 105, 0), (105, .iload_n 2, 106, 0), (106, .dup2, 107, 0), (107, .iaload, 108, 0), (108, .iconst 1, 109, 0), (109, .iadd, 110, 0), (110, .iastore, 111, 0), (111, .aload_n 0, 112, 0), (112, .getfield 59, 115, 0), (115, .iload 4, 117, 0), (117, .aload_n 0, 118, 0), (118, .getfield 43, 121, 0), (121, .iload_n 2, 122, 0), (122, .iaload, 123, 0), (123, .ifCond .le 12, 126, 135), (126, .aload_n 0, 127, 0), (127, .getfield 65, 130, 0), (130, .iload_n 2, 131, 0), (131, .iaload, 132, 0), (132, .goto 4, 135, 136), (135, .iconst 0, 136, 0), (136, .iastore, 137, 0), (137, .aload_n 0, 138, 0), (138, .getfield 65, 141, 0), (141, .iload_n 2, 142, 0), (142, .iaload, 143, 0), (143, .aload_n 0, 144, 0), (144, .iload_n 2, 145, 0), (148, .if_icmp .ne 7, 151, 155), (151, .iconst 1, 152, 0), (152, .goto 4, 155, 156), (155, .iconst 0, 156, 0), (156, .istore 7, 158, 0), (158, .aload_n 0, 159, 0), (159, .getfield 62, 162, 0), (162, .iload_n 2, 163, 0), (163, .iload 7, 165, 0), (165, .ifCond .eq 11, 168, 176), (168, .aload_n 0, 169, 0), (169, .iload_n 2, 170, 0), (173, .goto 19, 176, 192), (176, .iload 4, 178, 0), (178, .aload_n 0, 179, 0), (179, .getfield 82, 182, 0), (182, .iconst 1, 183, 0), (183, .isub, 184, 0), (184, .if_icmp .ne 7, 187, 191), (187, .iconst 4, 188, 0), (188, .goto 4, 191, 192), (191, .iconst 1, 192, 0), (192, .iastore, 193, 0), (193, .iload 7, 195, 0), (195, .ifCond .ne 8, 198, 203), (198, .iload 6, 200, 0), (200, .ifCond .eq 5, 203, 205), (203, .iconst (-1), 204, 0), (204, .istore_n 2, 205, 0), (205, .iinc 4 1, 208, 0), (208, .goto (-201), 211, 7)]
theorem T3_day0_ok : (T3_day0).all (k_dck (k_cc Y3_day0)) = true := by decide +kernel
theorem d3_day0_28 : decode (k_cc Y3_day0) 28 = .ok (.invokevirtual 126, 3) := by decide +kernel
theorem d3_day0_145 : decode (k_cc Y3_day0) 145 = .ok (.invokevirtual 122, 3) := by decide +kernel
theorem d3_day0_170 : decode (k_cc Y3_day0) 170 = .ok (.invokevirtual 130, 3) := by decide +kernel
theorem d3_day0_211 : decode (k_cc Y3_day0) 211 = .ok (.return_, 1) := by decide +kernel
def Y3_isNear : k_Y := (3, yX3_isNear, cX3_isNear, 5, (some .boolean), 0, 0, [])
def T3_isNear : List (Nat × Instr × Nat × Nat) := [(0, .iload_n 0, 1, 0), (1, .iload_n 2, 2, 0), (2, .isub, 3, 0), (3, .iload_n 0, 4, 0), (4, .iload_n 2, 5, 0), (5, .isub, 6, 0), (6, .imul, 7, 0), (7, .iload_n 1, 8, 0), (8, .iload_n 3, 9, 0), (9, .isub, 10, 0), (10, .iload_n 1, 11, 0), (11, .iload_n 3, 12, 0), (12, .isub, 13, 0), (13, .imul, 14, 0), (14, .iadd, 15, 0), (15, .iload 4, 17, 0), (17, .iload 4, 19, 0), (19, .imul, 20, 0), (20, .if_icmp .gt 7, 23, 27), (23, .iconst 1, 24, 0), (24, .goto 4, 27, 28), (27, .iconst 0, 28, 0)]
theorem T3_isNear_ok : (T3_isNear).all (k_dck (k_cc Y3_isNear)) = true := by decide +kernel
theorem d3_isNear_28 : decode (k_cc Y3_isNear) 28 = .ok (.ireturn, 1) := by decide +kernel
def Y3_reaches : k_Y := (3, yX3_reaches, cX3_reaches, 5, (some .boolean), 1, 24, [])
def T3_reaches : List (Nat × Instr × Nat × Nat) := [(0, .aload_n 0, 1, 0), (1, .getfield 13, 4, 0), (4, .iload_n 1, 5, 0), (5, .iaload, 6, 0), (6, .aload_n 0, 7, 0), (7, .getfield 16, 10, 0), (10, .iload_n 1, 11, 0), (11, .iaload, 12, 0), (12, .aload_n 0, 13, 0), (13, .getfield 13, 16, 0), (16, .iload_n 2, 17, 0), (17, .iaload, 18, 0), (18, .aload_n 0, 19, 0), (19, .getfield 16, 22, 0), (22, .iload_n 2, 23, 0), (23, .iaload, 24, 0), (24, .aload_n 0, 25, 0), (25, .getfield 19, 28, 0), (28, .iload_n 1, 29, 0), (29, .iaload, 30, 0), (33, .ifCond .eq 5, 36, 38), (36, .iconst 1, 37, 0), (38, .iconst 0, 39, 0), (39, .istore 4, 41, 0), (41, .iload 4, 43, 0), (43, .aload_n 0, 44, 0), (44, .getfield 92, 47, 0), (47, .if_icmp .ge 107, 50, 154), (50, .aload_n 0, 51, 0), (51, .getfield 7, 54, 0), (54, .aload_n 0, 55, 0), (55, .getfield 34, 58, 0), (58, .iload 4, 60, 0), (60, .iaload, 61, 0), (61, .iaload, 62, 0), (62, .iload_n 3, 63, 0), (63, .if_icmp .ne 85, 66, 148), (66, .aload_n 0, 67, 0), (67, .getfield 13, 70, 0), (70, .iload_n 1, 71, 0), (71, .iaload, 72, 0), (72, .aload_n 0, 73, 0), (73, .getfield 16, 76, 0), (76, .iload_n 1, 77, 0), (77, .iaload, 78, 0), (78, .aload_n 0, 79, 0), (79, .getfield 25, 82, 0), (82, .iload 4, 84, 0), (84, .iaload, 85, 0), (85, .aload_n 0, 86, 0), (86, .getfield 28, 89, 0), (89, .iload 4, 91, 0), (91, .iaload, 92, 0), (92, .aload_n 0, 93, 0), (93, .getfield 19, 96, 0), (96, .iload_n 1, 97, 0), (97, .iaload, 98, 0), (101, .ifCond .ne 6, 104, 107), (104, .goto 44, 107, 148), (107, .aload_n 0, 108, 0), (108, .getfield 25, 111, 0), (111, .iload 4, 113, 0), (113, .iaload, 114, 0), (114, .aload_n 0, 115, 0), (115, .getfield 28, 118, 0), (118, .iload 4, 120, 0), (120, .iaload, 121, 0), (121, .aload_n 0, 122, 0), (122, .getfield 13, 125, 0), (125, .iload_n 2, 126, 0), (126, .iaload, 127, 0), (127, .aload_n 0, 128, 0), (128, .getfield 16, 131, 0), (131, .iload_n 2, 132, 0), (132, .iaload, 133, 0), (133, .aload_n 0, 134, 0), (134, .getfield 31, 137, 0), (137, .iload 4, 139, 0), (139, .iaload, 140, 0), (143, .ifCond .eq 5, 146, 148), (146, .iconst 1, 147, 0), (148, .iinc 4 1, 151, 0), (151, .goto (-110), 154, 41), (154, .iconst 0, 155, 0)]
theorem T3_reaches_ok : (T3_reaches).all (k_dck (k_cc Y3_reaches)) = true := by decide +kernel
theorem d3_reaches_30 : decode (k_cc Y3_reaches) 30 = .ok (.invokestatic 133, 3) := by decide +kernel
theorem d3_reaches_37 : decode (k_cc Y3_reaches) 37 = .ok (.ireturn, 1) := by decide +kernel
theorem d3_reaches_98 : decode (k_cc Y3_reaches) 98 = .ok (.invokestatic 133, 3) := by decide +kernel
theorem d3_reaches_140 : decode (k_cc Y3_reaches) 140 = .ok (.invokestatic 133, 3) := by decide +kernel
theorem d3_reaches_147 : decode (k_cc Y3_reaches) 147 = .ok (.ireturn, 1) := by decide +kernel
theorem d3_reaches_155 : decode (k_cc Y3_reaches) 155 = .ok (.ireturn, 1) := by decide +kernel
def Y3_gets : k_Y := (3, yX3_gets, cX3_gets, 4, (some .boolean), 2, 48, [])
def T3_gets : List (Nat × Instr × Nat × Nat) := [(0, .aload_n 0, 1, 0), (1, .getfield 56, 4, 0), (4, .iload_n 2, 5, 0), (5, .iaload, 6, 0), (6, .istore_n 3, 7, 0), (7, .iload_n 3, 8, 0), (8, .ifCond .lt 51, 11, 59), (11, .aload_n 0, 12, 0), (12, .getfield 37, 15, 0), (15, .iload_n 3, 16, 0), (16, .iaload, 17, 0), (17, .iload_n 1, 18, 0), (18, .if_icmp .eq 41, 21, 59), (21, .aload_n 0, 22, 0), (22, .getfield 52, 25, 0), (25, .iload_n 2, 26, 0), (26, .baload, 27, 0), (27, .ifCond .ne 32, 30, 59), (30, .aload_n 0, 31, 0), (31, .aload_n 0, 32, 0), (32, .getfield 37, 35, 0), (35, .iload_n 3, 36, 0), (36, .iaload, 37, 0), (37, .iload_n 1, 38, 0), (38, .aload_n 0, 39, 0), (39, .getfield 7, 42, 0), (42, .aload_n 0, 43, 0), (43, .getfield 22, 46, 0), (46, .iload_n 1, 47, 0), (47, .iaload, 48, 0), (48, .iaload, 49, 0), (52, .ifCond .eq 7, 55, 59), (55, .iconst 1, 56, 0), (56, .goto 4, 59, 60), (59, .iconst 0, 60, 0)]
theorem T3_gets_ok : (T3_gets).all (k_dck (k_cc Y3_gets)) = true := by decide +kernel
theorem d3_gets_49 : decode (k_cc Y3_gets) 49 = .ok (.invokevirtual 137, 3) := by decide +kernel
theorem d3_gets_60 : decode (k_cc Y3_gets) 60 = .ok (.ireturn, 1) := by decide +kernel
def Y3_hears : k_Y := (3, yX3_hears, cX3_hears, 3, (some .int), 3, 71, [])
def T3_hears : List (Nat × Instr × Nat × Nat) := [(0, .aload_n 0, 1, 0), (1, .iconst 3, 2, 0), (2, .aload_n 0, 3, 0), (3, .iload_n 1, 4, 0), (7, .aload_n 0, 8, 0), (8, .iload_n 2, 9, 0), (12, .iconst 1, 13, 0), (13, .iconst 1, 14, 0), (17, .ifCond .ne 5, 20, 22), (20, .iconst 0, 21, 0), (22, .aload_n 0, 23, 0), (23, .aload_n 0, 24, 0), (24, .getfield 7, 27, 0), (27, .aload_n 0, 28, 0), (28, .getfield 22, 31, 0), (31, .iload_n 1, 32, 0), (32, .iaload, 33, 0), (33, .iaload, 34, 0), (37, .aload_n 0, 38, 0), (38, .iload_n 1, 39, 0), (39, .iload_n 2, 40, 0), (43, .ifCond .eq 24, 46, 67), (46, .bipush 100, 48, 0), (48, .aload_n 0, 49, 0), (49, .getfield 56, 52, 0), (52, .iload_n 2, 53, 0), (53, .iaload, 54, 0), (54, .iconst 1, 55, 0), (55, .iadd, 56, 0), (56, .imul, 57, 0), (57, .aload_n 0, 58, 0), (58, .getfield 59, 61, 0), (61, .iload_n 2, 62, 0), (62, .iaload, 63, 0), (63, .iadd, 64, 0), (64, .goto 4, 67, 68), (67, .iconst 0, 68, 0)]
theorem T3_hears_ok : (T3_hears).all (k_dck (k_cc Y3_hears)) = true := by decide +kernel
theorem d3_hears_4 : decode (k_cc Y3_hears) 4 = .ok (.invokevirtual 103, 3) := by decide +kernel
theorem d3_hears_9 : decode (k_cc Y3_hears) 9 = .ok (.invokevirtual 106, 3) := by decide +kernel
theorem d3_hears_14 : decode (k_cc Y3_hears) 14 = .ok (.invokevirtual 85, 3) := by decide +kernel
theorem d3_hears_21 : decode (k_cc Y3_hears) 21 = .ok (.ireturn, 1) := by decide +kernel
theorem d3_hears_34 : decode (k_cc Y3_hears) 34 = .ok (.invokevirtual 140, 3) := by decide +kernel
theorem d3_hears_40 : decode (k_cc Y3_hears) 40 = .ok (.invokevirtual 144, 3) := by decide +kernel
theorem d3_hears_68 : decode (k_cc Y3_hears) 68 = .ok (.ireturn, 1) := by decide +kernel
def Y3_heardAll : k_Y := (3, yX3_heardAll, cX3_heardAll, 4, (some .boolean), 3, 71, [])
def T3_heardAll : List (Nat × Instr × Nat × Nat) := [(0, .aload_n 0, 1, 0), (1, .aload_n 0, 2, 0), (2, .getfield 7, 5, 0), (5, .aload_n 0, 6, 0), (6, .getfield 49, 9, 0), (9, .iload_n 2, 10, 0), (10, .iaload, 11, 0), (11, .iaload, 12, 0), (15, .aload_n 0, 16, 0), (16, .getfield 7, 19, 0), (19, .aload_n 0, 20, 0), (20, .getfield 22, 23, 0), (23, .iload_n 1, 24, 0), (24, .iaload, 25, 0), (25, .iaload, 26, 0), (26, .aload_n 0, 27, 0), (27, .getfield 7, 30, 0), (30, .aload_n 0, 31, 0), (31, .getfield 49, 34, 0), (34, .iload_n 2, 35, 0), (35, .iaload, 36, 0), (36, .iaload, 37, 0), (37, .if_icmp .ne 12, 40, 49), (40, .aload_n 0, 41, 0), (41, .getfield 65, 44, 0), (44, .iload_n 2, 45, 0), (45, .iaload, 46, 0), (46, .ifCond .ne 5, 49, 51), (49, .iconst 0, 50, 0), (51, .iconst 0, 52, 0), (52, .istore_n 3, 53, 0), (53, .iload_n 3, 54, 0), (54, .aload_n 0, 55, 0), (55, .getfield 82, 58, 0), (58, .if_icmp .ge 30, 61, 88), (61, .aload_n 0, 62, 0), (62, .getfield 56, 65, 0), (65, .iload_n 3, 66, 0), (66, .iaload, 67, 0), (67, .iload_n 2, 68, 0), (68, .if_icmp .ne 14, 71, 82), (71, .aload_n 0, 72, 0), (72, .iload_n 1, 73, 0), (73, .iload_n 3, 74, 0), (77, .ifCond .ne 5, 80, 82), (80, .iconst 0, 81, 0), (82, .iinc 3 1, 85, 0), (85, .goto (-32), 88, 53), (88, .iconst 1, 89, 0)]
theorem T3_heardAll_ok : (T3_heardAll).all (k_dck (k_cc Y3_heardAll)) = true := by decide +kernel
theorem d3_heardAll_12 : decode (k_cc Y3_heardAll) 12 = .ok (.invokevirtual 140, 3) := by decide +kernel
theorem d3_heardAll_50 : decode (k_cc Y3_heardAll) 50 = .ok (.ireturn, 1) := by decide +kernel
theorem d3_heardAll_74 : decode (k_cc Y3_heardAll) 74 = .ok (.invokevirtual 144, 3) := by decide +kernel
theorem d3_heardAll_81 : decode (k_cc Y3_heardAll) 81 = .ok (.ireturn, 1) := by decide +kernel
theorem d3_heardAll_89 : decode (k_cc Y3_heardAll) 89 = .ok (.ireturn, 1) := by decide +kernel
def Y3_on : k_Y := (3, yX3_on, cX3_on, 3, (some .int), 3, 70, [])
def T3_on : List (Nat × Instr × Nat × Nat) := [(0, .aload_n 0, 1, 0), (1, .iconst 3, 2, 0), (2, .iload_n 1, 3, 0), (6, .aload_n 0, 7, 0), (7, .iload_n 2, 8, 0), (11, .iconst 1, 12, 0), (12, .iconst 1, 13, 0), (16, .ifCond .ne 5, 19, 21), (19, .iconst 0, 20, 0), (21, .aload_n 0, 22, 0), (22, .aload_n 0, 23, 0), (23, .getfield 7, 26, 0), (26, .iload_n 1, 27, 0), (27, .iaload, 28, 0), (31, .aload_n 0, 32, 0), (32, .getfield 56, 35, 0), (35, .iload_n 2, 36, 0), (36, .iaload, 37, 0)]
theorem T3_on_ok : (T3_on).all (k_dck (k_cc Y3_on)) = true := by decide +kernel
theorem d3_on_3 : decode (k_cc Y3_on) 3 = .ok (.invokestatic 99, 3) := by decide +kernel
theorem d3_on_8 : decode (k_cc Y3_on) 8 = .ok (.invokevirtual 106, 3) := by decide +kernel
theorem d3_on_13 : decode (k_cc Y3_on) 13 = .ok (.invokevirtual 85, 3) := by decide +kernel
theorem d3_on_20 : decode (k_cc Y3_on) 20 = .ok (.ireturn, 1) := by decide +kernel
theorem d3_on_28 : decode (k_cc Y3_on) 28 = .ok (.invokevirtual 140, 3) := by decide +kernel
theorem d3_on_37 : decode (k_cc Y3_on) 37 = .ok (.ireturn, 1) := by decide +kernel
def Y3_ended : k_Y := (3, yX3_ended, cX3_ended, 2, (some .int), 3, 70, [])
def T3_ended : List (Nat × Instr × Nat × Nat) := [(0, .aload_n 0, 1, 0), (1, .iconst 1, 2, 0), (2, .aload_n 0, 3, 0), (3, .iload_n 1, 4, 0), (7, .iconst 1, 8, 0), (8, .iconst 1, 9, 0), (9, .iconst 1, 10, 0), (13, .ifCond .ne 5, 16, 18), (16, .iconst 0, 17, 0), (18, .aload_n 0, 19, 0), (19, .aload_n 0, 20, 0), (20, .getfield 7, 23, 0), (23, .aload_n 0, 24, 0), (24, .getfield 49, 27, 0), (27, .iload_n 1, 28, 0), (28, .iaload, 29, 0), (29, .iaload, 30, 0), (33, .aload_n 0, 34, 0), (34, .getfield 62, 37, 0), (37, .iload_n 1, 38, 0), (38, .iaload, 39, 0)]
theorem T3_ended_ok : (T3_ended).all (k_dck (k_cc Y3_ended)) = true := by decide +kernel
theorem d3_ended_4 : decode (k_cc Y3_ended) 4 = .ok (.invokevirtual 116, 3) := by decide +kernel
theorem d3_ended_10 : decode (k_cc Y3_ended) 10 = .ok (.invokevirtual 85, 3) := by decide +kernel
theorem d3_ended_17 : decode (k_cc Y3_ended) 17 = .ok (.ireturn, 1) := by decide +kernel
theorem d3_ended_30 : decode (k_cc Y3_ended) 30 = .ok (.invokevirtual 140, 3) := by decide +kernel
theorem d3_ended_39 : decode (k_cc Y3_ended) 39 = .ok (.ireturn, 1) := by decide +kernel
end
section
def Y3_length : k_Y := (3, yX3_length, cX3_length, 2, (some .int), 3, 70, [])
def T3_length : List (Nat × Instr × Nat × Nat) := [(0, .aload_n 0, 1, 0), (1, .iconst 1, 2, 0), (2, .aload_n 0, 3, 0), (3, .iload_n 1, 4, 0), (7, .iconst 1, 8, 0), (8, .iconst 1, 9, 0), (9, .iconst 1, 10, 0), (13, .ifCond .ne 5, 16, 18), (16, .iconst 0, 17, 0), (18, .aload_n 0, 19, 0), (19, .aload_n 0, 20, 0), (20, .getfield 7, 23, 0), (23, .aload_n 0, 24, 0), (24, .getfield 49, 27, 0), (27, .iload_n 1, 28, 0), (28, .iaload, 29, 0), (29, .iaload, 30, 0), (33, .aload_n 0, 34, 0), (34, .getfield 65, 37, 0), (37, .iload_n 1, 38, 0), (38, .iaload, 39, 0)]
theorem T3_length_ok : (T3_length).all (k_dck (k_cc Y3_length)) = true := by decide +kernel
theorem d3_length_4 : decode (k_cc Y3_length) 4 = .ok (.invokevirtual 116, 3) := by decide +kernel
theorem d3_length_10 : decode (k_cc Y3_length) 10 = .ok (.invokevirtual 85, 3) := by decide +kernel
theorem d3_length_17 : decode (k_cc Y3_length) 17 = .ok (.ireturn, 1) := by decide +kernel
theorem d3_length_30 : decode (k_cc Y3_length) 30 = .ok (.invokevirtual 140, 3) := by decide +kernel
theorem d3_length_39 : decode (k_cc Y3_length) 39 = .ok (.ireturn, 1) := by decide +kernel
def Y3_unheard : k_Y := (3, yX3_unheard, cX3_unheard, 5, (some .int), 4, 94, [])
def T3_unheard : List (Nat × Instr × Nat × Nat) := [(0, .aload_n 0, 1, 0), (1, .iconst 3, 2, 0), (2, .aload_n 0, 3, 0), (3, .iload_n 1, 4, 0), (7, .iload_n 2, 8, 0), (8, .ifCond .lt 7, 11, 15), (11, .iconst 1, 12, 0), (12, .goto 4, 15, 16), (15, .iconst 0, 16, 0), (16, .iconst 1, 17, 0), (17, .iconst 1, 18, 0), (21, .ifCond .ne 5, 24, 26), (24, .iconst 0, 25, 0), (26, .iload_n 2, 27, 0), (27, .istore_n 3, 28, 0), (28, .iconst 0, 29, 0), (29, .istore 4, 31, 0), (31, .iload 4, 33, 0), (33, .aload_n 0, 34, 0), (34, .getfield 76, 37, 0), (37, .if_icmp .ge 69, 40, 106), (40, .aload_n 0, 41, 0), (41, .getfield 7, 44, 0), (44, .aload_n 0, 45, 0), (45, .getfield 22, 48, 0), (48, .iload 4, 50, 0), (50, .iaload, 51, 0), (51, .iaload, 52, 0), (52, .aload_n 0, 53, 0), (53, .getfield 7, 56, 0), (56, .aload_n 0, 57, 0), (57, .getfield 49, 60, 0), (60, .iload_n 1, 61, 0), (61, .iaload, 62, 0), (62, .iaload, 63, 0), (63, .if_icmp .ne 37, 66, 100), (66, .iload 4, 68, 0), (68, .aload_n 0, 69, 0), (69, .getfield 37, 72, 0), (72, .iload_n 1, 73, 0), (73, .iaload, 74, 0), (74, .if_icmp .eq 26, 77, 100), (77, .aload_n 0, 78, 0), (78, .iload 4, 80, 0), (80, .iload_n 1, 81, 0), (84, .ifCond .eq 6, 87, 90), (87, .goto 13, 90, 100), (90, .iload_n 3, 91, 0), (91, .ifCond .ne 6, 94, 97), (94, .iload 4, 96, 0), (97, .iinc 3 (-1), 100, 0), (100, .iinc 4 1, 103, 0), (103, .goto (-72), 106, 31), (106, .iconst (-1), 107, 0)]
theorem T3_unheard_ok : (T3_unheard).all (k_dck (k_cc Y3_unheard)) = true := by decide +kernel
theorem d3_unheard_4 : decode (k_cc Y3_unheard) 4 = .ok (.invokevirtual 116, 3) := by decide +kernel
theorem d3_unheard_18 : decode (k_cc Y3_unheard) 18 = .ok (.invokevirtual 85, 3) := by decide +kernel
theorem d3_unheard_25 : decode (k_cc Y3_unheard) 25 = .ok (.ireturn, 1) := by decide +kernel
theorem d3_unheard_81 : decode (k_cc Y3_unheard) 81 = .ok (.invokevirtual 119, 3) := by decide +kernel
theorem d3_unheard_96 : decode (k_cc Y3_unheard) 96 = .ok (.ireturn, 1) := by decide +kernel
theorem d3_unheard_107 : decode (k_cc Y3_unheard) 107 = .ok (.ireturn, 1) := by decide +kernel
def Y3_used : k_Y := (3, yX3_used, cX3_used, 6, (some .int), 3, 70, [])
def T3_used : List (Nat × Instr × Nat × Nat) := [(0, .aload_n 0, 1, 0), (1, .iconst 3, 2, 0), (2, .iload_n 1, 3, 0), (6, .iload_n 2, 7, 0), (7, .iconst 0, 8, 0), (8, .aload_n 0, 9, 0), (9, .getfield 82, 12, 0), (15, .ifCond .eq 19, 18, 34), (18, .iload_n 3, 19, 0), (19, .iload_n 2, 20, 0), (20, .aload_n 0, 21, 0), (21, .getfield 82, 24, 0), (27, .ifCond .eq 7, 30, 34), (30, .iconst 1, 31, 0), (31, .goto 4, 34, 35), (34, .iconst 0, 35, 0), (35, .iconst 1, 36, 0), (36, .iconst 1, 37, 0), (40, .ifCond .ne 5, 43, 45), (43, .iconst 0, 44, 0), (45, .aload_n 0, 46, 0), (46, .aload_n 0, 47, 0), (47, .getfield 7, 50, 0), (50, .iload_n 1, 51, 0), (51, .iaload, 52, 0), (55, .iconst 0, 56, 0), (56, .istore 4, 58, 0), (58, .iload_n 2, 59, 0), (59, .istore 5, 61, 0), (61, .iload 5, 63, 0), (63, .iload_n 3, 64, 0), (64, .if_icmp .ge 22, 67, 86), (67, .aload_n 0, 68, 0), (68, .getfield 56, 71, 0), (71, .iload 5, 73, 0), (73, .iaload, 74, 0), (74, .ifCond .lt 6, 77, 80), (77, .iinc 4 1, 80, 0), (80, .iinc 5 1, 83, 0), (83, .goto (-22), 86, 61), (86, .iload 4, 88, 0)]
theorem T3_used_ok : (T3_used).all (k_dck (k_cc Y3_used)) = true := by decide +kernel
theorem d3_used_3 : decode (k_cc Y3_used) 3 = .ok (.invokestatic 99, 3) := by decide +kernel
theorem d3_used_12 : decode (k_cc Y3_used) 12 = .ok (.invokestatic 72, 3) := by decide +kernel
theorem d3_used_24 : decode (k_cc Y3_used) 24 = .ok (.invokestatic 72, 3) := by decide +kernel
theorem d3_used_37 : decode (k_cc Y3_used) 37 = .ok (.invokevirtual 85, 3) := by decide +kernel
theorem d3_used_44 : decode (k_cc Y3_used) 44 = .ok (.ireturn, 1) := by decide +kernel
theorem d3_used_52 : decode (k_cc Y3_used) 52 = .ok (.invokevirtual 140, 3) := by decide +kernel
theorem d3_used_88 : decode (k_cc Y3_used) 88 = .ok (.ireturn, 1) := by decide +kernel
def Y5_fill : k_Y := (5, yJ7_fill_53178, cJ7_fill_53178, 4, none, 0, 0, [])
def T5_fill : List (Nat × Instr × Nat × Nat) := [(0, .iconst 0, 1, 0), (1, .istore_n 2, 2, 0), (2, .aload_n 0, 3, 0), (3, .arraylength, 4, 0), (4, .istore_n 3, 5, 0), (5, .iload_n 2, 6, 0), (6, .iload_n 3, 7, 0), (7, .if_icmp .ge 13, 10, 20), (10, .aload_n 0, 11, 0), (11, .iload_n 2, 12, 0), (12, .iload_n 1, 13, 0), (13, .iastore, 14, 0), (14, .iinc 2 1, 17, 0), (17, .goto (-12), 20, 5)]
theorem T5_fill_ok : (T5_fill).all (k_dck (k_cc Y5_fill)) = true := by decide +kernel
theorem d5_fill_20 : decode (k_cc Y5_fill) 20 = .ok (.return_, 1) := by decide +kernel
def Y4_day : k_Y := (4, yL_day, cL_day, 3, (some .int), 8, 124, [(0, 5, 8, 13), (0, 5, 11, 15)])
def T4_day : List (Nat × Instr × Nat × Nat) := [(0, .aload_n 0, 1, 0), (1, .iload_n 1, 2, 0), (5, .goto 9, 8, 14), (8, .astore_n 2, 9, 0), (9, .iconst 1, 10, 0), (11, .astore_n 2, 12, 0), (12, .iconst 2, 13, 0), (14, .iconst 0, 15, 0)]
theorem T4_day_ok : (T4_day).all (k_dck (k_cc Y4_day)) = true := by decide +kernel
theorem d4_day_2 : decode (k_cc Y4_day) 2 = .ok (.invokevirtual 7, 3) := by decide +kernel
theorem d4_day_10 : decode (k_cc Y4_day) 10 = .ok (.ireturn, 1) := by decide +kernel
theorem d4_day_13 : decode (k_cc Y4_day) 13 = .ok (.ireturn, 1) := by decide +kernel
theorem d4_day_15 : decode (k_cc Y4_day) 15 = .ok (.ireturn, 1) := by decide +kernel
def Y4_unit : k_Y := (4, yL_unit, cL_unit, 7, (some .int), 10, 175, [(0, 14, 17, 21), (0, 14, 21, 23)])
def T4_unit : List (Nat × Instr × Nat × Nat) := [(0, .aload 5, 2, 0), (2, .iconst 0, 3, 0), (3, .aload_n 0, 4, 0), (4, .iload_n 1, 5, 0), (5, .iload_n 2, 6, 0), (6, .iload_n 3, 7, 0), (7, .iload 4, 9, 0), (12, .i2l, 13, 0), (13, .lastore, 14, 0), (14, .goto 11, 17, 25), (17, .astore 6, 19, 0), (19, .iconst 1, 20, 0), (21, .astore 6, 23, 0), (23, .iconst 2, 24, 0), (25, .iconst 0, 26, 0)]
theorem T4_unit_ok : (T4_unit).all (k_dck (k_cc Y4_unit)) = true := by decide +kernel
theorem d4_unit_9 : decode (k_cc Y4_unit) 9 = .ok (.invokevirtual 17, 3) := by decide +kernel
theorem d4_unit_20 : decode (k_cc Y4_unit) 20 = .ok (.ireturn, 1) := by decide +kernel
theorem d4_unit_24 : decode (k_cc Y4_unit) 24 = .ok (.ireturn, 1) := by decide +kernel
theorem d4_unit_26 : decode (k_cc Y4_unit) 26 = .ok (.ireturn, 1) := by decide +kernel
def Y4_go : k_Y := (4, yL_go, cL_go, 6, (some .int), 9, 150, [(0, 9, 12, 13), (0, 9, 16, 21)])
def T4_go : List (Nat × Instr × Nat × Nat) := [(0, .aload_n 0, 1, 0), (1, .iload_n 1, 2, 0), (2, .iload_n 2, 3, 0), (3, .iload_n 3, 4, 0), (4, .iload 4, 6, 0), (9, .goto 11, 12, 20), (12, .astore 5, 14, 0), (14, .iconst 1, 15, 0), (16, .astore 5, 18, 0), (18, .iconst 2, 19, 0), (20, .iconst 0, 21, 0)]
theorem T4_go_ok : (T4_go).all (k_dck (k_cc Y4_go)) = true := by decide +kernel
theorem d4_go_6 : decode (k_cc Y4_go) 6 = .ok (.invokevirtual 25, 3) := by decide +kernel
theorem d4_go_15 : decode (k_cc Y4_go) 15 = .ok (.ireturn, 1) := by decide +kernel
theorem d4_go_19 : decode (k_cc Y4_go) 19 = .ok (.ireturn, 1) := by decide +kernel
theorem d4_go_21 : decode (k_cc Y4_go) 21 = .ok (.ireturn, 1) := by decide +kernel
def Y4_repeater : k_Y := (4, yL_repeater, cL_repeater, 7, (some .int), 10, 175, [(0, 14, 17, 21), (0, 14, 21, 23)])
def T4_repeater : List (Nat × Instr × Nat × Nat) := [(0, .aload 5, 2, 0), (2, .iconst 0, 3, 0), (3, .aload_n 0, 4, 0), (4, .iload_n 1, 5, 0), (5, .iload_n 2, 6, 0), (6, .iload_n 3, 7, 0), (7, .iload 4, 9, 0), (12, .i2l, 13, 0), (13, .lastore, 14, 0), (14, .goto 11, 17, 25), (17, .astore 6, 19, 0), (19, .iconst 1, 20, 0), (21, .astore 6, 23, 0), (23, .iconst 2, 24, 0), (25, .iconst 0, 26, 0)]
theorem T4_repeater_ok : (T4_repeater).all (k_dck (k_cc Y4_repeater)) = true := by decide +kernel
theorem d4_repeater_9 : decode (k_cc Y4_repeater) 9 = .ok (.invokevirtual 29, 3) := by decide +kernel
theorem d4_repeater_20 : decode (k_cc Y4_repeater) 20 = .ok (.ireturn, 1) := by decide +kernel
theorem d4_repeater_24 : decode (k_cc Y4_repeater) 24 = .ok (.ireturn, 1) := by decide +kernel
theorem d4_repeater_26 : decode (k_cc Y4_repeater) 26 = .ok (.ireturn, 1) := by decide +kernel
def Y4_patch : k_Y := (4, yL_patch, cL_patch, 5, (some .int), 8, 135, [(0, 17, 20, 21)])
def T4_patch : List (Nat × Instr × Nat × Nat) := [(0, .aload_n 3, 1, 0), (1, .iconst 0, 2, 0), (2, .aload_n 0, 3, 0), (3, .iload_n 1, 4, 0), (4, .iload_n 2, 5, 0), (8, .ifCond .eq 7, 11, 15), (11, .lconst 1, 12, 0), (12, .goto 4, 15, 16), (15, .lconst 0, 16, 0), (16, .lastore, 17, 0), (17, .goto 7, 20, 24), (20, .astore 4, 22, 0), (22, .iconst 1, 23, 0), (24, .iconst 0, 25, 0)]
theorem T4_patch_ok : (T4_patch).all (k_dck (k_cc Y4_patch)) = true := by decide +kernel
theorem d4_patch_5 : decode (k_cc Y4_patch) 5 = .ok (.invokevirtual 32, 3) := by decide +kernel
theorem d4_patch_23 : decode (k_cc Y4_patch) 23 = .ok (.ireturn, 1) := by decide +kernel
theorem d4_patch_25 : decode (k_cc Y4_patch) 25 = .ok (.ireturn, 1) := by decide +kernel
def Y4_limit : k_Y := (4, yL_limit, cL_limit, 3, (some .int), 8, 134, [(0, 5, 8, 21)])
def T4_limit : List (Nat × Instr × Nat × Nat) := [(0, .aload_n 0, 1, 0), (1, .iload_n 1, 2, 0), (5, .goto 6, 8, 11), (8, .astore_n 2, 9, 0), (9, .iconst 1, 10, 0), (11, .iconst 0, 12, 0)]
theorem T4_limit_ok : (T4_limit).all (k_dck (k_cc Y4_limit)) = true := by decide +kernel
theorem d4_limit_2 : decode (k_cc Y4_limit) 2 = .ok (.invokevirtual 36, 3) := by decide +kernel
theorem d4_limit_10 : decode (k_cc Y4_limit) 10 = .ok (.ireturn, 1) := by decide +kernel
theorem d4_limit_12 : decode (k_cc Y4_limit) 12 = .ok (.ireturn, 1) := by decide +kernel
def Y4_speak : k_Y := (4, yL_speak, cL_speak, 7, (some .int), 9, 162, [(0, 14, 17, 13), (0, 14, 21, 21), (0, 14, 25, 42), (0, 14, 29, 23)])
def T4_speak : List (Nat × Instr × Nat × Nat) := [(0, .aload 5, 2, 0), (2, .iconst 0, 3, 0), (3, .aload_n 0, 4, 0), (4, .iload_n 1, 5, 0), (5, .iload_n 2, 6, 0), (6, .iload_n 3, 7, 0), (7, .iload 4, 9, 0), (12, .i2l, 13, 0), (13, .lastore, 14, 0), (14, .goto 19, 17, 33), (17, .astore 6, 19, 0), (19, .iconst 1, 20, 0), (21, .astore 6, 23, 0), (23, .iconst 2, 24, 0), (25, .astore 6, 27, 0), (27, .iconst 3, 28, 0), (29, .astore 6, 31, 0), (31, .iconst 4, 32, 0), (33, .iconst 0, 34, 0)]
theorem T4_speak_ok : (T4_speak).all (k_dck (k_cc Y4_speak)) = true := by decide +kernel
theorem d4_speak_9 : decode (k_cc Y4_speak) 9 = .ok (.invokevirtual 39, 3) := by decide +kernel
theorem d4_speak_20 : decode (k_cc Y4_speak) 20 = .ok (.ireturn, 1) := by decide +kernel
theorem d4_speak_24 : decode (k_cc Y4_speak) 24 = .ok (.ireturn, 1) := by decide +kernel
theorem d4_speak_28 : decode (k_cc Y4_speak) 28 = .ok (.ireturn, 1) := by decide +kernel
theorem d4_speak_32 : decode (k_cc Y4_speak) 32 = .ok (.ireturn, 1) := by decide +kernel
theorem d4_speak_34 : decode (k_cc Y4_speak) 34 = .ok (.ireturn, 1) := by decide +kernel
def Y4_relay : k_Y := (4, yL_relay, cL_relay, 7, (some .int), 9, 162, [(0, 14, 17, 13), (0, 14, 21, 21), (0, 14, 25, 42), (0, 14, 29, 23)])
def T4_relay : List (Nat × Instr × Nat × Nat) := [(0, .aload 5, 2, 0), (2, .iconst 0, 3, 0), (3, .aload_n 0, 4, 0), (4, .iload_n 1, 5, 0), (5, .iload_n 2, 6, 0), (6, .iload_n 3, 7, 0), (7, .iload 4, 9, 0), (12, .i2l, 13, 0), (13, .lastore, 14, 0), (14, .goto 19, 17, 33), (17, .astore 6, 19, 0), (19, .iconst 1, 20, 0), (21, .astore 6, 23, 0), (23, .iconst 2, 24, 0), (25, .astore 6, 27, 0), (27, .iconst 3, 28, 0), (29, .astore 6, 31, 0), (31, .iconst 4, 32, 0), (33, .iconst 0, 34, 0)]
theorem T4_relay_ok : (T4_relay).all (k_dck (k_cc Y4_relay)) = true := by decide +kernel
theorem d4_relay_9 : decode (k_cc Y4_relay) 9 = .ok (.invokevirtual 44, 3) := by decide +kernel
theorem d4_relay_20 : decode (k_cc Y4_relay) 20 = .ok (.ireturn, 1) := by decide +kernel
theorem d4_relay_24 : decode (k_cc Y4_relay) 24 = .ok (.ireturn, 1) := by decide +kernel
theorem d4_relay_28 : decode (k_cc Y4_relay) 28 = .ok (.ireturn, 1) := by decide +kernel
theorem d4_relay_32 : decode (k_cc Y4_relay) 32 = .ok (.ireturn, 1) := by decide +kernel
theorem d4_relay_34 : decode (k_cc Y4_relay) 34 = .ok (.ireturn, 1) := by decide +kernel
def Y4_lose : k_Y := (4, yL_lose, cL_lose, 4, (some .int), 9, 145, [(0, 16, 19, 51)])
def T4_lose : List (Nat × Instr × Nat × Nat) := [(0, .aload_n 2, 1, 0), (1, .iconst 0, 2, 0), (2, .aload_n 0, 3, 0), (3, .iload_n 1, 4, 0), (7, .ifCond .eq 7, 10, 14), (10, .lconst 1, 11, 0), (11, .goto 4, 14, 15), (14, .lconst 0, 15, 0), (15, .lastore, 16, 0), (16, .goto 6, 19, 22), (19, .astore_n 3, 20, 0), (20, .iconst 1, 21, 0), (22, .iconst 0, 23, 0)]
theorem T4_lose_ok : (T4_lose).all (k_dck (k_cc Y4_lose)) = true := by decide +kernel
theorem d4_lose_4 : decode (k_cc Y4_lose) 4 = .ok (.invokevirtual 47, 3) := by decide +kernel
theorem d4_lose_21 : decode (k_cc Y4_lose) 21 = .ok (.ireturn, 1) := by decide +kernel
theorem d4_lose_23 : decode (k_cc Y4_lose) 23 = .ok (.ireturn, 1) := by decide +kernel
def Y4_hears : k_Y := (4, yL_hears, cL_hears, 5, (some .int), 9, 147, [(0, 10, 13, 13), (0, 10, 17, 51)])
def T4_hears : List (Nat × Instr × Nat × Nat) := [(0, .aload_n 3, 1, 0), (1, .iconst 0, 2, 0), (2, .aload_n 0, 3, 0), (3, .iload_n 1, 4, 0), (4, .iload_n 2, 5, 0), (8, .i2l, 9, 0), (9, .lastore, 10, 0), (10, .goto 11, 13, 21), (13, .astore 4, 15, 0), (15, .iconst 1, 16, 0), (17, .astore 4, 19, 0), (19, .iconst 2, 20, 0), (21, .iconst 0, 22, 0)]
theorem T4_hears_ok : (T4_hears).all (k_dck (k_cc Y4_hears)) = true := by decide +kernel
theorem d4_hears_5 : decode (k_cc Y4_hears) 5 = .ok (.invokevirtual 53, 3) := by decide +kernel
theorem d4_hears_16 : decode (k_cc Y4_hears) 16 = .ok (.ireturn, 1) := by decide +kernel
theorem d4_hears_20 : decode (k_cc Y4_hears) 20 = .ok (.ireturn, 1) := by decide +kernel
theorem d4_hears_22 : decode (k_cc Y4_hears) 22 = .ok (.ireturn, 1) := by decide +kernel
def Y4_on : k_Y := (4, yL_on, cL_on, 5, (some .int), 9, 146, [(0, 10, 13, 13), (0, 10, 17, 51)])
def T4_on : List (Nat × Instr × Nat × Nat) := [(0, .aload_n 3, 1, 0), (1, .iconst 0, 2, 0), (2, .aload_n 0, 3, 0), (3, .iload_n 1, 4, 0), (4, .iload_n 2, 5, 0), (8, .i2l, 9, 0), (9, .lastore, 10, 0), (10, .goto 11, 13, 21), (13, .astore 4, 15, 0), (15, .iconst 1, 16, 0), (17, .astore 4, 19, 0), (19, .iconst 2, 20, 0), (21, .iconst 0, 22, 0)]
theorem T4_on_ok : (T4_on).all (k_dck (k_cc Y4_on)) = true := by decide +kernel
theorem d4_on_5 : decode (k_cc Y4_on) 5 = .ok (.invokevirtual 57, 3) := by decide +kernel
theorem d4_on_16 : decode (k_cc Y4_on) 16 = .ok (.ireturn, 1) := by decide +kernel
theorem d4_on_20 : decode (k_cc Y4_on) 20 = .ok (.ireturn, 1) := by decide +kernel
theorem d4_on_22 : decode (k_cc Y4_on) 22 = .ok (.ireturn, 1) := by decide +kernel
def Y4_ended : k_Y := (4, yL_ended, cL_ended, 4, (some .int), 9, 145, [(0, 9, 12, 13)])
def T4_ended : List (Nat × Instr × Nat × Nat) := [(0, .aload_n 2, 1, 0), (1, .iconst 0, 2, 0), (2, .aload_n 0, 3, 0), (3, .iload_n 1, 4, 0), (7, .i2l, 8, 0), (8, .lastore, 9, 0), (9, .goto 6, 12, 15), (12, .astore_n 3, 13, 0), (13, .iconst 1, 14, 0), (15, .iconst 0, 16, 0)]
theorem T4_ended_ok : (T4_ended).all (k_dck (k_cc Y4_ended)) = true := by decide +kernel
theorem d4_ended_4 : decode (k_cc Y4_ended) 4 = .ok (.invokevirtual 60, 3) := by decide +kernel
theorem d4_ended_14 : decode (k_cc Y4_ended) 14 = .ok (.ireturn, 1) := by decide +kernel
theorem d4_ended_16 : decode (k_cc Y4_ended) 16 = .ok (.ireturn, 1) := by decide +kernel
def Y4_length : k_Y := (4, yL_length, cL_length, 4, (some .int), 9, 145, [(0, 9, 12, 13)])
def T4_length : List (Nat × Instr × Nat × Nat) := [(0, .aload_n 2, 1, 0), (1, .iconst 0, 2, 0), (2, .aload_n 0, 3, 0), (3, .iload_n 1, 4, 0), (7, .i2l, 8, 0), (8, .lastore, 9, 0), (9, .goto 6, 12, 15), (12, .astore_n 3, 13, 0), (13, .iconst 1, 14, 0), (15, .iconst 0, 16, 0)]
theorem T4_length_ok : (T4_length).all (k_dck (k_cc Y4_length)) = true := by decide +kernel
theorem d4_length_4 : decode (k_cc Y4_length) 4 = .ok (.invokevirtual 64, 3) := by decide +kernel
theorem d4_length_14 : decode (k_cc Y4_length) 14 = .ok (.ireturn, 1) := by decide +kernel
theorem d4_length_16 : decode (k_cc Y4_length) 16 = .ok (.ireturn, 1) := by decide +kernel
def Y4_unheard : k_Y := (4, yL_unheard, cL_unheard, 5, (some .int), 9, 148, [(0, 10, 13, 13), (0, 10, 17, 21)])
def T4_unheard : List (Nat × Instr × Nat × Nat) := [(0, .aload_n 3, 1, 0), (1, .iconst 0, 2, 0), (2, .aload_n 0, 3, 0), (3, .iload_n 1, 4, 0), (4, .iload_n 2, 5, 0), (8, .i2l, 9, 0), (9, .lastore, 10, 0), (10, .goto 11, 13, 21), (13, .astore 4, 15, 0), (15, .iconst 1, 16, 0), (17, .astore 4, 19, 0), (19, .iconst 2, 20, 0), (21, .iconst 0, 22, 0)]
theorem T4_unheard_ok : (T4_unheard).all (k_dck (k_cc Y4_unheard)) = true := by decide +kernel
theorem d4_unheard_5 : decode (k_cc Y4_unheard) 5 = .ok (.invokevirtual 67, 3) := by decide +kernel
theorem d4_unheard_16 : decode (k_cc Y4_unheard) 16 = .ok (.ireturn, 1) := by decide +kernel
theorem d4_unheard_20 : decode (k_cc Y4_unheard) 20 = .ok (.ireturn, 1) := by decide +kernel
theorem d4_unheard_22 : decode (k_cc Y4_unheard) 22 = .ok (.ireturn, 1) := by decide +kernel
def Y4_used : k_Y := (4, yL_used, cL_used, 6, (some .int), 9, 149, [(0, 12, 15, 13), (0, 12, 19, 21)])
def T4_used : List (Nat × Instr × Nat × Nat) := [(0, .aload 4, 2, 0), (2, .iconst 0, 3, 0), (3, .aload_n 0, 4, 0), (4, .iload_n 1, 5, 0), (5, .iload_n 2, 6, 0), (6, .iload_n 3, 7, 0), (10, .i2l, 11, 0), (11, .lastore, 12, 0), (12, .goto 11, 15, 23), (15, .astore 5, 17, 0), (17, .iconst 1, 18, 0), (19, .astore 5, 21, 0), (21, .iconst 2, 22, 0), (23, .iconst 0, 24, 0)]
theorem T4_used_ok : (T4_used).all (k_dck (k_cc Y4_used)) = true := by decide +kernel
theorem d4_used_7 : decode (k_cc Y4_used) 7 = .ok (.invokevirtual 70, 3) := by decide +kernel
theorem d4_used_18 : decode (k_cc Y4_used) 18 = .ok (.ireturn, 1) := by decide +kernel
theorem d4_used_22 : decode (k_cc Y4_used) 22 = .ok (.ireturn, 1) := by decide +kernel
theorem d4_used_24 : decode (k_cc Y4_used) 24 = .ok (.ireturn, 1) := by decide +kernel
end
section
set_option maxRecDepth 20000 in
theorem c0_43 : k_okV 0 43 4 Y0_setOn = true := by decide +kernel
set_option maxRecDepth 20000 in
theorem c1_29 : k_okV 1 29 4 Y1_move = true := by decide +kernel
set_option maxRecDepth 20000 in
theorem c2_11 : k_okI 2 11 1 Y1_init = true := by decide +kernel
set_option maxRecDepth 20000 in
theorem c2_23 : k_okI 2 23 1 Y0_init = true := by decide +kernel
set_option maxRecDepth 20000 in
theorem c2_39 : k_okV 2 39 0 Y2_forgetAll = true := by decide +kernel
set_option maxRecDepth 20000 in
theorem c2_58 : k_okV 2 58 5 Y2_place = true := by decide +kernel
set_option maxRecDepth 20000 in
theorem c2_62 : k_okV 2 62 1 Y2_needUnit = true := by decide +kernel
set_option maxRecDepth 20000 in
theorem c2_65 : k_okV 2 65 3 Y2_needPlace = true := by decide +kernel
set_option maxRecDepth 20000 in
theorem c2_69 : k_okV 2 69 4 Y1_move = true := by decide +kernel
set_option maxRecDepth 20000 in
theorem c2_73 : k_okV 2 73 1 Y2_isChannel = true := by decide +kernel
set_option maxRecDepth 20000 in
theorem c2_82 : k_okV 2 82 2 Y2_areJoined = true := by decide +kernel
set_option maxRecDepth 20000 in
theorem c2_86 : k_okV 2 86 2 Y2_joinGroups = true := by decide +kernel
set_option maxRecDepth 20000 in
theorem c2_90 : k_okV 2 90 0 Y2_planAll = true := by decide +kernel
set_option maxRecDepth 20000 in
theorem c2_98 : k_okV 2 98 2 Y2_needBegin = true := by decide +kernel
set_option maxRecDepth 20000 in
theorem c2_103 : k_okV 2 103 2 Y2_needFreeBegin = true := by decide +kernel
set_option maxRecDepth 20000 in
theorem c2_106 : k_okV 2 106 0 Y2_needRoomForMessage = true := by decide +kernel
set_option maxRecDepth 20000 in
theorem c2_109 : k_okV 2 109 4 Y2_tell = true := by decide +kernel
set_option maxRecDepth 20000 in
theorem c2_113 : k_okV 2 113 1 Y2_needMessage = true := by decide +kernel
set_option maxRecDepth 20000 in
theorem c2_119 : k_okV 2 119 2 Y2_heardAllSlots = true := by decide +kernel
set_option maxRecDepth 20000 in
theorem c2_130 : k_okV 2 130 1 Y2_needSlot = true := by decide +kernel
set_option maxRecDepth 20000 in
theorem c2_136 : k_okV 2 136 2 Y2_messageOn = true := by decide +kernel
set_option maxRecDepth 20000 in
theorem c2_140 : k_okV 2 140 2 Y2_receives = true := by decide +kernel
set_option maxRecDepth 20000 in
theorem c2_143 : k_okV 2 143 2 Y0_wordIn = true := by decide +kernel
set_option maxRecDepth 20000 in
theorem c2_146 : k_okV 2 146 1 Y2_needChannel = true := by decide +kernel
set_option maxRecDepth 20000 in
theorem c2_157 : k_okV 2 157 2 Y2_missed = true := by decide +kernel
set_option maxRecDepth 20000 in
theorem c2_164 : k_okV 2 164 3 Y0_slotsOnWithin = true := by decide +kernel
set_option maxRecDepth 20000 in
theorem c2_174 : k_okV 2 174 1 Y2_isSlot = true := by decide +kernel
set_option maxRecDepth 20000 in
theorem c2_190 : k_okV 2 190 2 Y0_hasBegin = true := by decide +kernel
set_option maxRecDepth 20000 in
theorem c2_202 : k_okV 2 202 0 Y1_isFull = true := by decide +kernel
set_option maxRecDepth 20000 in
theorem c2_208 : k_okV 2 208 4 Y1_add = true := by decide +kernel
set_option maxRecDepth 20000 in
theorem c2_211 : k_okV 2 211 5 Y0_add = true := by decide +kernel
end
section
set_option maxRecDepth 20000 in
theorem c2_214 : k_okSt 2 214 2 Y5_fill = true := by decide +kernel
set_option maxRecDepth 20000 in
theorem c2_220 : k_okV 2 220 1 Y2_plan = true := by decide +kernel
set_option maxRecDepth 20000 in
theorem c2_229 : k_okV 2 229 1 Y2_meetsItsBetter = true := by decide +kernel
set_option maxRecDepth 20000 in
theorem c2_232 : k_okV 2 232 1 Y0_markLost = true := by decide +kernel
set_option maxRecDepth 20000 in
theorem c2_235 : k_okV 2 235 2 Y0_isOn = true := by decide +kernel
set_option maxRecDepth 20000 in
theorem c2_238 : k_okV 2 238 2 Y2_putOn = true := by decide +kernel
set_option maxRecDepth 20000 in
theorem c2_244 : k_okV 2 244 2 Y0_cutAfter = true := by decide +kernel
set_option maxRecDepth 20000 in
theorem c2_247 : k_okV 2 247 2 Y0_beginsWith = true := by decide +kernel
set_option maxRecDepth 20000 in
theorem c2_250 : k_okV 2 250 2 Y2_keepsFromCalling = true := by decide +kernel
set_option maxRecDepth 20000 in
theorem c2_258 : k_okV 2 258 4 Y0_setOn = true := by decide +kernel
set_option maxRecDepth 20000 in
theorem c2_264 : k_okV 2 264 2 Y2_listensTo = true := by decide +kernel
set_option maxRecDepth 20000 in
theorem c2_267 : k_okV 2 267 3 Y1_reaches = true := by decide +kernel
set_option maxRecDepth 20000 in
theorem c2_271 : k_okV 2 271 2 Y2_receivesByRepeater = true := by decide +kernel
set_option maxRecDepth 20000 in
theorem c2_274 : k_okV 2 274 1 Y2_hasNoise = true := by decide +kernel
set_option maxRecDepth 20000 in
theorem c3_72 : k_okSt 3 72 3 Y3_in = true := by decide +kernel
set_option maxRecDepth 20000 in
theorem c3_85 : k_okV 3 85 5 Y3_goes = true := by decide +kernel
set_option maxRecDepth 20000 in
theorem c3_95 : k_okSt 3 95 2 Y3_isPoint = true := by decide +kernel
set_option maxRecDepth 20000 in
theorem c3_99 : k_okSt 3 99 1 Y3_isChannel = true := by decide +kernel
set_option maxRecDepth 20000 in
theorem c3_103 : k_okV 3 103 1 Y3_isUnit = true := by decide +kernel
set_option maxRecDepth 20000 in
theorem c3_106 : k_okV 3 106 1 Y3_isSlot = true := by decide +kernel
set_option maxRecDepth 20000 in
theorem c3_109 : k_okV 3 109 2 Y3_begins = true := by decide +kernel
set_option maxRecDepth 20000 in
theorem c3_112 : k_okV 3 112 4 Y3_add = true := by decide +kernel
set_option maxRecDepth 20000 in
theorem c3_116 : k_okV 3 116 1 Y3_isMessage = true := by decide +kernel
set_option maxRecDepth 20000 in
theorem c3_119 : k_okV 3 119 2 Y3_heardAll = true := by decide +kernel
set_option maxRecDepth 20000 in
theorem c3_122 : k_okV 3 122 1 Y3_most = true := by decide +kernel
set_option maxRecDepth 20000 in
theorem c3_126 : k_okV 3 126 2 Y3_caller = true := by decide +kernel
set_option maxRecDepth 20000 in
theorem c3_130 : k_okV 3 130 1 Y3_endOf = true := by decide +kernel
set_option maxRecDepth 20000 in
theorem c3_133 : k_okSt 3 133 5 Y3_isNear = true := by decide +kernel
set_option maxRecDepth 20000 in
theorem c3_137 : k_okV 3 137 3 Y3_reaches = true := by decide +kernel
set_option maxRecDepth 20000 in
theorem c3_140 : k_okV 3 140 1 Y3_day0 = true := by decide +kernel
set_option maxRecDepth 20000 in
theorem c3_144 : k_okV 3 144 2 Y3_gets = true := by decide +kernel
set_option maxRecDepth 20000 in
theorem c4_7 : k_okV 4 7 1 Y2_day = true := by decide +kernel
end
section
set_option maxRecDepth 20000 in
theorem c4_17 : k_okV 4 17 4 Y2_unit = true := by decide +kernel
set_option maxRecDepth 20000 in
theorem c4_25 : k_okV 4 25 4 Y2_go = true := by decide +kernel
set_option maxRecDepth 20000 in
theorem c4_29 : k_okV 4 29 4 Y2_repeater = true := by decide +kernel
set_option maxRecDepth 20000 in
theorem c4_32 : k_okV 4 32 2 Y2_patch = true := by decide +kernel
set_option maxRecDepth 20000 in
theorem c4_36 : k_okV 4 36 1 Y2_limit = true := by decide +kernel
set_option maxRecDepth 20000 in
theorem c4_39 : k_okV 4 39 4 Y2_speak = true := by decide +kernel
set_option maxRecDepth 20000 in
theorem c4_44 : k_okV 4 44 4 Y2_relay = true := by decide +kernel
set_option maxRecDepth 20000 in
theorem c4_47 : k_okV 4 47 1 Y2_lose = true := by decide +kernel
set_option maxRecDepth 20000 in
theorem c4_53 : k_okV 4 53 2 Y2_hears = true := by decide +kernel
set_option maxRecDepth 20000 in
theorem c4_57 : k_okV 4 57 2 Y2_on = true := by decide +kernel
set_option maxRecDepth 20000 in
theorem c4_60 : k_okV 4 60 1 Y2_ended = true := by decide +kernel
set_option maxRecDepth 20000 in
theorem c4_64 : k_okV 4 64 1 Y2_length = true := by decide +kernel
set_option maxRecDepth 20000 in
theorem c4_67 : k_okV 4 67 2 Y2_unheard = true := by decide +kernel
set_option maxRecDepth 20000 in
theorem c4_70 : k_okV 4 70 3 Y2_used = true := by decide +kernel
set_option maxRecDepth 20000 in
theorem c4_74 : k_okI 4 74 0 Y2_init = true := by decide +kernel
set_option maxRecDepth 20000 in
theorem c4_77 : k_okI 4 77 0 Y3_init = true := by decide +kernel
set_option maxRecDepth 20000 in
theorem c4_83 : k_okV 4 83 1 Y3_day = true := by decide +kernel
set_option maxRecDepth 20000 in
theorem c4_84 : k_okV 4 84 0 Y3_thrown = true := by decide +kernel
set_option maxRecDepth 20000 in
theorem c4_91 : k_okV 4 91 4 Y3_unit = true := by decide +kernel
set_option maxRecDepth 20000 in
theorem c4_95 : k_okV 4 95 4 Y3_go = true := by decide +kernel
set_option maxRecDepth 20000 in
theorem c4_98 : k_okV 4 98 4 Y3_repeater = true := by decide +kernel
set_option maxRecDepth 20000 in
theorem c4_102 : k_okV 4 102 2 Y3_patch = true := by decide +kernel
set_option maxRecDepth 20000 in
theorem c4_105 : k_okV 4 105 1 Y3_limit = true := by decide +kernel
set_option maxRecDepth 20000 in
theorem c4_108 : k_okV 4 108 4 Y3_speak = true := by decide +kernel
set_option maxRecDepth 20000 in
theorem c4_111 : k_okV 4 111 4 Y3_relay = true := by decide +kernel
set_option maxRecDepth 20000 in
theorem c4_115 : k_okV 4 115 1 Y3_lose = true := by decide +kernel
set_option maxRecDepth 20000 in
theorem c4_118 : k_okV 4 118 2 Y3_hears = true := by decide +kernel
set_option maxRecDepth 20000 in
theorem c4_121 : k_okV 4 121 2 Y3_on = true := by decide +kernel
set_option maxRecDepth 20000 in
theorem c4_124 : k_okV 4 124 1 Y3_ended = true := by decide +kernel
set_option maxRecDepth 20000 in
theorem c4_127 : k_okV 4 127 1 Y3_length = true := by decide +kernel
set_option maxRecDepth 20000 in
theorem c4_130 : k_okV 4 130 2 Y3_unheard = true := by decide +kernel
set_option maxRecDepth 20000 in
theorem c4_134 : k_okV 4 134 3 Y3_used = true := by decide +kernel
end
section
def Y4_law : k_Y := (4, yL_law, cL_law, 7, (some .boolean), 12, 446, [])
def T4_law0 : List (Nat × Instr × Nat × Nat) := [(3, .dup, 4, 0), (7, .astore_n 1, 8, 0), (11, .dup, 12, 0), (15, .astore_n 2, 16, 0), (16, .iconst 1, 17, 0), (19, .astore_n 3, 20, 0), (20, .iconst 0, 21, 0), (21, .istore 4, 23, 0), (23, .iload 4, 25, 0), (25, .aload_n 0, 26, 0), (26, .arraylength, 27, 0), (27, .iconst 5, 28, 0), (28, .isub, 29, 0), (29, .if_icmp .gt 1135, 32, 1164), (32, .aload_n 0, 33, 0), (33, .iload 4, 35, 0), (35, .iaload, 36, 0), (36, .bipush 15, 38, 0), (38, .iand, 39, 0)]
theorem T4_law0_ok : (T4_law0).all (k_dck (k_cc Y4_law)) = true := by decide +kernel
def T4_law2 : List (Nat × Instr × Nat × Nat) := [(112, .aload_n 1, 113, 0), (113, .aload_n 0, 114, 0), (114, .iload 4, 116, 0), (116, .iconst 1, 117, 0), (117, .iadd, 118, 0), (118, .iaload, 119, 0), (122, .istore 5, 124, 0), (124, .aload_n 2, 125, 0), (125, .aload_n 0, 126, 0), (126, .iload 4, 128, 0), (128, .iconst 1, 129, 0), (129, .iadd, 130, 0), (130, .iaload, 131, 0), (134, .aload_n 2, 135, 0), (138, .iload 5, 140, 0), (140, .if_icmp .eq 5, 143, 145), (143, .iconst 0, 144, 0), (145, .goto 1013, 148, 1158)]
theorem T4_law2_ok : (T4_law2).all (k_dck (k_cc Y4_law)) = true := by decide +kernel
def T4_law3 : List (Nat × Instr × Nat × Nat) := [(148, .aload_n 1, 149, 0), (149, .aload_n 0, 150, 0), (150, .iload 4, 152, 0), (152, .iconst 1, 153, 0), (153, .iadd, 154, 0), (154, .iaload, 155, 0), (155, .aload_n 0, 156, 0), (156, .iload 4, 158, 0), (158, .iconst 2, 159, 0), (159, .iadd, 160, 0), (160, .iaload, 161, 0), (161, .aload_n 0, 162, 0), (162, .iload 4, 164, 0), (164, .iconst 3, 165, 0), (165, .iadd, 166, 0), (166, .iaload, 167, 0), (167, .aload_n 0, 168, 0), (168, .iload 4, 170, 0), (170, .iconst 4, 171, 0), (171, .iadd, 172, 0), (172, .iaload, 173, 0), (173, .aload_n 3, 174, 0), (177, .istore 5, 179, 0), (179, .aload_n 2, 180, 0), (180, .aload_n 0, 181, 0), (181, .iload 4, 183, 0), (183, .iconst 1, 184, 0), (184, .iadd, 185, 0), (185, .iaload, 186, 0), (186, .aload_n 0, 187, 0), (187, .iload 4, 189, 0), (189, .iconst 2, 190, 0), (190, .iadd, 191, 0), (191, .iaload, 192, 0), (192, .aload_n 0, 193, 0), (193, .iload 4, 195, 0), (195, .iconst 3, 196, 0), (196, .iadd, 197, 0), (197, .iaload, 198, 0), (198, .aload_n 0, 199, 0), (199, .iload 4, 201, 0), (201, .iconst 4, 202, 0), (202, .iadd, 203, 0), (203, .iaload, 204, 0), (207, .istore 6, 209, 0), (209, .aload_n 2, 210, 0), (213, .iload 5, 215, 0), (215, .if_icmp .eq 5, 218, 220), (218, .iconst 0, 219, 0), (220, .iload 5, 222, 0), (222, .ifCond .ne 15, 225, 237), (225, .aload_n 3, 226, 0), (226, .iconst 0, 227, 0), (227, .laload, 228, 0), (228, .iload 6, 230, 0), (230, .i2l, 231, 0), (231, .lcmp, 232, 0), (232, .ifCond .eq 5, 235, 237), (235, .iconst 0, 236, 0), (237, .goto 921, 240, 1158)]
theorem T4_law3_ok : (T4_law3).all (k_dck (k_cc Y4_law)) = true := by decide +kernel
end
section
def T4_law4 : List (Nat × Instr × Nat × Nat) := [(240, .aload_n 1, 241, 0), (241, .aload_n 0, 242, 0), (242, .iload 4, 244, 0), (244, .iconst 1, 245, 0), (245, .iadd, 246, 0), (246, .iaload, 247, 0), (247, .aload_n 0, 248, 0), (248, .iload 4, 250, 0), (250, .iconst 2, 251, 0), (251, .iadd, 252, 0), (252, .iaload, 253, 0), (253, .aload_n 0, 254, 0), (254, .iload 4, 256, 0), (256, .iconst 3, 257, 0), (257, .iadd, 258, 0), (258, .iaload, 259, 0), (259, .aload_n 0, 260, 0), (260, .iload 4, 262, 0), (262, .iconst 4, 263, 0), (263, .iadd, 264, 0), (264, .iaload, 265, 0), (268, .istore 5, 270, 0), (270, .aload_n 2, 271, 0), (271, .aload_n 0, 272, 0), (272, .iload 4, 274, 0), (274, .iconst 1, 275, 0), (275, .iadd, 276, 0), (276, .iaload, 277, 0), (277, .aload_n 0, 278, 0), (278, .iload 4, 280, 0), (280, .iconst 2, 281, 0), (281, .iadd, 282, 0), (282, .iaload, 283, 0), (283, .aload_n 0, 284, 0), (284, .iload 4, 286, 0), (286, .iconst 3, 287, 0), (287, .iadd, 288, 0), (288, .iaload, 289, 0), (289, .aload_n 0, 290, 0), (290, .iload 4, 292, 0), (292, .iconst 4, 293, 0), (293, .iadd, 294, 0), (294, .iaload, 295, 0), (298, .aload_n 2, 299, 0), (302, .iload 5, 304, 0), (304, .if_icmp .eq 5, 307, 309), (307, .iconst 0, 308, 0), (309, .goto 849, 312, 1158)]
theorem T4_law4_ok : (T4_law4).all (k_dck (k_cc Y4_law)) = true := by decide +kernel
def T4_law5 : List (Nat × Instr × Nat × Nat) := [(312, .aload_n 1, 313, 0), (313, .aload_n 0, 314, 0), (314, .iload 4, 316, 0), (316, .iconst 1, 317, 0), (317, .iadd, 318, 0), (318, .iaload, 319, 0), (319, .aload_n 0, 320, 0), (320, .iload 4, 322, 0), (322, .iconst 2, 323, 0), (323, .iadd, 324, 0), (324, .iaload, 325, 0), (325, .aload_n 0, 326, 0), (326, .iload 4, 328, 0), (328, .iconst 3, 329, 0), (329, .iadd, 330, 0), (330, .iaload, 331, 0), (331, .aload_n 0, 332, 0), (332, .iload 4, 334, 0), (334, .iconst 4, 335, 0), (335, .iadd, 336, 0), (336, .iaload, 337, 0), (337, .aload_n 3, 338, 0), (341, .istore 5, 343, 0), (343, .aload_n 2, 344, 0), (344, .aload_n 0, 345, 0), (345, .iload 4, 347, 0), (347, .iconst 1, 348, 0), (348, .iadd, 349, 0), (349, .iaload, 350, 0), (350, .aload_n 0, 351, 0), (351, .iload 4, 353, 0), (353, .iconst 2, 354, 0), (354, .iadd, 355, 0), (355, .iaload, 356, 0), (356, .aload_n 0, 357, 0), (357, .iload 4, 359, 0), (359, .iconst 3, 360, 0), (360, .iadd, 361, 0), (361, .iaload, 362, 0), (362, .aload_n 0, 363, 0), (363, .iload 4, 365, 0), (365, .iconst 4, 366, 0), (366, .iadd, 367, 0), (367, .iaload, 368, 0), (371, .istore 6, 373, 0), (373, .aload_n 2, 374, 0), (377, .iload 5, 379, 0), (379, .if_icmp .eq 5, 382, 384), (382, .iconst 0, 383, 0), (384, .iload 5, 386, 0), (386, .ifCond .ne 15, 389, 401), (389, .aload_n 3, 390, 0), (390, .iconst 0, 391, 0), (391, .laload, 392, 0), (392, .iload 6, 394, 0), (394, .i2l, 395, 0), (395, .lcmp, 396, 0), (396, .ifCond .eq 5, 399, 401), (399, .iconst 0, 400, 0), (401, .goto 757, 404, 1158)]
theorem T4_law5_ok : (T4_law5).all (k_dck (k_cc Y4_law)) = true := by decide +kernel
def T4_law6 : List (Nat × Instr × Nat × Nat) := [(404, .aload_n 1, 405, 0), (405, .aload_n 0, 406, 0), (406, .iload 4, 408, 0), (408, .iconst 1, 409, 0), (409, .iadd, 410, 0), (410, .iaload, 411, 0), (411, .aload_n 0, 412, 0), (412, .iload 4, 414, 0), (414, .iconst 2, 415, 0), (415, .iadd, 416, 0), (416, .iaload, 417, 0), (417, .aload_n 3, 418, 0), (421, .istore 5, 423, 0), (423, .aload_n 2, 424, 0), (424, .aload_n 0, 425, 0), (425, .iload 4, 427, 0), (427, .iconst 1, 428, 0), (428, .iadd, 429, 0), (429, .iaload, 430, 0), (430, .aload_n 0, 431, 0), (431, .iload 4, 433, 0), (433, .iconst 2, 434, 0), (434, .iadd, 435, 0), (435, .iaload, 436, 0), (439, .istore 6, 441, 0), (441, .aload_n 2, 442, 0), (445, .iload 5, 447, 0), (447, .if_icmp .eq 5, 450, 452), (450, .iconst 0, 451, 0), (452, .iload 5, 454, 0), (454, .ifCond .ne 22, 457, 476), (457, .aload_n 3, 458, 0), (458, .iconst 0, 459, 0), (459, .laload, 460, 0), (460, .iload 6, 462, 0), (462, .ifCond .eq 7, 465, 469), (465, .lconst 1, 466, 0), (466, .goto 4, 469, 470), (469, .lconst 0, 470, 0), (470, .lcmp, 471, 0), (471, .ifCond .eq 5, 474, 476), (474, .iconst 0, 475, 0), (476, .goto 682, 479, 1158)]
theorem T4_law6_ok : (T4_law6).all (k_dck (k_cc Y4_law)) = true := by decide +kernel
end
section
def T4_law7 : List (Nat × Instr × Nat × Nat) := [(479, .aload_n 1, 480, 0), (480, .aload_n 0, 481, 0), (481, .iload 4, 483, 0), (483, .iconst 1, 484, 0), (484, .iadd, 485, 0), (485, .iaload, 486, 0), (489, .istore 5, 491, 0), (491, .aload_n 2, 492, 0), (492, .aload_n 0, 493, 0), (493, .iload 4, 495, 0), (495, .iconst 1, 496, 0), (496, .iadd, 497, 0), (497, .iaload, 498, 0), (501, .aload_n 2, 502, 0), (505, .iload 5, 507, 0), (507, .if_icmp .eq 5, 510, 512), (510, .iconst 0, 511, 0), (512, .goto 646, 515, 1158)]
theorem T4_law7_ok : (T4_law7).all (k_dck (k_cc Y4_law)) = true := by decide +kernel
def T4_law8 : List (Nat × Instr × Nat × Nat) := [(515, .aload_n 1, 516, 0), (516, .aload_n 0, 517, 0), (517, .iload 4, 519, 0), (519, .iconst 1, 520, 0), (520, .iadd, 521, 0), (521, .iaload, 522, 0), (522, .aload_n 0, 523, 0), (523, .iload 4, 525, 0), (525, .iconst 2, 526, 0), (526, .iadd, 527, 0), (527, .iaload, 528, 0), (528, .aload_n 0, 529, 0), (529, .iload 4, 531, 0), (531, .iconst 3, 532, 0), (532, .iadd, 533, 0), (533, .iaload, 534, 0), (534, .aload_n 0, 535, 0), (535, .iload 4, 537, 0), (537, .iconst 4, 538, 0), (538, .iadd, 539, 0), (539, .iaload, 540, 0), (540, .aload_n 3, 541, 0), (544, .istore 5, 546, 0), (546, .aload_n 2, 547, 0), (547, .aload_n 0, 548, 0), (548, .iload 4, 550, 0), (550, .iconst 1, 551, 0), (551, .iadd, 552, 0), (552, .iaload, 553, 0), (553, .aload_n 0, 554, 0), (554, .iload 4, 556, 0), (556, .iconst 2, 557, 0), (557, .iadd, 558, 0), (558, .iaload, 559, 0), (559, .aload_n 0, 560, 0), (560, .iload 4, 562, 0), (562, .iconst 3, 563, 0), (563, .iadd, 564, 0), (564, .iaload, 565, 0), (565, .aload_n 0, 566, 0), (566, .iload 4, 568, 0), (568, .iconst 4, 569, 0), (569, .iadd, 570, 0), (570, .iaload, 571, 0), (574, .istore 6, 576, 0), (576, .aload_n 2, 577, 0), (580, .iload 5, 582, 0), (582, .if_icmp .eq 5, 585, 587), (585, .iconst 0, 586, 0), (587, .iload 5, 589, 0), (589, .ifCond .ne 15, 592, 604), (592, .aload_n 3, 593, 0), (593, .iconst 0, 594, 0), (594, .laload, 595, 0), (595, .iload 6, 597, 0), (597, .i2l, 598, 0), (598, .lcmp, 599, 0), (599, .ifCond .eq 5, 602, 604), (602, .iconst 0, 603, 0), (604, .goto 554, 607, 1158)]
theorem T4_law8_ok : (T4_law8).all (k_dck (k_cc Y4_law)) = true := by decide +kernel
def T4_law9 : List (Nat × Instr × Nat × Nat) := [(607, .aload_n 1, 608, 0), (608, .aload_n 0, 609, 0), (609, .iload 4, 611, 0), (611, .iconst 1, 612, 0), (612, .iadd, 613, 0), (613, .iaload, 614, 0), (614, .aload_n 0, 615, 0), (615, .iload 4, 617, 0), (617, .iconst 2, 618, 0), (618, .iadd, 619, 0), (619, .iaload, 620, 0), (620, .aload_n 0, 621, 0), (621, .iload 4, 623, 0), (623, .iconst 3, 624, 0), (624, .iadd, 625, 0), (625, .iaload, 626, 0), (626, .aload_n 0, 627, 0), (627, .iload 4, 629, 0), (629, .iconst 4, 630, 0), (630, .iadd, 631, 0), (631, .iaload, 632, 0), (632, .aload_n 3, 633, 0), (636, .istore 5, 638, 0), (638, .aload_n 2, 639, 0), (639, .aload_n 0, 640, 0), (640, .iload 4, 642, 0), (642, .iconst 1, 643, 0), (643, .iadd, 644, 0), (644, .iaload, 645, 0), (645, .aload_n 0, 646, 0), (646, .iload 4, 648, 0), (648, .iconst 2, 649, 0), (649, .iadd, 650, 0), (650, .iaload, 651, 0), (651, .aload_n 0, 652, 0), (652, .iload 4, 654, 0), (654, .iconst 3, 655, 0), (655, .iadd, 656, 0), (656, .iaload, 657, 0), (657, .aload_n 0, 658, 0), (658, .iload 4, 660, 0), (660, .iconst 4, 661, 0), (661, .iadd, 662, 0), (662, .iaload, 663, 0), (666, .istore 6, 668, 0), (668, .aload_n 2, 669, 0), (672, .iload 5, 674, 0), (674, .if_icmp .eq 5, 677, 679), (677, .iconst 0, 678, 0), (679, .iload 5, 681, 0), (681, .ifCond .ne 15, 684, 696), (684, .aload_n 3, 685, 0), (685, .iconst 0, 686, 0), (686, .laload, 687, 0), (687, .iload 6, 689, 0), (689, .i2l, 690, 0), (690, .lcmp, 691, 0), (691, .ifCond .eq 5, 694, 696), (694, .iconst 0, 695, 0), (696, .goto 462, 699, 1158)]
theorem T4_law9_ok : (T4_law9).all (k_dck (k_cc Y4_law)) = true := by decide +kernel
end
section
def T4_law10 : List (Nat × Instr × Nat × Nat) := [(699, .aload_n 1, 700, 0), (700, .aload_n 0, 701, 0), (701, .iload 4, 703, 0), (703, .iconst 1, 704, 0), (704, .iadd, 705, 0), (705, .iaload, 706, 0), (706, .aload_n 3, 707, 0), (710, .istore 5, 712, 0), (712, .aload_n 2, 713, 0), (713, .aload_n 0, 714, 0), (714, .iload 4, 716, 0), (716, .iconst 1, 717, 0), (717, .iadd, 718, 0), (718, .iaload, 719, 0), (722, .istore 6, 724, 0), (724, .aload_n 2, 725, 0), (728, .iload 5, 730, 0), (730, .if_icmp .eq 5, 733, 735), (733, .iconst 0, 734, 0), (735, .iload 5, 737, 0), (737, .ifCond .ne 22, 740, 759), (740, .aload_n 3, 741, 0), (741, .iconst 0, 742, 0), (742, .laload, 743, 0), (743, .iload 6, 745, 0), (745, .ifCond .eq 7, 748, 752), (748, .lconst 1, 749, 0), (749, .goto 4, 752, 753), (752, .lconst 0, 753, 0), (753, .lcmp, 754, 0), (754, .ifCond .eq 5, 757, 759), (757, .iconst 0, 758, 0), (759, .goto 399, 762, 1158)]
theorem T4_law10_ok : (T4_law10).all (k_dck (k_cc Y4_law)) = true := by decide +kernel
def T4_law11 : List (Nat × Instr × Nat × Nat) := [(762, .aload_n 1, 763, 0), (763, .aload_n 0, 764, 0), (764, .iload 4, 766, 0), (766, .iconst 1, 767, 0), (767, .iadd, 768, 0), (768, .iaload, 769, 0), (769, .aload_n 0, 770, 0), (770, .iload 4, 772, 0), (772, .iconst 2, 773, 0), (773, .iadd, 774, 0), (774, .iaload, 775, 0), (775, .aload_n 3, 776, 0), (779, .istore 5, 781, 0), (781, .aload_n 2, 782, 0), (782, .aload_n 0, 783, 0), (783, .iload 4, 785, 0), (785, .iconst 1, 786, 0), (786, .iadd, 787, 0), (787, .iaload, 788, 0), (788, .aload_n 0, 789, 0), (789, .iload 4, 791, 0), (791, .iconst 2, 792, 0), (792, .iadd, 793, 0), (793, .iaload, 794, 0), (797, .istore 6, 799, 0), (799, .aload_n 2, 800, 0), (803, .iload 5, 805, 0), (805, .if_icmp .eq 5, 808, 810), (808, .iconst 0, 809, 0), (810, .iload 5, 812, 0), (812, .ifCond .ne 15, 815, 827), (815, .aload_n 3, 816, 0), (816, .iconst 0, 817, 0), (817, .laload, 818, 0), (818, .iload 6, 820, 0), (820, .i2l, 821, 0), (821, .lcmp, 822, 0), (822, .ifCond .eq 5, 825, 827), (825, .iconst 0, 826, 0), (827, .goto 331, 830, 1158)]
theorem T4_law11_ok : (T4_law11).all (k_dck (k_cc Y4_law)) = true := by decide +kernel
def T4_law12 : List (Nat × Instr × Nat × Nat) := [(830, .aload_n 1, 831, 0), (831, .aload_n 0, 832, 0), (832, .iload 4, 834, 0), (834, .iconst 1, 835, 0), (835, .iadd, 836, 0), (836, .iaload, 837, 0), (837, .aload_n 0, 838, 0), (838, .iload 4, 840, 0), (840, .iconst 2, 841, 0), (841, .iadd, 842, 0), (842, .iaload, 843, 0), (843, .aload_n 3, 844, 0), (847, .istore 5, 849, 0), (849, .aload_n 2, 850, 0), (850, .aload_n 0, 851, 0), (851, .iload 4, 853, 0), (853, .iconst 1, 854, 0), (854, .iadd, 855, 0), (855, .iaload, 856, 0), (856, .aload_n 0, 857, 0), (857, .iload 4, 859, 0), (859, .iconst 2, 860, 0), (860, .iadd, 861, 0), (861, .iaload, 862, 0), (865, .istore 6, 867, 0), (867, .aload_n 2, 868, 0), (871, .iload 5, 873, 0), (873, .if_icmp .eq 5, 876, 878), (876, .iconst 0, 877, 0), (878, .iload 5, 880, 0), (880, .ifCond .ne 15, 883, 895), (883, .aload_n 3, 884, 0), (884, .iconst 0, 885, 0), (885, .laload, 886, 0), (886, .iload 6, 888, 0), (888, .i2l, 889, 0), (889, .lcmp, 890, 0), (890, .ifCond .eq 5, 893, 895), (893, .iconst 0, 894, 0), (895, .goto 263, 898, 1158)]
theorem T4_law12_ok : (T4_law12).all (k_dck (k_cc Y4_law)) = true := by decide +kernel
end
section
def T4_law13 : List (Nat × Instr × Nat × Nat) := [(898, .aload_n 1, 899, 0), (899, .aload_n 0, 900, 0), (900, .iload 4, 902, 0), (902, .iconst 1, 903, 0), (903, .iadd, 904, 0), (904, .iaload, 905, 0), (905, .aload_n 3, 906, 0), (909, .istore 5, 911, 0), (911, .aload_n 2, 912, 0), (912, .aload_n 0, 913, 0), (913, .iload 4, 915, 0), (915, .iconst 1, 916, 0), (916, .iadd, 917, 0), (917, .iaload, 918, 0), (921, .istore 6, 923, 0), (923, .aload_n 2, 924, 0), (927, .iload 5, 929, 0), (929, .if_icmp .eq 5, 932, 934), (932, .iconst 0, 933, 0), (934, .iload 5, 936, 0), (936, .ifCond .ne 15, 939, 951), (939, .aload_n 3, 940, 0), (940, .iconst 0, 941, 0), (941, .laload, 942, 0), (942, .iload 6, 944, 0), (944, .i2l, 945, 0), (945, .lcmp, 946, 0), (946, .ifCond .eq 5, 949, 951), (949, .iconst 0, 950, 0), (951, .goto 207, 954, 1158)]
theorem T4_law13_ok : (T4_law13).all (k_dck (k_cc Y4_law)) = true := by decide +kernel
def T4_law14 : List (Nat × Instr × Nat × Nat) := [(954, .aload_n 1, 955, 0), (955, .aload_n 0, 956, 0), (956, .iload 4, 958, 0), (958, .iconst 1, 959, 0), (959, .iadd, 960, 0), (960, .iaload, 961, 0), (961, .aload_n 3, 962, 0), (965, .istore 5, 967, 0), (967, .aload_n 2, 968, 0), (968, .aload_n 0, 969, 0), (969, .iload 4, 971, 0), (971, .iconst 1, 972, 0), (972, .iadd, 973, 0), (973, .iaload, 974, 0), (977, .istore 6, 979, 0), (979, .aload_n 2, 980, 0), (983, .iload 5, 985, 0), (985, .if_icmp .eq 5, 988, 990), (988, .iconst 0, 989, 0), (990, .iload 5, 992, 0), (992, .ifCond .ne 15, 995, 1007), (995, .aload_n 3, 996, 0), (996, .iconst 0, 997, 0), (997, .laload, 998, 0), (998, .iload 6, 1000, 0), (1000, .i2l, 1001, 0), (1001, .lcmp, 1002, 0), (1002, .ifCond .eq 5, 1005, 1007), (1005, .iconst 0, 1006, 0), (1007, .goto 151, 1010, 1158)]
theorem T4_law14_ok : (T4_law14).all (k_dck (k_cc Y4_law)) = true := by decide +kernel
def T4_law15 : List (Nat × Instr × Nat × Nat) := [(1010, .aload_n 1, 1011, 0), (1011, .aload_n 0, 1012, 0), (1012, .iload 4, 1014, 0), (1014, .iconst 1, 1015, 0), (1015, .iadd, 1016, 0), (1016, .iaload, 1017, 0), (1017, .aload_n 0, 1018, 0), (1018, .iload 4, 1020, 0), (1020, .iconst 2, 1021, 0), (1021, .iadd, 1022, 0), (1022, .iaload, 1023, 0), (1023, .aload_n 3, 1024, 0), (1027, .istore 5, 1029, 0), (1029, .aload_n 2, 1030, 0), (1030, .aload_n 0, 1031, 0), (1031, .iload 4, 1033, 0), (1033, .iconst 1, 1034, 0), (1034, .iadd, 1035, 0), (1035, .iaload, 1036, 0), (1036, .aload_n 0, 1037, 0), (1037, .iload 4, 1039, 0), (1039, .iconst 2, 1040, 0), (1040, .iadd, 1041, 0), (1041, .iaload, 1042, 0), (1045, .istore 6, 1047, 0), (1047, .aload_n 2, 1048, 0), (1051, .iload 5, 1053, 0), (1053, .if_icmp .eq 5, 1056, 1058), (1056, .iconst 0, 1057, 0), (1058, .iload 5, 1060, 0), (1060, .ifCond .ne 15, 1063, 1075), (1063, .aload_n 3, 1064, 0), (1064, .iconst 0, 1065, 0), (1065, .laload, 1066, 0), (1066, .iload 6, 1068, 0), (1068, .i2l, 1069, 0), (1069, .lcmp, 1070, 0), (1070, .ifCond .eq 5, 1073, 1075), (1073, .iconst 0, 1074, 0), (1075, .goto 83, 1078, 1158)]
theorem T4_law15_ok : (T4_law15).all (k_dck (k_cc Y4_law)) = true := by decide +kernel
end
section
def T4_law16 : List (Nat × Instr × Nat × Nat) := [(1078, .aload_n 1, 1079, 0), (1079, .aload_n 0, 1080, 0), (1080, .iload 4, 1082, 0), (1082, .iconst 1, 1083, 0), (1083, .iadd, 1084, 0), (1084, .iaload, 1085, 0), (1085, .aload_n 0, 1086, 0), (1086, .iload 4, 1088, 0), (1088, .iconst 2, 1089, 0), (1089, .iadd, 1090, 0), (1090, .iaload, 1091, 0), (1091, .aload_n 0, 1092, 0), (1092, .iload 4, 1094, 0), (1094, .iconst 3, 1095, 0), (1095, .iadd, 1096, 0), (1096, .iaload, 1097, 0), (1097, .aload_n 3, 1098, 0), (1101, .istore 5, 1103, 0), (1103, .aload_n 2, 1104, 0), (1104, .aload_n 0, 1105, 0), (1105, .iload 4, 1107, 0), (1107, .iconst 1, 1108, 0), (1108, .iadd, 1109, 0), (1109, .iaload, 1110, 0), (1110, .aload_n 0, 1111, 0), (1111, .iload 4, 1113, 0), (1113, .iconst 2, 1114, 0), (1114, .iadd, 1115, 0), (1115, .iaload, 1116, 0), (1116, .aload_n 0, 1117, 0), (1117, .iload 4, 1119, 0), (1119, .iconst 3, 1120, 0), (1120, .iadd, 1121, 0), (1121, .iaload, 1122, 0), (1125, .istore 6, 1127, 0), (1127, .aload_n 2, 1128, 0), (1131, .iload 5, 1133, 0), (1133, .if_icmp .eq 5, 1136, 1138), (1136, .iconst 0, 1137, 0), (1138, .iload 5, 1140, 0), (1140, .ifCond .ne 15, 1143, 1155), (1143, .aload_n 3, 1144, 0), (1144, .iconst 0, 1145, 0), (1145, .laload, 1146, 0), (1146, .iload 6, 1148, 0), (1148, .i2l, 1149, 0), (1149, .lcmp, 1150, 0), (1150, .ifCond .eq 5, 1153, 1155), (1153, .iconst 0, 1154, 0), (1155, .goto 3, 1158, 1158)]
theorem T4_law16_ok : (T4_law16).all (k_dck (k_cc Y4_law)) = true := by decide +kernel
def T4_law17 : List (Nat × Instr × Nat × Nat) := [(1158, .iinc 4 5, 1161, 0), (1161, .goto (-1138), 1164, 23), (1164, .iconst 1, 1165, 0)]
theorem T4_law17_ok : (T4_law17).all (k_dck (k_cc Y4_law)) = true := by decide +kernel
theorem d4_law_0 : decode (k_cc Y4_law) 0 = .ok (.new 8, 3) := by decide +kernel
theorem d4_law_3 : decode (k_cc Y4_law) 3 = .ok (.dup, 1) := by decide +kernel
theorem d4_law_4 : decode (k_cc Y4_law) 4 = .ok (.invokespecial 74, 3) := by decide +kernel
theorem d4_law_8 : decode (k_cc Y4_law) 8 = .ok (.new 75, 3) := by decide +kernel
theorem d4_law_11 : decode (k_cc Y4_law) 11 = .ok (.dup, 1) := by decide +kernel
theorem d4_law_12 : decode (k_cc Y4_law) 12 = .ok (.invokespecial 77, 3) := by decide +kernel
theorem d4_law_17 : decode (k_cc Y4_law) 17 = .ok (.newarray .long, 2) := by decide +kernel
theorem d4_law_39 : decode (k_cc Y4_law) 39 = .ok (.tableswitch 1119 0 14 #[73, 109, 201, 273, 365, 440, 476, 568, 660, 723, 791, 859, 915, 971, 1039], 73) := by decide +kernel
theorem d4_law_119 : decode (k_cc Y4_law) 119 = .ok (.invokestatic 78, 3) := by decide +kernel
theorem d4_law_131 : decode (k_cc Y4_law) 131 = .ok (.invokevirtual 83, 3) := by decide +kernel
theorem d4_law_135 : decode (k_cc Y4_law) 135 = .ok (.invokevirtual 84, 3) := by decide +kernel
theorem d4_law_144 : decode (k_cc Y4_law) 144 = .ok (.ireturn, 1) := by decide +kernel
end
section
theorem d4_law_174 : decode (k_cc Y4_law) 174 = .ok (.invokestatic 88, 3) := by decide +kernel
theorem d4_law_204 : decode (k_cc Y4_law) 204 = .ok (.invokevirtual 91, 3) := by decide +kernel
theorem d4_law_210 : decode (k_cc Y4_law) 210 = .ok (.invokevirtual 84, 3) := by decide +kernel
theorem d4_law_219 : decode (k_cc Y4_law) 219 = .ok (.ireturn, 1) := by decide +kernel
theorem d4_law_236 : decode (k_cc Y4_law) 236 = .ok (.ireturn, 1) := by decide +kernel
theorem d4_law_265 : decode (k_cc Y4_law) 265 = .ok (.invokestatic 92, 3) := by decide +kernel
theorem d4_law_295 : decode (k_cc Y4_law) 295 = .ok (.invokevirtual 95, 3) := by decide +kernel
theorem d4_law_299 : decode (k_cc Y4_law) 299 = .ok (.invokevirtual 84, 3) := by decide +kernel
theorem d4_law_308 : decode (k_cc Y4_law) 308 = .ok (.ireturn, 1) := by decide +kernel
theorem d4_law_338 : decode (k_cc Y4_law) 338 = .ok (.invokestatic 96, 3) := by decide +kernel
theorem d4_law_368 : decode (k_cc Y4_law) 368 = .ok (.invokevirtual 98, 3) := by decide +kernel
theorem d4_law_374 : decode (k_cc Y4_law) 374 = .ok (.invokevirtual 84, 3) := by decide +kernel
theorem d4_law_383 : decode (k_cc Y4_law) 383 = .ok (.ireturn, 1) := by decide +kernel
theorem d4_law_400 : decode (k_cc Y4_law) 400 = .ok (.ireturn, 1) := by decide +kernel
theorem d4_law_418 : decode (k_cc Y4_law) 418 = .ok (.invokestatic 99, 3) := by decide +kernel
theorem d4_law_436 : decode (k_cc Y4_law) 436 = .ok (.invokevirtual 102, 3) := by decide +kernel
theorem d4_law_442 : decode (k_cc Y4_law) 442 = .ok (.invokevirtual 84, 3) := by decide +kernel
theorem d4_law_451 : decode (k_cc Y4_law) 451 = .ok (.ireturn, 1) := by decide +kernel
theorem d4_law_475 : decode (k_cc Y4_law) 475 = .ok (.ireturn, 1) := by decide +kernel
theorem d4_law_486 : decode (k_cc Y4_law) 486 = .ok (.invokestatic 103, 3) := by decide +kernel
theorem d4_law_498 : decode (k_cc Y4_law) 498 = .ok (.invokevirtual 105, 3) := by decide +kernel
theorem d4_law_502 : decode (k_cc Y4_law) 502 = .ok (.invokevirtual 84, 3) := by decide +kernel
theorem d4_law_511 : decode (k_cc Y4_law) 511 = .ok (.ireturn, 1) := by decide +kernel
theorem d4_law_541 : decode (k_cc Y4_law) 541 = .ok (.invokestatic 106, 3) := by decide +kernel
theorem d4_law_571 : decode (k_cc Y4_law) 571 = .ok (.invokevirtual 108, 3) := by decide +kernel
theorem d4_law_577 : decode (k_cc Y4_law) 577 = .ok (.invokevirtual 84, 3) := by decide +kernel
theorem d4_law_586 : decode (k_cc Y4_law) 586 = .ok (.ireturn, 1) := by decide +kernel
theorem d4_law_603 : decode (k_cc Y4_law) 603 = .ok (.ireturn, 1) := by decide +kernel
theorem d4_law_633 : decode (k_cc Y4_law) 633 = .ok (.invokestatic 109, 3) := by decide +kernel
theorem d4_law_663 : decode (k_cc Y4_law) 663 = .ok (.invokevirtual 111, 3) := by decide +kernel
theorem d4_law_669 : decode (k_cc Y4_law) 669 = .ok (.invokevirtual 84, 3) := by decide +kernel
theorem d4_law_678 : decode (k_cc Y4_law) 678 = .ok (.ireturn, 1) := by decide +kernel
theorem d4_law_695 : decode (k_cc Y4_law) 695 = .ok (.ireturn, 1) := by decide +kernel
theorem d4_law_707 : decode (k_cc Y4_law) 707 = .ok (.invokestatic 112, 3) := by decide +kernel
theorem d4_law_719 : decode (k_cc Y4_law) 719 = .ok (.invokevirtual 115, 3) := by decide +kernel
theorem d4_law_725 : decode (k_cc Y4_law) 725 = .ok (.invokevirtual 84, 3) := by decide +kernel
end
section
theorem d4_law_734 : decode (k_cc Y4_law) 734 = .ok (.ireturn, 1) := by decide +kernel
theorem d4_law_758 : decode (k_cc Y4_law) 758 = .ok (.ireturn, 1) := by decide +kernel
theorem d4_law_776 : decode (k_cc Y4_law) 776 = .ok (.invokestatic 116, 3) := by decide +kernel
theorem d4_law_794 : decode (k_cc Y4_law) 794 = .ok (.invokevirtual 118, 3) := by decide +kernel
theorem d4_law_800 : decode (k_cc Y4_law) 800 = .ok (.invokevirtual 84, 3) := by decide +kernel
theorem d4_law_809 : decode (k_cc Y4_law) 809 = .ok (.ireturn, 1) := by decide +kernel
theorem d4_law_826 : decode (k_cc Y4_law) 826 = .ok (.ireturn, 1) := by decide +kernel
theorem d4_law_844 : decode (k_cc Y4_law) 844 = .ok (.invokestatic 119, 3) := by decide +kernel
theorem d4_law_862 : decode (k_cc Y4_law) 862 = .ok (.invokevirtual 121, 3) := by decide +kernel
theorem d4_law_868 : decode (k_cc Y4_law) 868 = .ok (.invokevirtual 84, 3) := by decide +kernel
theorem d4_law_877 : decode (k_cc Y4_law) 877 = .ok (.ireturn, 1) := by decide +kernel
theorem d4_law_894 : decode (k_cc Y4_law) 894 = .ok (.ireturn, 1) := by decide +kernel
theorem d4_law_906 : decode (k_cc Y4_law) 906 = .ok (.invokestatic 122, 3) := by decide +kernel
theorem d4_law_918 : decode (k_cc Y4_law) 918 = .ok (.invokevirtual 124, 3) := by decide +kernel
theorem d4_law_924 : decode (k_cc Y4_law) 924 = .ok (.invokevirtual 84, 3) := by decide +kernel
theorem d4_law_933 : decode (k_cc Y4_law) 933 = .ok (.ireturn, 1) := by decide +kernel
theorem d4_law_950 : decode (k_cc Y4_law) 950 = .ok (.ireturn, 1) := by decide +kernel
theorem d4_law_962 : decode (k_cc Y4_law) 962 = .ok (.invokestatic 125, 3) := by decide +kernel
theorem d4_law_974 : decode (k_cc Y4_law) 974 = .ok (.invokevirtual 127, 3) := by decide +kernel
theorem d4_law_980 : decode (k_cc Y4_law) 980 = .ok (.invokevirtual 84, 3) := by decide +kernel
theorem d4_law_989 : decode (k_cc Y4_law) 989 = .ok (.ireturn, 1) := by decide +kernel
theorem d4_law_1006 : decode (k_cc Y4_law) 1006 = .ok (.ireturn, 1) := by decide +kernel
theorem d4_law_1024 : decode (k_cc Y4_law) 1024 = .ok (.invokestatic 128, 3) := by decide +kernel
theorem d4_law_1042 : decode (k_cc Y4_law) 1042 = .ok (.invokevirtual 130, 3) := by decide +kernel
theorem d4_law_1048 : decode (k_cc Y4_law) 1048 = .ok (.invokevirtual 84, 3) := by decide +kernel
theorem d4_law_1057 : decode (k_cc Y4_law) 1057 = .ok (.ireturn, 1) := by decide +kernel
theorem d4_law_1074 : decode (k_cc Y4_law) 1074 = .ok (.ireturn, 1) := by decide +kernel
theorem d4_law_1098 : decode (k_cc Y4_law) 1098 = .ok (.invokestatic 131, 3) := by decide +kernel
theorem d4_law_1122 : decode (k_cc Y4_law) 1122 = .ok (.invokevirtual 134, 3) := by decide +kernel
theorem d4_law_1128 : decode (k_cc Y4_law) 1128 = .ok (.invokevirtual 84, 3) := by decide +kernel
theorem d4_law_1137 : decode (k_cc Y4_law) 1137 = .ok (.ireturn, 1) := by decide +kernel
theorem d4_law_1154 : decode (k_cc Y4_law) 1154 = .ok (.ireturn, 1) := by decide +kernel
theorem d4_law_1165 : decode (k_cc Y4_law) 1165 = .ok (.ireturn, 1) := by decide +kernel
end
section
def k_okM (o idx : Nat) (y : MethodName) (cc : ByteArray) : Bool := decide (Cond.methodLink (k_own o) idx y ∈ k_T) && decide (Cond.static y ∈ k_T) && decide (Cond.initialized "java/lang/Math" ∈ k_T) && decide (Cond.code y cc 2 (some .int) ∈ k_T)
section KK
variable {Y : k_Y} {sc : k_Sc} {G : k_G} {pc : Nat} {ls : List (Nat × Value)} {st : List Value} {h : List k_O} {nc ns : Nat}
theorem k_mmax {idx : Nat} {x y z : Int32} (hok : k_okM Y.1 idx Lib.Math.max.name Lib.Math.max.code = true) (hz : (if x < y then y else x) = z) (d : decode (k_cc Y) pc = .ok (.invokestatic idx, 3)) (r1 : Nat.ble 1 (k_fr Y) = true) (r2 : Nat.ble ((st.map fun v => v.category).sum + 13) (k_lo Y) = true) (h3 : nc ≤ G.2.2.1) (h4 : ns ≤ G.2.2.2) (k : k_W Y sc G (pc + 3, ls, .int z :: st, h, nc, ns)) : k_W Y sc G (pc, ls, .int y :: .int x :: st, h, nc, ns) := by
  intro p l e s m args below meth c g cA A b ad0 n0 Q C E ad H locs la I hv
  subst hz
  unfold k_okM at hok
  simp only [Bool.and_eq_true, decide_eq_true_eq] at hok
  obtain ⟨⟨⟨a1, a2⟩, a3⟩, a4⟩ := hok
  have hts := C.2.2.2.2.1
  exact va_mmax C.1 C.2.1 (C.2.2.1.trans hv.1.symm) C.2.2.2.1 (hts _ a1) (hts _ a2) (hts _ a3) (hts _ a4) (Nat.le_of_ble_eq_true r1) (by rw [k_sum]; exact Nat.le_of_ble_eq_true r2) h3 h4 d (k p l e s m args below meth c g cA A b ad0 n0 Q C E ad H locs la I hv)
theorem k_mmin {idx : Nat} {x y z : Int32} (hok : k_okM Y.1 idx Lib.Math.min.name Lib.Math.min.code = true) (hz : (if y < x then y else x) = z) (d : decode (k_cc Y) pc = .ok (.invokestatic idx, 3)) (r1 : Nat.ble 1 (k_fr Y) = true) (r2 : Nat.ble ((st.map fun v => v.category).sum + 13) (k_lo Y) = true) (h3 : nc ≤ G.2.2.1) (h4 : ns ≤ G.2.2.2) (k : k_W Y sc G (pc + 3, ls, .int z :: st, h, nc, ns)) : k_W Y sc G (pc, ls, .int y :: .int x :: st, h, nc, ns) := by
  intro p l e s m args below meth c g cA A b ad0 n0 Q C E ad H locs la I hv
  subst hz
  unfold k_okM at hok
  simp only [Bool.and_eq_true, decide_eq_true_eq] at hok
  obtain ⟨⟨⟨a1, a2⟩, a3⟩, a4⟩ := hok
  have hts := C.2.2.2.2.1
  exact va_mmin C.1 C.2.1 (C.2.2.1.trans hv.1.symm) C.2.2.2.1 (hts _ a1) (hts _ a2) (hts _ a3) (hts _ a4) (Nat.le_of_ble_eq_true r1) (by rw [k_sum]; exact Nat.le_of_ble_eq_true r2) h3 h4 d (k p l e s m args below meth c g cA A b ad0 n0 Q C E ad H locs la I hv)
theorem k_tableIn {dflt lo hi : Int} {offs : Array Int} {len j tg : Nat} {off : Int} (d : decode (k_cc Y) pc = .ok (.tableswitch dflt lo hi offs, len)) (hj : j < 100000) (h1 : ¬ (j : Int) < lo) (h2 : ¬ hi < (j : Int)) (ho : offs[((j : Int) - lo).toNat]? = some off) (ht : (pc : Int) + off = (tg : Int)) (k : k_W Y sc G (tg, ls, st, h, nc, ns)) : k_W Y sc G (pc, ls, .int (nI j) :: st, h, nc, ns) := by
  intro p l e s m args below meth c g cA A b ad0 n0 Q C E ad H locs la I hv
  have e : (nI j).toInt = (j : Int) := nI_toInt (by omega)
  exact lv_tableIn C.1 C.2.1 d (by rw [e]; exact h1) (by rw [e]; exact h2) (by rw [e]; exact ho) ht (k p l _ s m args below meth c g cA A b ad0 n0 Q C E ad H locs la I hv)
theorem k_tableOut {dflt lo hi : Int} {offs : Array Int} {len j tg : Nat} (d : decode (k_cc Y) pc = .ok (.tableswitch dflt lo hi offs, len)) (hj : j < 100000) (h1 : (j : Int) < lo ∨ hi < (j : Int)) (ht : (pc : Int) + dflt = (tg : Int)) (k : k_W Y sc G (tg, ls, st, h, nc, ns)) : k_W Y sc G (pc, ls, .int (nI j) :: st, h, nc, ns) := by
  intro p l e s m args below meth c g cA A b ad0 n0 Q C E ad H locs la I hv
  have e : (nI j).toInt = (j : Int) := nI_toInt (by omega)
  exact lv_tableOut C.1 C.2.1 d (by rw [e]; exact h1) ht (k p l _ s m args below meth c g cA A b ad0 n0 Q C E ad H locs la I hv)
theorem k_objInit {idx a : Nat} (hok : (decide (Cond.methodLink (k_own Y.1) idx Lib.objectInit ∈ k_T) && decide (Cond.instanceMethod Lib.objectInit ∈ k_T) && decide (Cond.code Lib.objectInit ⟨#[0xb1]⟩ 1 none ∈ k_T)) = true) (d : decode (k_cc Y) pc = .ok (.invokespecial idx, 3)) (r1 : Nat.ble 1 (k_fr Y) = true) (hst : st = []) (r2 : Nat.ble 20 (k_lo Y) = true) (k : k_W Y sc G (pc + 3, ls, st, h, nc, ns)) : k_W Y sc G (pc, ls, .ref a :: st, h, nc, ns) := by
  intro p l e s m args below meth c g cA A b ad0 n0 Q C E ad H locs la I hv
  subst hst
  simp only [Bool.and_eq_true, decide_eq_true_eq] at hok
  obtain ⟨⟨a1, a2⟩, a3⟩ := hok
  have hts := C.2.2.2.2.1
  refine W.objInit C.1 C.2.1 C.2.2.2.1 (hts _ a1) (hts _ a2) (hts _ a3) (g := F0 m pc la [.ref (ad a)]) rfl (hv.1.trans C.2.2.1.symm) (rest := []) rfl d (Nat.le_of_ble_eq_true r1) (Nat.le_trans (Nat.le_of_ble_eq_true (rfl : Nat.ble _ 20 = true)) (Nat.le_of_ble_eq_true r2)) ?_
  exact k p l e s m args below meth c g cA A b ad0 n0 Q C E ad H locs la I hv
/-- one more thing: the addresses go on -/
theorem k_w_new {cA : Nat → ClassId} {ad : Nat → Nat} {q : Nat} {o : k_O} (hok : h.all (k_oko h.length) = true) (hl : h.length < 1000000) (ho : k_oko h.length o = true) : k_w cA (fun j => if j = h.length then q else ad j) (h ++ [o]) = k_w cA ad h ++ [(q, k_o cA ad o)] := by
  have hv : ∀ v : Value, k_okv h.length v = true → k_v (fun j => if j = h.length then q else ad j) v = k_v ad v := fun v hv => k_v_eq (fun i hi => by rw [if_neg (by omega)]) (by rw [if_neg (by omega)]) hv
  have hoo : ∀ o : k_O, k_oko h.length o = true → k_o cA (fun j => if j = h.length then q else ad j) o = k_o cA ad o := by
    intro o ho
    cases o with
    | inl a => rfl
    | inr c =>
      simp only [k_o]
      congr 2
      exact List.map_congr_left (fun v hv' => hv v (List.all_eq_true.mp ho v hv'))
  apply List.ext_getElem?
  intro i
  simp only [k_w, List.getElem?_mapIdx]
  by_cases hi : i < h.length
  · rw [List.getElem?_append_left hi, List.getElem?_append_left (by simpa using hi), List.getElem?_mapIdx, List.getElem?_eq_getElem hi]
    simp only [Option.map_some]
    rw [if_neg (by omega), hoo _ (List.all_eq_true.mp hok _ (List.getElem_mem hi))]
  · by_cases hi2 : i = h.length
    · subst hi2
      rw [List.getElem?_append_right (Nat.le_refl _), List.getElem?_append_right (by simp)]
      simp [hoo _ ho]
    · rw [List.getElem?_append_right (by omega), List.getElem?_append_right (by simp; omega)]
      have e1 : i - h.length = (i - h.length - 1) + 1 := by omega
      rw [e1]
      simp
      omega
theorem k_I_new {s : State} {g : va_G} {cA : Nat → ClassId} {A : Nat → Prop} {b : Nat} {ad0 : Nat → Nat} {n0 : Nat} {ad : Nat → Nat} {H H1 : Heap} {locs : List Loc} {q : Nat} {o : k_O} (I : k_I Y sc s g cA A b ad0 n0 ad H locs h) (hok : h.all (k_oko h.length) = true) (hl : h.length < 1000000) (ho : k_oko h.length o = true)
    (hP : va_P g k_cl (k_w cA ad h ++ [(q, k_o cA ad o)]) H1) (hD : va_D A (k_w cA ad h ++ [(q, k_o cA ad o)])) (hS : va_S A s.heap H1 locs) : k_I Y sc s g cA A b ad0 n0 (fun j => if j = h.length then q else ad j) H1 locs (h ++ [o]) := by
  refine ⟨by rw [k_w_new hok hl ho]; exact hP, by rw [k_w_new hok hl ho]; exact hD, hS, fun i hi => ?_, ?_, fun hs => ?_, ?_⟩
  · have := I.2.2.2.2.1
    simp only
    rw [if_neg (by omega)]; exact I.2.2.2.1 i hi
  · have := I.2.2.2.2.1
    simp; omega
  · simp only
    rw [if_neg (by omega)]; exact I.2.2.2.2.2.1 hs
  · simp only
    rw [if_neg (by omega)]; exact I.2.2.2.2.2.2
theorem k_vs_new {ad : Nat → Nat} {n q : Nat} {st : List Value} (hl : n < 1000000) (h : st.all (k_okv n) = true) : st.map (k_v (fun j => if j = n then q else ad j)) = st.map (k_v ad) :=
  List.map_congr_left (fun v hv => k_v_eq (fun i hi => by rw [if_neg (by omega)]) (by rw [if_neg (by omega)]) (List.all_eq_true.mp h v hv))
theorem k_ls_new {ad : Nat → Nat} {n q : Nat} {ls : List (Nat × Value)} (hl : n < 1000000) (h : ls.all (fun q => k_okv n q.2) = true) : ls.map (fun z => (z.1, k_v (fun j => if j = n then q else ad j) z.2)) = ls.map (fun z => (z.1, k_v ad z.2)) :=
  List.map_congr_left (fun z hz => by
    have := k_v_eq (ad := ad) (ad' := fun j => if j = n then q else ad j) (n := n) (fun i hi => by rw [if_neg (by omega)]) (by rw [if_neg (by omega)]) (List.all_eq_true.mp h z hz)
    rw [this])
def k_dfl (ty : FieldType) : Value := match ty with
  | .int => .int 0
  | .boolean => .int 0
  | .long => .long 0
  | _ => .null
theorem k_new {idx ci : Nat} {z : vw_C} {fs : List Value} (hz : k_cl[ci]? = some z) (hw : (decide (Cond.classLink (k_own Y.1) idx z.1 ∈ k_T) && decide (Cond.instantiable z.1 z.2.2 ∈ k_T) && decide (Cond.initialized z.1 ∈ k_T)) = true) (hfs : ∀ j, j < z.2.2 → defaultValue (k_tyo ci j) = vp_V fs j) (hfn : fs.all (fun v => match v with | .ref _ => false | _ => true) = true) (d : decode (k_cc Y) pc = .ok (.new idx, 3))
    (hc : nc + 1 ≤ G.2.2.1) (hs : ns + z.2.2 ≤ G.2.2.2) (hok : h.all (k_oko h.length) = true) (hl : Nat.blt h.length 1000000 = true) (ho1 : ls.all (fun q => k_okv h.length q.2) = true) (ho2 : st.all (k_okv h.length) = true) (k : k_W Y sc G (pc + 3, ls, .ref h.length :: st, h ++ [.inr (ci, fs)], nc + 1, ns + z.2.2)) : k_W Y sc G (pc, ls, st, h, nc, ns) := by
  intro p l e s m args below meth c g cA A b ad0 n0 Q C E ad H locs la I hv
  simp only [Bool.and_eq_true, decide_eq_true_eq] at hw
  obtain ⟨⟨a1, a2⟩, a3⟩ := hw
  have hts := C.2.2.2.2.1
  have hl := k_blt hl
  have hfm : fs.map (k_v ad) = fs := by
    have : fs.map (k_v ad) = fs.map id := List.map_congr_left (fun v hv => by
      have := List.all_eq_true.mp hfn v hv
      cases v <;> first | rfl | simp at this)
    rw [this, List.map_id]
  have hfo : k_oko h.length (.inr (ci, fs)) = true := by
    simp only [k_oko, List.all_eq_true]
    intro v hv
    have := List.all_eq_true.mp hfn v hv
    cases v <;> first | rfl | simp at this
  refine va_new (T := z.2.1) (N := z.2.2) (C := z.1) (own := k_own Y.1) C.1 C.2.1 hts (k_cl_ok hz) (k_tyo ci) (k_ty_ok hz) C.2.2.2.1 (hts _ a1) (hts _ a2) (hts _ a3) C.2.2.2.2.2.1 I.1 I.2.1 I.2.2.1 C.2.2.2.2.2.2.1 hz hfs hc hs d (fun q H1 hP hD hS => ?_)
  have e1 : ((q, .inr (ci, fs)) : Nat × va_E) = (q, k_o cA ad (.inr (ci, fs))) := by simp only [k_o]; rw [hfm]
  rw [e1] at hP hD
  have hk := k p l e s m args below meth c g cA A b ad0 n0 Q C E _ H1 locs la (k_I_new I hok hl hfo hP hD hS) (by rw [k_ls_new hl ho1]; exact hv)
  dsimp only at hk
  rw [List.map_cons, k_vs_new hl ho2] at hk
  have e2 : k_v (fun j => if j = h.length then q else ad j) (.ref h.length) = .ref q := by simp [k_v]
  rw [e2] at hk
  exact hk
theorem k_newa {t N : Nat} {at9 : ArrayType} {a0 : vp_A} {ty : FieldType} (hty : newarray.typeOf at9 = ty) (htt : ∀ cA : Nat → ClassId, (k_tys cA)[t]? = some (cA t, ty)) (hpr : ∀ (U : State) (x y : ClassId), va_RA U x ty → va_RA U y ty → x = y) (hw : decide (Cond.arrayClass (newarray.typeOf at9) ∈ k_T) = true) (ha : ∀ cA : ClassId, vp_cell cA a0 = arrV cA N (fun _ => defaultValue ty)) (hN : N < 100000) (hb : N * componentBytes ty ≤ 536870912) (d : decode (k_cc Y) pc = .ok (.newarray at9, 2))
    (hc : nc + 1 ≤ G.2.2.1) (hs : ns + N ≤ G.2.2.2) (hok : h.all (k_oko h.length) = true) (hl : Nat.blt h.length 1000000 = true) (ho1 : ls.all (fun q => k_okv h.length q.2) = true) (ho2 : st.all (k_okv h.length) = true) (k : k_W Y sc G (pc + 2, ls, .ref h.length :: st, h ++ [.inl (t, a0)], nc + 1, ns + N)) : k_W Y sc G (pc, ls, .int (nI N) :: st, h, nc, ns) := by
  intro p l e s m args below meth c g cA A b ad0 n0 Q C E ad H locs la I hv
  have hts := C.2.2.2.2.1
  have hl := k_blt hl
  refine va_newa (ty := ty) (a0 := a0) (N' := N) C.1 C.2.1 (hts _ (of_decide_eq_true hw)) hty C.2.2.2.2.2.1 I.1 I.2.1 I.2.2.1 C.2.2.2.2.2.2.1 ha (nI_pos (by omega)) (nI_clamp (by omega)) hb hc hs d (fun q cA9 H1 hK hP hD hS => ?_)
  have e0 : cA9 = cA t := hpr s _ _ (hK.2 (k_tys cA).length (cA9, ty) (by simp)).2 (hK.2 t (cA t, ty) (by
    have h3 := htt cA
    have hlt : t < (k_tys cA).length := (List.getElem?_eq_some_iff.mp h3).1
    rw [List.getElem?_append_left hlt]; exact h3)).2
  subst e0
  have hk := k p l e s m args below meth c g cA A b ad0 n0 Q C E _ H1 locs la (k_I_new (o := .inl (t, a0)) I hok hl rfl hP hD hS) (by rw [k_ls_new hl ho1]; exact hv)
  dsimp only at hk
  rw [List.map_cons, k_vs_new hl ho2] at hk
  have e2 : k_v (fun j => if j = h.length then q else ad j) (.ref h.length) = .ref q := by simp [k_v]
  rw [e2] at hk
  exact hk
theorem k_putF {n a : Nat} {q : Nat × Nat} {fs : List Value} {v : Value} {z : vw_C} {ty : FieldType} (hz : k_cl[q.1]? = some z) (hfin : (z.2.1 q.2).2.2.2 = true) (hdc : (z.2.1 q.2).1 = k_own Y.1) (hin : (k_nm Y).name = "<init>") (hty : k_tyo q.1 q.2 = ty) (hna : narrow ty v = v) (hfi : fits ty v = true) (hvr : ∀ ad, narrow ty (k_v ad v) = k_v ad v ∧ fits ty (k_v ad v) = true) (d : decode (k_cc Y) pc = .ok (.putfield n, 3)) (hq : k_lk (k_fl Y.1) n = some q) (ho : k_get h a = some (.inr (q.1, fs))) (hf : q.2 < fs.length) (k : k_W Y sc G (pc + 3, ls, st, k_set h a (.inr (q.1, k_set fs q.2 v)), nc, ns)) : k_W Y sc G (pc, ls, v :: .ref a :: st, h, nc, ns) := by
  intro p l e s m args below meth c g cA A b ad0 n0 Q C E ad H locs la I hv
  obtain ⟨z', hz', hk, hw⟩ := k_fl_ok hq
  cases hz.symm.trans hz'
  refine va_putF (own := k_own Y.1) (ref := (z.2.1 q.2).1) (C := z.1) (T := z.2.1) (N := z.2.2) (ci := q.1) (ty := ty) (v := k_v ad v) C.1 C.2.1 C.2.2.2.2.1 (k_cl_ok hz) (k_tyo q.1) (k_ty_ok hz) (k_nm_ok hz) C.2.2.2.1 C.2.2.2.2.2.1 I.1 I.2.1 I.2.2.1 a (k_w_get ho) hz q.2 hk (C.2.2.2.2.1 _ hw) (fun _ h9 => h9) hfin (C.2.2.2.2.2.2.2.2.2.2.1.trans hin) hdc (by rw [k_ty_ok hz _ hk, hty]) (hvr ad).1 (hvr ad).2 (by simpa using hf) d (fun H1 locs1 hP hD hS => ?_)
  have e1 : ((ad a, .inr (q.1, (fs.map (k_v ad)).set q.2 (k_v ad v))) : Nat × va_E) = (ad a, k_o cA ad (.inr (q.1, k_set fs q.2 v))) := by
    simp only [k_o, k_map_set]
  have e2 : (k_w cA ad h).set a (ad a, .inr (q.1, (fs.map (k_v ad)).set q.2 (k_v ad v))) = k_w cA ad (k_set h a (.inr (q.1, k_set fs q.2 v))) := by
    rw [e1]; exact k_w_set
  rw [e2] at hP hD
  exact k p l e s m args below meth c g cA A b ad0 n0 Q C E ad H1 locs1 la ⟨hP, hD, hS, I.2.2.2.1, by rw [k_set_len]; exact I.2.2.2.2.1, I.2.2.2.2.2⟩ hv
end KK
end
section
/-- one row of a table, whose kind is linked: it takes the thrown one, or it is passed -/
theorem k_row {e : Env} {d : Bool} {acts : List Action} {S : State} {f : JFrame} {a : Addr} {Q : Handler → Pre} {EP : CtlPost} {x : ExceptionTableEntry} {t : List ExceptionTableEntry} {c : ClassId} {cell : Cell} (hx : covers x f.pc = true) (h0 : x.catchType ≠ 0)
    (hl : S.vm.ClassLinks e.platform f.method.cls x.catchType c) (hcell : S.heap[a]? = some cell) (hobj : ∀ k, cell.vm ≠ .statics k) (hk : ∃ k, S.vm.classes[cell.cls]? = some k) (hc : ∃ k, S.vm.classes[c]? = some k) (bb : Bool) (hfit : S.vm.assignable cell.cls c = bb) :
    wp (findHandler.go f a (x :: t)) Q EP e d acts S ↔ (match bb with | true => Q (.found x.handlerPc) d acts (S.setVm (S.vm.noted f.method.cls x.catchType (.cls c))) | false => wp (findHandler.go f a t) Q EP e d acts (S.setVm (S.vm.noted f.method.cls x.catchType (.cls c)))) := by
  have hx2 : (x.startPc ≤ f.pc && f.pc < x.endPc) = true := hx
  obtain ⟨ha, ht⟩ := (resolveClass_links e.toSetting hl).op (op := VmOp.resolveClass f.method.cls x.catchType) rfl
  have hal : S.vm.Alike (S.vm.noted f.method.cls x.catchType (.cls c)) := (Vm.Alike.refl S.vm).noted _ _ _
  obtain ⟨k1, hk1⟩ := hk
  obtain ⟨k2, hk2⟩ := hc
  obtain ⟨k1', hk1', -⟩ := hal.2.2 _ _ hk1
  obtain ⟨k2', hk2', -⟩ := hal.2.2 _ _ hk2
  have hfit' : (S.vm.noted f.method.cls x.catchType (.cls c)).assignable cell.cls c = bb := by rw [hal.assignable]; exact hfit
  cases bb <;> simp [findHandler.go, hx2, h0, ha, ht, hcell, hobj, hk1', hk2', hfit', VmOp.dirties, VmOp.acts]
/-- the search through rows that all reach here: the first that takes E -/
theorem k_rows {e : Env} {s : State} {args : Array Value} {f : JFrame} {a : Addr} {cell : Cell} {own E : String} (hpl : e.platform.magicAccessors = ({} : Platform).magicAccessors) (hown : s.vm.findClass own = some f.method.cls) (hobj : ∀ k, cell.vm ≠ .statics k) (hE : s.vm.findClass E = some cell.cls)
    (x : ExceptionTableEntry) (suf : List ExceptionTableEntry) (nm : String) (hx : covers x f.pc = true) (hx0 : x.catchType ≠ 0) (hxl : (Cond.classLink own x.catchType nm).before args s = true) (hxc : va_Nw (.castable E nm) s) :
    ∀ (pre : List (ExceptionTableEntry × String)) (S : State), s.WarmedH S.vm → S.heap[a]? = some cell → (∀ y ∈ pre, covers y.1 f.pc = true ∧ y.1.catchType ≠ 0 ∧ (Cond.classLink own y.1.catchType y.2).before args s = true ∧ va_Nc E y.2 s) →
      ∃ vm', s.WarmedH vm' ∧ ∀ (Q : Handler → Pre) (EP : CtlPost) (d : Bool) (acts : List Action), wp (findHandler.go f a (pre.map (fun y => y.1) ++ x :: suf)) Q EP e d acts S ↔ Q (.found x.handlerPc) d acts (S.setVm vm') := by
  obtain ⟨k0, hk0, -⟩ := Vm.findClass_spec hE
  intro pre
  induction pre with
  | nil =>
    intro S hW hcell _
    obtain ⟨k0', hk0', -⟩ := hW.alike.2.2 _ _ hk0
    obtain ⟨c3, c4, hc3, hc4, hasg⟩ := Cond.castable_spec hxc
    cases Option.some.inj (hc3.symm.trans hE)
    obtain ⟨c5, hc5, hcl5⟩ := Cond.classLink_spec hown hxl e.platform hpl
    cases Option.some.inj (hc4.symm.trans hc5)
    obtain ⟨dk, _, _, kt, hd, _, _, _, _, hkt, _, hopen⟩ := hcl5.here
    obtain ⟨kt', hkt', -⟩ := hW.alike.2.2 _ _ hkt
    exact ⟨_, hW.noted hd hopen (State.rightAt_cls hcl5), fun Q EP d acts => k_row hx hx0 (hW.classLinks hcl5) hcell hobj ⟨k0', hk0'⟩ ⟨kt', hkt'⟩ true (by rw [hW.alike.assignable]; exact hasg)⟩
  | cons y ys ih =>
    intro S hW hcell hall
    obtain ⟨k0', hk0', -⟩ := hW.alike.2.2 _ _ hk0
    obtain ⟨y1, y2, y3, y4⟩ := hall y List.mem_cons_self
    obtain ⟨c3, c4, hc3, hc4, hasg⟩ := y4
    cases Option.some.inj (hc3.symm.trans hE)
    obtain ⟨c5, hc5, hcl5⟩ := Cond.classLink_spec hown y3 e.platform hpl
    cases Option.some.inj (hc4.symm.trans hc5)
    obtain ⟨dk, _, _, kt, hd, _, _, _, _, hkt, _, hopen⟩ := hcl5.here
    obtain ⟨kt', hkt', -⟩ := hW.alike.2.2 _ _ hkt
    obtain ⟨vm', hW', hq⟩ := ih (S.setVm (S.vm.noted f.method.cls y.1.catchType (.cls c4))) (hW.noted hd hopen (State.rightAt_cls hcl5)) hcell (fun z hz => hall z (List.mem_cons_of_mem _ hz))
    exact ⟨vm', hW', fun Q EP d acts => (k_row y1 y2 (hW.classLinks hcl5) hcell hobj ⟨k0', hk0'⟩ ⟨kt', hkt'⟩ false (by rw [hW.alike.assignable]; exact hasg)).trans (hq Q EP d acts)⟩
/-- caught: on to the handler -/
theorem k_caught {p : Program} {l : Launch} {e : Env} {R : Room} {s : State} {m : MethodId} {args : Array Value} {below : List Frame} {meth : Method} {c : Code} {H : Heap} {locs : List Loc} {cells slots : Nat} {Q : State → Prop} {pc : Nat} {ls : Array Slot} {rest : List Value} {own E : String} {ce : Cell} {q : Addr}
    (hown : s.vm.findClass own = some m.cls) (pre : List (ExceptionTableEntry × String)) (x : ExceptionTableEntry) (nm : String) (suf : List ExceptionTableEntry) (hsplit : c.exceptionTable.toList = pre.map (fun y => y.1) ++ x :: suf)
    (hpre : ∀ y ∈ pre, covers y.1 pc = true ∧ y.1.catchType ≠ 0 ∧ (Cond.classLink own y.1.catchType y.2).before args s = true ∧ va_Nc E y.2 s) (hx : covers x pc = true) (hx0 : x.catchType ≠ 0) (hxl : (Cond.classLink own x.catchType nm).before args s = true) (hxc : va_Nw (.castable E nm) s)
    (hcell : H[q]? = some ce) (hv : ce.vm = .none) (hcl : s.vm.findClass E = some ce.cls) (kk : W p l e R s m args below meth c H locs cells slots Q (F0 m x.handlerPc ls [.ref q])) : vx_W p l e R s m args below meth c H locs cells slots Q (F0 m pc ls rest) q := by
  intro T hT X
  have hpl : e.platform.magicAccessors = ({} : Platform).magicAccessors := by rw [X.admits.platform]
  have hobj : ∀ k, ce.vm ≠ .statics k := fun k => by rw [hv]; intro h; cases h
  obtain ⟨vm', hW', hq⟩ := k_rows (f := F0 m pc ls rest) (a := q) (cell := ce) hpl hown hobj hcl x suf nm hx hx0 hxl hxc pre ((T.setTop (F0 m pc ls rest)).pushFrame (.throwing q)) X.warmed (by
    show T.heap[q]? = some ce
    rw [hT]; exact hcell) hpre
  have hfind : ∀ (Q2 : Handler → Pre) (EP : CtlPost) (d : Bool) (acts : List Action), wp (findHandler (F0 m pc ls rest) q) Q2 EP e d acts ((T.setTop (F0 m pc ls rest)).pushFrame (.throwing q)) ↔ Q2 (.found x.handlerPc) d acts (((T.setTop (F0 m pc ls rest)).pushFrame (.throwing q)).setVm vm') := by
    intro Q2 EP d acts
    rw [W.findHandler_eq (meth := meth) (code := c) X.method' X.code, hsplit]
    exact hq Q2 EP d acts
  have hstep : (stepThrowing e ((T.setTop (F0 m pc ls rest)).pushFrame (.throwing q)) q (.java (F0 m pc ls rest) :: T.frames.tail)).Is ((((T.setTop (F0 m pc ls rest)).pushFrame (.throwing q)).setVm vm').setFrames (.java { F0 m pc ls rest with pc := x.handlerPc, stack := [.ref q] } :: T.frames.tail)) [] := by
    simp only [stepThrowing, searchFrame, vmDo]
    generalize hr : Sem.go _ e false [] _ = res
    obtain ⟨as, rfl, ha⟩ := Sem.eq_ok_of hr (a := Handler.found x.handlerPc) (s' := ((T.setTop (F0 m pc ls rest)).pushFrame (.throwing q)).setVm vm') (acts' := []) (by simp [hfind _ _ _ _])
    exact ⟨rfl, ha⟩
  obtain ⟨t, a1, b1⟩ := kk (T.setVm vm') hT (X.noted hW')
  refine ⟨t, ?_, b1⟩
  have h : At T m c below := X.here
  obtain ⟨hgo, hw⟩ := At.throwing (g := F0 m pc ls rest) h q
  refine Steps.head hgo hw ?_
  obtain ⟨g₀, hg⟩ := Option.isSome_iff_exists.mp h.top
  obtain ⟨r, hr⟩ := State.topJava?_eq_some.mp hg
  rw [stepThread_throwing (frames_entered h.top _)]
  have e9 : T.frames.tail = r := by rw [hr]; rfl
  rw [hstep.1]
  have hr' : (T.setVm vm').frames = .java g₀ :: r := hr
  have e1 : (((T.setTop (F0 m pc ls rest)).pushFrame (.throwing q)).setVm vm').setFrames (.java { F0 m pc ls rest with pc := x.handlerPc, stack := [.ref q] } :: T.frames.tail) = (T.setVm vm').setTop (F0 m x.handlerPc ls [.ref q]) := by
    rw [State.setTop_of_frames _ hr', e9, State.pushFrame, State.setTop_of_frames _ hr]
    have e2 : ∀ (u : State) (F : List Frame), (u.setFrames F).setVm vm' = (u.setVm vm').setFrames F := fun _ _ => rfl
    rw [e2, State.setFrames_setFrames, e2, State.setFrames_setFrames]
  rw [e1]
  exact a1
end
section
theorem k_w_cong {cA : Nat → ClassId} {ad ad' : Nat → Nat} {h : List k_O} (h1 : ∀ i, i < h.length → ad' i = ad i) (h2 : ad' 1000000 = ad 1000000) (hok : h.all (k_oko h.length) = true) : k_w cA ad' h = k_w cA ad h := by
  apply List.ext_getElem?
  intro i
  simp only [k_w, List.getElem?_mapIdx]
  by_cases hi : i < h.length
  · rw [List.getElem?_eq_getElem hi]
    simp only [Option.map_some]
    have ho := List.all_eq_true.mp hok _ (List.getElem_mem hi)
    rw [h1 i hi]
    congr 2
    generalize h[i] = o at ho
    cases o with
    | inl a => rfl
    | inr c =>
      simp only [k_o]
      congr 2
      exact List.map_congr_left (fun v hv => k_v_eq h1 h2 (List.all_eq_true.mp ho v hv))
  · rw [List.getElem?_eq_none (by omega)]
    rfl
set_option maxHeartbeats 1000000 in
theorem k_introH {Y : k_Y} {as : List Value} {h : List k_O} {G : k_G} {v : Option Value} (hy : plainName (k_nm Y).cls = true) (ho : (k_nm Y).cls = k_own Y.1) (hh : k_hh Y ≠ []) (hG : G.1 = .inl v) (hn : Nat.ble (lg_sl as).length (k_nL Y) = true) (k : k_W Y none G (0, lv_args 0 as, [], h, 0, 0)) : k_Met Y as h G := by
  intro l hl g cA ad sz
  have hws : k_ws Y = Cond.codeWith (k_nm Y) (k_cc Y) (k_nL Y) (k_rt Y) (k_hh Y) :: k_T := by
    unfold k_ws
    split
    · next h0 => exact absurd h0 hh
    · next q hs h0 => rw [h0]
  refine vx_ofWH (cc := k_cc Y) (maxL := k_nL Y) (ret := k_rt Y) (hh := k_hh Y) hy hws ?_
  intro p e s m args below meth c s₁ B hml hv
  obtain ⟨rfl, hsz, hP, hK, hD0, hF⟩ := hv
  have hts : ∀ w ∈ k_T, w.before (as.map (k_v ad)).toArray s = true := fun w hw => atoms_spec (ws := k_ws Y) B.pre w (by rw [hws]; exact List.mem_cons_of_mem _ hw)
  have htab : c.exceptionTable.toList = tableOf (k_hh Y) := vx_table (x := k_nm Y) B (atoms_spec (ws := k_ws Y) B.pre _ (by rw [hws]; exact List.mem_cons_self))
  have hown : s.vm.findClass (k_own Y.1) = some m.cls := by rw [← ho]; exact findClass_of_methodNamed B.named
  have hlocks := B.notSynchronized
  have hin : meth.name = (k_nm Y).name := (name_of_methodNamed B.named B.method).1
  subst hsz
  have hD := hD0.self (sz := s.heap.size)
  have hA : ∀ q : Nat, s.heap.size ≤ q → va_A (k_w cA ad h) s.heap.size q := fun q h => Or.inr h
  have C : k_C Y none p l s m (as.map (k_v ad)).toArray meth c g cA (va_A (k_w cA ad h) s.heap.size) 0 :=
    ⟨B.exec, B.bytes, hml, hown, hts, hK, hA, hlocks, hl, hF, hin, fun _ => htab, fun L xs q => by cases q⟩
  have hlv : lv_has ((lg_sl (as.map (k_v ad)) ++ List.replicate (k_nL Y - (lg_sl (as.map (k_v ad))).length) Slot.unset).toArray) (k_nL Y) ((lv_args 0 as).map (fun q => (q.1, k_v ad q.2))) := by
    rw [← k_args]
    exact lv_entry _ (by rw [k_sl]; exact Nat.le_of_ble_eq_true hn)
  rw [lg_entry_eq]
  refine k p l e s m _ below meth c g cA (va_A (k_w cA ad h) s.heap.size) 0 ad h.length _ C ?_ ad s.heap [] _ ⟨hP, hD, va_S.rf, fun _ _ => rfl, Nat.le_refl _, fun q => absurd rfl q, rfl⟩ hlv
  refine ⟨?_, fun E hE h0 => absurd h0 hh, fun E hE h0 => absurd h0 hh⟩
  intro v hG hnar ad1 H1 locs1 la pc I hd
  refine vx_ret ?_
  rcases hd with ⟨rfl, hrt, hd⟩ | ⟨x, ty, rfl, hrt, hd⟩
  · exact W.vret B.exec B.bytes (B.returns.trans hrt) (fun t ht hW => ⟨⟨ad1, none, I.2.2.2.1, I.2.2.2.2.1, I.2.2.2.2.2.2, hG, rfl, by rw [ht]; exact I.1, va_K.moved hW.alike hK, I.2.1⟩, I.2.2.1.F ht⟩) I.2.2.1.2.2 hd
  · exact W.zret B.exec B.bytes (B.returns.trans hrt) (hnar x ty rfl hrt) (fun t ht hW => ⟨⟨ad1, some (.int x), I.2.2.2.1, I.2.2.2.2.1, I.2.2.2.2.2.2, hG, rfl, by rw [ht]; exact I.1, va_K.moved hW.alike hK, I.2.1⟩, I.2.2.1.F ht⟩) I.2.2.1.2.2 hd
def k_okSW (o idx n : Nat) (Y : k_Y) : Bool := decide (Cond.methodLink (k_own o) idx (k_nm Y) ∈ k_T) && decide (Cond.initialized (k_nm Y).cls ∈ k_T) && decide (Cond.codeWith (k_nm Y) (k_cc Y) (k_nL Y) (k_rt Y) (k_hh Y) ∈ k_T) && decide ((k_nm Y).cls ≠ "java/lang/invoke/MethodHandle" ∧ (k_nm Y).cls ≠ "java/lang/invoke/VarHandle" ∧ (parseMethodDescriptor (k_nm Y).desc).map (fun d => d.parameters.length) = some n) && decide (Cond.static (k_nm Y) ∈ k_T) && decide (k_hh Y ≠ [])
def k_rowc (o pc : Nat) (F : String) (b : Bool) (y : (Nat × Nat × Nat × Nat) × String) : Bool := Nat.ble y.1.1 pc && Nat.blt pc y.1.2.1 && !(Nat.beq y.1.2.2.2 0) && decide (Cond.classLink (k_own o) y.1.2.2.2 y.2 ∈ k_T) && decide (y.2 ∈ k_ex6) && decide (F ∈ k_ex6) && decide (k_sub F y.2 = b)
section KV2
variable {p : Program} {l : Launch} {e : Env} {s : State} {m : MethodId} {args : Array Value} {below : List Frame} {meth : Method} {c : Code} {g : va_G} {cA : Nat → ClassId} {A : Nat → Prop} {b : Nat} {ad0 : Nat → Nat} {n0 : Nat} {Q : State → Prop} {ad : Nat → Nat} {H : Heap} {locs : List Loc} {la : Array Slot}
variable {Y Y' : k_Y} {sc : k_Sc} {G G' : k_G} {pc : Nat} {ls : List (Nat × Value)} {st : List Value} {h : List k_O} {nc ns idx : Nat} {as : List Value}
theorem k_callSW {v : Option Value} (hM : k_Met Y' as h G') (hG : G'.1 = .inl v) (hok : k_okSW Y.1 idx as.length Y' = true) (hrm : k_rm Y Y' = true) (hsum : Nat.ble (st.map fun v => v.category).sum 8 = true) (hd : decode (k_cc Y) pc = .ok (.invokestatic idx, 3)) (hf1 : nc + G'.2.2.1 ≤ G.2.2.1) (hf2 : ns + G'.2.2.2 ≤ G.2.2.2)
    (ho1 : ls.all (fun q => k_okv h.length q.2) = true) (ho2 : st.all (k_okv h.length) = true) (k : k_W Y sc G (pc + 3, ls, v.toList ++ st, G'.2.1, nc + G'.2.2.1, ns + G'.2.2.2)) : k_W Y sc G (pc, ls, as.reverse ++ st, h, nc, ns) := by
  intro p l e s m args below meth c g cA A b ad0 n0 Q C E ad H locs la I hv
  unfold k_okSW at hok
  simp only [Bool.and_eq_true, decide_eq_true_eq] at hok
  obtain ⟨⟨⟨⟨⟨a2, a3⟩, a4⟩, a5⟩, a8⟩, a1⟩ := hok
  obtain ⟨r1, r2⟩ := k_and2 hrm
  have hws : k_ws Y' = Cond.codeWith (k_nm Y') (k_cc Y') (k_nL Y') (k_rt Y') (k_hh Y') :: k_T := by
    unfold k_ws
    split
    · next h0 => exact absurd h0 a1
    · next q hs h0 => rw [h0]
  have hGd : GoodIn k_T (va_wsS (k_own Y.1) idx (k_nm Y') (k_ws Y')) := by
    rw [hws]
    exact goodIn_app (k_good (fun w hw => by
      simp only [List.mem_cons, List.not_mem_nil, or_false] at hw
      rcases hw with rfl | rfl | rfl <;> assumption)) (k_good (fun w hw => (List.mem_cons.mp hw).elim (fun e => by rw [e]; exact a4) (fun h => h)))
  have hpre := k_preOf (as := as) C I
  have hst : (F0 m pc la ((as.reverse ++ st).map (k_v ad))).stack = (as.map (k_v ad)).reverse ++ st.map (k_v ad) := by simp
  have hrun := vx_runSX (As := as.map (k_v ad)) (rest := st.map (k_v ad)) (R := k_R Y G) (e := e) (below := below) (meth := meth) (locs := locs) (cells := nc) (slots := ns) ⟨C.1, C.2.1, C.2.2.1, C.2.2.2.1, C.2.2.2.2.1⟩ (hM l C.2.2.2.2.2.2.2.2.1 g cA ad H.size) (vx_cwSW as.length C.2.2.2.2.1 hGd hws rfl rfl a5 ⟨Nat.le_of_ble_eq_true r1, Nat.le_of_ble_eq_true r2⟩) ⟨hpre.1, hpre.2⟩ (g := F0 m pc la ((as.reverse ++ st).map (k_v ad))) rfl (by simp) hv.1 hst (lv_room (by rw [k_sum]; exact Nat.le_of_ble_eq_true hsum)) hd ⟨hf1, hf2⟩
  exact k_backR C E I hv hrun hG ho1 ho2 k
theorem k_toMet {y : MethodName} {ws : List Cond} {rm : Room} {Pc : Array Value → State → Prop} {Qc : Array Value → State → Outcome → State → Prop} {XC : String → State → State → Prop} {mc ms : Nat} {free : Addr → Prop} (hM : vx_Met l y ws rm Pc Qc XC mc ms free) (hno : ∀ E st t, ¬ XC E st t) : Met l y ws rm Pc Qc mc ms free := by
  intro p e h1 h2 h3 s m args below h4 h5 h6 h7
  obtain ⟨n, o, a1, a2, a3, a4⟩ := hM p e h1 h2 h3 s m args below h4 h5 h6 h7
  refine ⟨n, o, a1, a2, a3, ?_⟩
  rcases a4 with a4 | ⟨q, _, E, ce, L, hx, _⟩
  · exact a4
  · exact (hno _ _ _ hx).elim
theorem k_callI {a : Nat} (hM : k_Met Y' (.ref a :: as) h G') (hG : G'.1 = .inl none) (hok : k_okI Y.1 idx as.length Y' = true) (hrm : k_rm Y Y' = true) (hsum : Nat.ble (st.map fun v => v.category).sum 8 = true) (hd : decode (k_cc Y) pc = .ok (.invokespecial idx, 3)) (hf1 : nc + G'.2.2.1 ≤ G.2.2.1) (hf2 : ns + G'.2.2.2 ≤ G.2.2.2)
    (ho1 : ls.all (fun q => k_okv h.length q.2) = true) (ho2 : st.all (k_okv h.length) = true) (k : k_W Y sc G (pc + 3, ls, st, G'.2.1, nc + G'.2.2.1, ns + G'.2.2.2)) : k_W Y sc G (pc, ls, as.reverse ++ .ref a :: st, h, nc, ns) := by
  intro p l e s m args below meth c g cA A b ad0 n0 Q C E ad H locs la I hv
  unfold k_okI k_okB at hok
  simp only [Bool.and_eq_true, decide_eq_true_eq] at hok
  obtain ⟨⟨⟨⟨⟨⟨⟨⟨a1, a2⟩, a3⟩, a4⟩, a5⟩, a6⟩, a7⟩, a8⟩, a9⟩ := hok
  obtain ⟨r1, r2⟩ := k_and2 hrm
  have hws : k_ws Y' = Cond.code (k_nm Y') (k_cc Y') (k_nL Y') none :: k_T := by unfold k_ws; rw [a1, a9]
  have hpre := k_preOf (as := .ref a :: as) C I
  have hts := C.2.2.2.2.1
  have hno : ∀ E st t, ¬ k_XC g cA ad h.length (va_A (k_w cA ad h) H.size) G'.1 G'.2.1 E st t := fun E st t hx => by
    obtain ⟨⟨ad1, q1, q2, q3, q4, q5⟩, hF⟩ := hx
    rw [hG] at q4; cases q4
  have hst : (F0 m pc la ((as.reverse ++ .ref a :: st).map (k_v ad))).stack = (as.map (k_v ad)).reverse ++ .ref (ad a) :: st.map (k_v ad) := by simp [k_v]
  have hrun := va_runI (b := ad a) (As := as.map (k_v ad)) (rest := st.map (k_v ad)) (R := k_R Y G) (e := e) (below := below) (meth := meth) (locs := locs) (cells := nc) (slots := ns) ⟨C.1, C.2.1, C.2.2.1, C.2.2.2.1, C.2.2.2.2.1⟩ (k_toMet (hM l C.2.2.2.2.2.2.2.2.1 g cA ad H.size) hno) (cwI as.length hts (k_wsT a1 a4) hws rfl rfl (hts _ a3) (hts _ a2) (hts _ a7) a8 a5 ⟨Nat.le_of_ble_eq_true r1, Nat.le_of_ble_eq_true r2⟩) ⟨hpre.1, hpre.2⟩ (g := F0 m pc la ((as.reverse ++ .ref a :: st).map (k_v ad))) rfl (by simp) hv.1 hst (lv_room (by rw [k_sum]; exact Nat.le_of_ble_eq_true hsum)) hd ⟨hf1, hf2⟩
  exact k_backR (G' := G') (v := none) C E I hv (fun T hT X => Or.inl (hrun T hT X)) hG ho1 ho2 k
theorem k_callVC {a : Nat} {fs : List Value} {F : String} (pre : List ((Nat × Nat × Nat × Nat) × String)) (x : (Nat × Nat × Nat × Nat) × String) (suf : List (Nat × Nat × Nat × Nat)) (hM : k_Met Y' (.ref a :: as) h G') (hG : G'.1 = .inr F) (hok : k_okV Y.1 idx as.length Y' = true) (hrm : k_rm Y Y' = true) (hr : k_get h a = some (.inr (Y'.1, fs))) (hsum : Nat.ble (st.map fun v => v.category).sum 8 = true) (hd : decode (k_cc Y) pc = .ok (.invokevirtual idx, 3)) (hf1 : nc + G'.2.2.1 ≤ G.2.2.1) (hf2 : ns + G'.2.2.2 ≤ G.2.2.2)
    (hh : k_hh Y = pre.map (fun y => y.1) ++ x.1 :: suf) (hp : pre.all (k_rowc Y.1 pc F false) = true) (hx : k_rowc Y.1 pc F true x = true) (ho1 : ls.all (fun q => k_okv h.length q.2) = true) (hho : G'.2.1.all (k_oko G'.2.1.length) = true) (hlh : Nat.blt G'.2.1.length 1000000 = true) (hle : Nat.ble h.length G'.2.1.length = true)
    (k : k_W Y sc G (x.1.2.2.1, ls, [.ref 1000001], G'.2.1, nc + G'.2.2.1, ns + G'.2.2.2)) : k_W Y sc G (pc, ls, as.reverse ++ .ref a :: st, h, nc, ns) := by
  intro p l e s m args below meth c g cA A b ad0 n0 Q C E ad H locs la I hv
  have hr2 := k_runV (e := e) (below := below) (meth := meth) (locs := locs) (la := la) (G := G) (nc := nc) (ns := ns) (st := st) C I hv hM hok hrm hr hsum hd ⟨hf1, hf2⟩
  have hin := k_inA (g := g) I.2.1 I.2.2.1 C.2.2.2.2.2.2.1
  have hts := C.2.2.2.2.1
  obtain ⟨f1, f2, f3, f4⟩ := C.2.2.2.2.2.2.2.2.2.1
  intro T hT X
  rcases hr2 T hT X with ⟨w, st₀, t, T', L, h0, X', hL, e1, e2, ⟨⟨ad1, v1, q1, q2, q3, q4, q5, q6⟩, hF⟩, stp⟩ | ⟨q, st₀, t, T', L, E1, ce, h0, X', hL, e1, e2, ⟨⟨ad1, q1, q2, q3, q4, q6⟩, hF⟩, hce, hcv, hcl, stp⟩
  · rw [hG] at q4
    cases q4
  · rw [hG] at q4
    cases q4
    obtain ⟨k1, k2, k3⟩ := vx_keep h0 e1 I.2.2.1 (fun q _ hq => hin q hq) hin hL hF
    have hl9 : G'.2.1.length < 1000000 := k_blt hlh
    have hle9 : h.length ≤ G'.2.1.length := Nat.le_of_ble_eq_true hle
    have c1 : ∀ i, i < G'.2.1.length → (fun j => if j = 1000001 then q else ad1 j) i = ad1 i := fun i hi => by simp only; rw [if_neg (by omega)]
    have c2 : (fun j => if j = 1000001 then q else ad1 j) 1000000 = ad1 1000000 := rfl
    have hwc := k_w_cong (cA := cA) c1 c2 hho
    have I1 : k_I Y sc s g cA A b ad0 n0 (fun j => if j = 1000001 then q else ad1 j) T'.heap (locs ++ L) G'.2.1 :=
      ⟨by rw [e1, hwc]; exact q6.1, by rw [hwc]; exact q6.2.2.weaken (fun _ _ _ hq => hin _ hq), k3, fun i hi => by
        have h8 := I.2.2.2.2.1
        rw [c1 i (by omega)]
        exact (q1 i (Nat.lt_of_lt_of_le hi I.2.2.2.2.1)).trans (I.2.2.2.1 i hi), Nat.le_trans I.2.2.2.2.1 q2, fun hs => q3.trans (I.2.2.2.2.2.1 hs), q3.trans I.2.2.2.2.2.2⟩
    have hv1 : lv_has la (k_nL Y) (ls.map (fun z => (z.1, k_v (fun j => if j = 1000001 then q else ad1 j) z.2))) := by
      have e7 : ls.map (fun z => (z.1, k_v (fun j => if j = 1000001 then q else ad1 j) z.2)) = ls.map (fun q => (q.1, k_v ad q.2)) := List.map_congr_left (fun z hz => by
        have := k_v_eq (ad := ad) (ad' := fun j => if j = 1000001 then q else ad1 j) (n := h.length) (fun i hi => (c1 i (by omega)).trans (q1 i hi)) q3 (List.all_eq_true.mp ho1 z hz)
        rw [this])
      rw [e7]; exact hv
    have hk := k p l e s m args below meth c g cA A b ad0 n0 Q C E _ T'.heap (locs ++ L) la I1 hv1
    have hne : k_hh Y ≠ [] := by rw [hh]; simp
    have htab := C.2.2.2.2.2.2.2.2.2.2.2.1 hne
    unfold k_rowc at hx
    simp only [Bool.and_eq_true, decide_eq_true_eq, Bool.not_eq_true'] at hx
    obtain ⟨⟨⟨⟨⟨⟨x1, x2⟩, x3⟩, x4⟩, x5⟩, x6⟩, x7⟩ := hx
    have hcw := k_caught (rest := st.map (k_v ad)) (pc := pc) (E := F) (q := q) (own := k_own Y.1) C.2.2.2.1 (pre.map (fun y => ((⟨y.1.1, y.1.2.1, y.1.2.2.1, y.1.2.2.2⟩ : ExceptionTableEntry), y.2))) ⟨x.1.1, x.1.2.1, x.1.2.2.1, x.1.2.2.2⟩ x.2 (tableOf suf) (by
        rw [htab, hh]
        simp [tableOf, Function.comp_def]) (fun y hy => by
        obtain ⟨z, hz, rfl⟩ := List.mem_map.mp hy
        have hp9 := List.all_eq_true.mp hp z hz
        unfold k_rowc at hp9
        simp only [Bool.and_eq_true, decide_eq_true_eq, Bool.not_eq_true'] at hp9
        obtain ⟨⟨⟨⟨⟨⟨z1, z2⟩, z3⟩, z4⟩, z5⟩, z6⟩, z7⟩ := hp9
        refine ⟨?_, Nat.ne_of_beq_eq_false z3, hts _ z4, (f3.2 F z6 z.2 z5).2 z7⟩
        simp only [covers, Bool.and_eq_true, decide_eq_true_eq]
        exact ⟨Nat.le_of_ble_eq_true z1, k_blt z2⟩) (by
        simp only [covers, Bool.and_eq_true, decide_eq_true_eq]
        exact ⟨Nat.le_of_ble_eq_true x1, k_blt x2⟩) (Nat.ne_of_beq_eq_false x3) (hts _ x4) ((f3.2 F x6 x.2 x5).1 x7) (H := T'.heap) (by rw [e1]; exact hce) hcv hcl (by
        have e8 : [Value.ref q] = ([.ref 1000001] : List Value).map (k_v (fun j => if j = 1000001 then q else ad1 j)) := rfl
        rw [e8]; exact hk)
    obtain ⟨t2, a1, b1⟩ := hcw T' rfl X'
    exact ⟨t2, stp.trans a1, b1⟩
end KV2
end
section
set_option maxRecDepth 20000 in
theorem c4_78 : k_okSW 4 78 2 Y4_day = true := by decide +kernel
set_option maxRecDepth 20000 in
theorem c4_88 : k_okSW 4 88 6 Y4_unit = true := by decide +kernel
set_option maxRecDepth 20000 in
theorem c4_92 : k_okSW 4 92 5 Y4_go = true := by decide +kernel
set_option maxRecDepth 20000 in
theorem c4_96 : k_okSW 4 96 6 Y4_repeater = true := by decide +kernel
set_option maxRecDepth 20000 in
theorem c4_99 : k_okSW 4 99 4 Y4_patch = true := by decide +kernel
set_option maxRecDepth 20000 in
theorem c4_103 : k_okSW 4 103 2 Y4_limit = true := by decide +kernel
set_option maxRecDepth 20000 in
theorem c4_106 : k_okSW 4 106 6 Y4_speak = true := by decide +kernel
set_option maxRecDepth 20000 in
theorem c4_109 : k_okSW 4 109 6 Y4_relay = true := by decide +kernel
set_option maxRecDepth 20000 in
theorem c4_112 : k_okSW 4 112 3 Y4_lose = true := by decide +kernel
set_option maxRecDepth 20000 in
theorem c4_116 : k_okSW 4 116 4 Y4_hears = true := by decide +kernel
set_option maxRecDepth 20000 in
theorem c4_119 : k_okSW 4 119 4 Y4_on = true := by decide +kernel
set_option maxRecDepth 20000 in
theorem c4_122 : k_okSW 4 122 3 Y4_ended = true := by decide +kernel
set_option maxRecDepth 20000 in
theorem c4_125 : k_okSW 4 125 3 Y4_length = true := by decide +kernel
set_option maxRecDepth 20000 in
theorem c4_128 : k_okSW 4 128 4 Y4_unheard = true := by decide +kernel
set_option maxRecDepth 20000 in
theorem c4_131 : k_okSW 4 131 5 Y4_used = true := by decide +kernel
end
section
/-- the class's things: F the numbers, A the rows -/
def hC (F : Nat → Int32) (A : Nat → Nat → Int32) : List k_O := [
  .inr (2, [.ref 1, .ref 6, .ref 11, .ref 21, .ref 22, .ref 23, .int (F 0), .int (F 1)]),
  .inr (1, [.int (nI 20), .ref 2, .ref 3, .ref 4, .ref 5, .int (F 2)]),
  .inl (0, 20, .inl (A 0)), .inl (0, 20, .inl (A 1)), .inl (0, 20, .inl (A 2)), .inl (0, 20, .inl (A 3)),
  .inr (1, [.int (nI 8), .ref 7, .ref 8, .ref 9, .ref 10, .int (F 3)]),
  .inl (0, 8, .inl (A 4)), .inl (0, 8, .inl (A 5)), .inl (0, 8, .inl (A 6)), .inl (0, 8, .inl (A 7)),
  .inr (0, [.ref 12, .ref 13, .ref 14, .ref 15, .ref 16, .ref 17, .ref 18, .ref 19, .ref 20, .int (F 4)]),
  .inl (0, 60, .inl (A 8)), .inl (0, 60, .inl (A 9)), .inl (0, 60, .inl (A 10)), .inl (0, 60, .inl (A 11)), .inl (0, 60, .inl (A 12)), .inl (0, 60, .inl (A 13)), .inl (0, 60, .inl (A 14)), .inl (0, 60, .inl (A 15)), .inl (0, 60, .inl (A 16)),
  .inl (1, 1000, .inl (A 17)), .inl (0, 6, .inl (A 18)), .inl (0, 6, .inl (A 19))]
/-- the reference's things -/
def hM (F : Nat → Int32) (A : Nat → Nat → Int32) : List k_O := [
  .inr (3, [.int (F 0), .int (F 1), .int (F 2), .ref 25, .int (F 3), .ref 26, .ref 27, .ref 28, .ref 29, .int (F 4), .ref 30, .ref 31, .ref 32, .ref 33, .int (F 5), .ref 34, .ref 35, .ref 36, .ref 37, .ref 38, .ref 39, .ref 40, .ref 41, .ref 42, .ref 43]),
  .inl (0, 6, .inl (A 0)),
  .inl (0, 20, .inl (A 1)), .inl (0, 20, .inl (A 2)), .inl (0, 20, .inl (A 3)), .inl (0, 20, .inl (A 4)),
  .inl (0, 8, .inl (A 5)), .inl (0, 8, .inl (A 6)), .inl (0, 8, .inl (A 7)), .inl (0, 8, .inl (A 8)),
  .inl (0, 60, .inl (A 9)), .inl (0, 60, .inl (A 10)), .inl (0, 60, .inl (A 11)), .inl (0, 60, .inl (A 12)), .inl (0, 60, .inl (A 13)),
  .inl (1, 1000, .inl (A 14)), .inl (0, 1000, .inl (A 15)), .inl (0, 1000, .inl (A 16)),
  .inl (0, 60, .inl (A 17)), .inl (0, 60, .inl (A 18))]
def hA (F : Nat → Int32) (A : Nat → Nat → Int32) (G : Nat → Int32) (B : Nat → Nat → Int32) (o : Nat → Int64) : List k_O := hC F A ++ (hM G B ++ [.inl (2, 1, .inr (.inl o))])
def upF (F : Nat → Int32) (k : Nat) (x : Int32) : Nat → Int32 := fun j => cond (Nat.beq j k) x (F j)
def upA (A : Nat → Nat → Int32) (k : Nat) (f : Nat → Int32) : Nat → Nat → Int32 := fun j => cond (Nat.beq j k) f (A j)
/-- states in numbers -/
def cF (f : Nat → Nat) : Nat → Int32 := fun k => nI (f k)
def cA (a : Nat → Nat → Nat) : Nat → Nat → Int32 := fun k j => nI (a k j)
def up1 (f : Nat → Nat) (k v : Nat) : Nat → Nat := fun j => if j = k then v else f j
def up2 (a : Nat → Nat → Nat) (k j v : Nat) : Nat → Nat → Nat := fun i => if i = k then up1 (a i) j v else a i
abbrev hX (f : Nat → Nat) (a : Nat → Nat → Nat) (G : Nat → Int32) (B : Nat → Nat → Int32) (o : Nat → Int64) : List k_O := hA (cF f) (cA a) G B o
theorem cF_up (f : Nat → Nat) (k v : Nat) : upF (cF f) k (nI v) = cF (up1 f k v) := by
  funext j
  simp only [upF, cF, up1]
  cases h : Nat.beq j k with
  | true => rw [if_pos (Nat.eq_of_beq_eq_true h)]; rfl
  | false => rw [if_neg (Nat.ne_of_beq_eq_false h)]; rfl
theorem cA_up (a : Nat → Nat → Nat) (k j v : Nat) : upA (cA a) k (upd (cA a k) j (nI v)) = cA (up2 a k j v) := by
  funext i t
  show upA (cA a) k (upd (cA a k) j (nI v)) i t = nI (up2 a k j v i t)
  unfold upA up2
  cases h : Nat.beq i k with
  | true =>
    have e := Nat.eq_of_beq_eq_true h
    subst e
    rw [if_pos rfl]
    simp only [cond, upd, up1, cA]
    split <;> rfl
  | false => rw [if_neg (Nat.ne_of_beq_eq_false h)]; rfl
def bI (p : Prop) [Decidable p] : Int32 := if p then 1 else 0
theorem bI_t {p : Prop} [Decidable p] (h : p) : bI p = 1 := if_pos h
theorem bI_f {p : Prop} [Decidable p] (h : ¬ p) : bI p = 0 := if_neg h
theorem bI_nar {p : Prop} [Decidable p] : narrow .boolean (.int (bI p)) = .int (bI p) := by
  unfold bI; split <;> rfl
theorem k_at {n j : Nat} {P : Nat → Prop} (hj : j < n) (h : P j) : ∃ i : Nat, nI j = nI i ∧ i < n ∧ P i := ⟨j, rfl, hj, h⟩
theorem k_sa {n j : Nat} {P : Nat → Prop} (hj : j < n) (hj2 : j < 100000) (h : P j) : ∃ i : Nat, nI j = nI i ∧ i < n ∧ i < 100000 ∧ P i := ⟨j, rfl, hj, hj2, h⟩
theorem k_eq {x z : Int32} {P : Int32 → Prop} (e : x = z) (h : P z) : ∃ w, x = w ∧ P w := ⟨z, e, h⟩
section BR
variable {a b : Nat} {P Q : Prop}
theorem b_lt (ha : a < 2 ^ 31) (hb : b < 2 ^ 31) (f : a < b → P) (g : b ≤ a → Q) : (k_cnd .lt (nI a) (nI b) → P) ∧ (k_cnf .lt (nI a) (nI b) → Q) := ⟨fun h => f ((nI_ltI ha hb).mp h), fun h => g (Nat.le_of_not_lt (fun q => h ((nI_ltI ha hb).mpr q)))⟩
theorem b_ge (ha : a < 2 ^ 31) (hb : b < 2 ^ 31) (f : b ≤ a → P) (g : a < b → Q) : (k_cnd .ge (nI a) (nI b) → P) ∧ (k_cnf .ge (nI a) (nI b) → Q) := ⟨fun h => f ((nI_leI hb ha).mp h), fun h => g (Nat.lt_of_not_le (fun q => h ((nI_leI hb ha).mpr q)))⟩
theorem b_gt (ha : a < 2 ^ 31) (hb : b < 2 ^ 31) (f : b < a → P) (g : a ≤ b → Q) : (k_cnd .gt (nI a) (nI b) → P) ∧ (k_cnf .gt (nI a) (nI b) → Q) := ⟨fun h => f ((nI_ltI hb ha).mp h), fun h => g (Nat.le_of_not_lt (fun q => h ((nI_ltI hb ha).mpr q)))⟩
theorem b_le (ha : a < 2 ^ 31) (hb : b < 2 ^ 31) (f : a ≤ b → P) (g : b < a → Q) : (k_cnd .le (nI a) (nI b) → P) ∧ (k_cnf .le (nI a) (nI b) → Q) := ⟨fun h => f ((nI_leI ha hb).mp h), fun h => g (Nat.lt_of_not_le (fun q => h ((nI_leI ha hb).mpr q)))⟩
theorem b_eq (ha : a < 2 ^ 31) (hb : b < 2 ^ 31) (f : a = b → P) (g : a ≠ b → Q) : (k_cnd .eq (nI a) (nI b) → P) ∧ (k_cnf .eq (nI a) (nI b) → Q) := ⟨fun h => f ((nI_eq ha hb).mp h), fun h => g (fun q => h ((nI_eq ha hb).mpr q))⟩
theorem b_ne (ha : a < 2 ^ 31) (hb : b < 2 ^ 31) (f : a ≠ b → P) (g : a = b → Q) : (k_cnd .ne (nI a) (nI b) → P) ∧ (k_cnf .ne (nI a) (nI b) → Q) := ⟨fun h => f (fun q => h ((nI_eq ha hb).mpr q)), fun h => g ((nI_eq ha hb).mp h)⟩
theorem z_eq (ha : a < 2 ^ 31) (f : a = 0 → P) (g : 0 < a → Q) : (k_cnd .eq (nI a) 0 → P) ∧ (k_cnf .eq (nI a) 0 → Q) := ⟨fun h => f ((nI_eq ha (by omega)).mp (h.trans nI_0.symm)), fun h => g (Nat.pos_of_ne_zero (fun q => h (by rw [q]; exact nI_0)))⟩
theorem z_ne (ha : a < 2 ^ 31) (f : 0 < a → P) (g : a = 0 → Q) : (k_cnd .ne (nI a) 0 → P) ∧ (k_cnf .ne (nI a) 0 → Q) := ⟨fun h => f (Nat.pos_of_ne_zero (fun q => h (by rw [q]; exact nI_0))), fun h => g ((nI_eq ha (by omega)).mp (h.trans nI_0.symm))⟩
theorem z_gt (ha : a < 2 ^ 31) (f : 0 < a → P) (g : a = 0 → Q) : (k_cnd .gt (nI a) 0 → P) ∧ (k_cnf .gt (nI a) 0 → Q) := by
  have e := b_gt (b := 0) ha (by omega) f (fun h => g (Nat.le_zero.mp h))
  rw [nI_0] at e; exact e
theorem z_le (ha : a < 2 ^ 31) (f : a = 0 → P) (g : 0 < a → Q) : (k_cnd .le (nI a) 0 → P) ∧ (k_cnf .le (nI a) 0 → Q) := by
  have e := b_le (b := 0) ha (by omega) (fun h => f (Nat.le_zero.mp h)) g
  rw [nI_0] at e; exact e
theorem z_lt (ha : a < 2 ^ 31) (g : Q) : (k_cnd .lt (nI a) 0 → P) ∧ (k_cnf .lt (nI a) 0 → Q) := ⟨fun h => absurd h (nI_pos ha), fun _ => g⟩
theorem z_ge (ha : a < 2 ^ 31) (f : P) : (k_cnd .ge (nI a) 0 → P) ∧ (k_cnf .ge (nI a) 0 → Q) := ⟨fun _ => f, fun h => absurd (nI_pos' ha) h⟩
theorem p_eq {p : Prop} [Decidable p] (f : ¬ p → P) (g : p → Q) : (k_cnd .eq (bI p) 0 → P) ∧ (k_cnf .eq (bI p) 0 → Q) := ⟨fun h => f (fun q => by rw [bI_t q] at h; exact absurd (show (1 : Int32) = 0 from h) (by decide)), fun h => g (Decidable.byContradiction (fun q => h (bI_f q)))⟩
theorem p_ne {p : Prop} [Decidable p] (f : p → P) (g : ¬ p → Q) : (k_cnd .ne (bI p) 0 → P) ∧ (k_cnf .ne (bI p) 0 → Q) := ⟨fun h => f (Decidable.byContradiction (fun q => h (bI_f q))), fun h => g (fun q => by rw [bI_t q] at h; exact absurd (show (1 : Int32) = 0 from h) (by decide))⟩
end BR
theorem k_rb {x : Int32} {h : List k_O} {mc ms : Nat} {p : Prop} [Decidable p] (e : x = bI p) : ((.inl (some (.int (bI p))), h, mc, ms) : k_G).1 = .inl (some (.int x)) := by rw [e]
/-- all numbers of the rows but the latest ones are small -/
def Bd (a : Nat → Nat → Nat) : Prop := ∀ k j, k < 19 → a k j < 10000
abbrev onP (a : Nat → Nat → Nat) (m s : Nat) : Prop := a 13 m ≤ s ∧ s < a 13 m + a 14 m
end
section
section MS
variable {f : Nat → Nat} {a : Nat → Nat → Nat} {G : Nat → Int32} {B : Nat → Nat → Int32} {o : Nat → Int64}
theorem m0_setOn {F : Nat → Int32} {A : Nat → Nat → Int32} {m : Nat} (hm : m < 60) (x y z : Int32) : k_Met Y0_setOn [.ref 11, .int (nI m), .int x, .int y, .int z] (hA F A G B o) (.inl none, hA F (upA (upA (upA A 13 (upd (A 13) m x)) 14 (upd (A 14) m y)) 15 (upd (A 15) m z)) G B o, 0, 0) := by
  refine k_intro (by decide +kernel) rfl rfl rfl ?_
  refine k_go 99 [] T0_setOn_ok (fun K hK => ?_)
  refine k_at hm ?_
  refine k_at hm ?_
  refine k_at hm ?_
  refine hK _ ?_
  exact k_return d0_setOn_22 rfl rfl rfl (Nat.le_refl _) (Nat.le_refl _)
/-- setOn in numbers -/
def sOn (a : Nat → Nat → Nat) (m x y z : Nat) : Nat → Nat → Nat := up2 (up2 (up2 a 13 m x) 14 m y) 15 m z
theorem m0_setOnN {m : Nat} (hm : m < 60) (x y z : Nat) : k_Met Y0_setOn [.ref 11, .int (nI m), .int (nI x), .int (nI y), .int (nI z)] (hX f a G B o) (.inl none, hX f (sOn a m x y z) G B o, 0, 0) := by
  have h := m0_setOn (G := G) (B := B) (o := o) (F := cF f) (A := cA a) hm (nI x) (nI y) (nI z)
  have e : upA (upA (upA (cA a) 13 (upd (cA a 13) m (nI x))) 14 (upd (cA a 14) m (nI y))) 15 (upd (cA a 15) m (nI z)) = cA (sOn a m x y z) := by
    have e1 := cA_up a 13 m x
    have e2 := cA_up (up2 a 13 m x) 14 m y
    have e3 := cA_up (up2 (up2 a 13 m x) 14 m y) 15 m z
    rw [e1]
    exact (congrArg (fun z9 => upA z9 15 _) e2).trans e3
  rw [e] at h
  exact h
theorem m0_markLost {m : Nat} (hm : m < 60) : k_Met Y0_markLost [.ref 11, .int (nI m)] (hX f a G B o) (.inl none, hX f (sOn a m (a 10 m) 0 3) G B o, 0, 0) := by
  refine k_intro (by decide +kernel) rfl rfl rfl ?_
  refine k_go 99 [] T0_markLost_ok (fun K hK => ?_)
  refine k_at hm ?_
  refine hK _ ?_
  refine k_callV (Y' := Y0_setOn) (as := [.int (nI m), .int (nI (a 10 m)), .int (nI 0), .int (nI 3)]) (st := []) (m0_setOnN hm (a 10 m) 0 3) rfl c0_43 rfl rfl rfl d0_markLost_10 (Nat.le_refl _) (Nat.le_refl _) rfl rfl ?_
  exact k_return d0_markLost_13 rfl rfl rfl (Nat.le_refl _) (Nat.le_refl _)
theorem m0_isOn (hB : Bd a) {m s : Nat} (hm : m < 60) (hs : s < 10000) : k_Met Y0_isOn [.ref 11, .int (nI m), .int (nI s)] (hX f a G B o) (.inl (some (.int (bI (onP a m s)))), hX f a G B o, 0, 0) := by
  have h13 := hB 13 m (by omega)
  have h14 := hB 14 m (by omega)
  refine k_intro (by decide +kernel) rfl rfl rfl ?_
  refine k_go 99 [] T0_isOn_ok (fun K hK => ?_)
  refine k_at hm ?_
  refine b_lt (a := s) (b := a 13 m) (by omega) (by omega) (fun h => ?_) (fun h => ?_)
  · refine hK _ ?_
    exact k_ireturn d0_isOn_32 rfl rfl (k_rb (by rw [bI_f (by omega)]; rfl)) rfl (Nat.le_refl _) (Nat.le_refl _)
  · refine k_at hm ?_
    refine k_eq (z := nI (s - a 13 m)) (pk_sub h) ?_
    refine k_at hm ?_
    refine b_ge (a := s - a 13 m) (b := a 14 m) (by omega) (by omega) (fun h2 => ?_) (fun h2 => ?_)
    · refine hK _ ?_
      exact k_ireturn d0_isOn_32 rfl rfl (k_rb (by rw [bI_f (by omega)]; rfl)) rfl (Nat.le_refl _) (Nat.le_refl _)
    · refine hK _ ?_
      exact k_ireturn d0_isOn_32 rfl rfl (k_rb (by rw [bI_t (by omega)]; rfl)) rfl (Nat.le_refl _) (Nat.le_refl _)
end MS
end
section
theorem k_heq {Y : k_Y} {sc : k_Sc} {G : k_G} {pc : Nat} {ls : List (Nat × Value)} {st : List Value} {h h' : List k_O} {nc ns : Nat} (e : h = h') (k : k_W Y sc G (pc, ls, st, h', nc, ns)) : k_W Y sc G (pc, ls, st, h, nc, ns) := e ▸ k
theorem cA_up' {A : Nat → Nat → Int32} {a : Nat → Nat → Nat} {k j v : Nat} {r : Nat → Int32} (h1 : A = cA a) (h2 : r = cA a k) : upA A k (upd r j (nI v)) = cA (up2 a k j v) := by
  subst h1; subst h2; exact cA_up a k j v
theorem cF_up' {F : Nat → Int32} {f : Nat → Nat} {k v : Nat} (h1 : F = cF f) : upF F k (nI v) = cF (up1 f k v) := by
  subst h1; exact cF_up f k v
theorem hX_eq {F F' : Nat → Int32} {A A' : Nat → Nat → Int32} {G : Nat → Int32} {B : Nat → Nat → Int32} {o : Nat → Int64} (h1 : F = F') (h2 : A = A') : hA F A G B o = hA F' A' G B o := by rw [h1, h2]
theorem mxN {a b : Nat} (ha : a < 2 ^ 31) (hb : b < 2 ^ 31) : (if nI a < nI b then nI b else nI a) = nI (max a b) := by
  by_cases h : a < b
  · rw [if_pos ((nI_ltI ha hb).mpr h), Nat.max_eq_right (by omega)]
  · rw [if_neg (fun q => h ((nI_ltI ha hb).mp q)), Nat.max_eq_left (by omega)]
theorem mnN {a b : Nat} (ha : a < 2 ^ 31) (hb : b < 2 ^ 31) : (if nI b < nI a then nI b else nI a) = nI (min a b) := by
  by_cases h : b < a
  · rw [if_pos ((nI_ltI hb ha).mpr h), Nat.min_eq_right (by omega)]
  · rw [if_neg (fun q => h ((nI_ltI hb ha).mp q)), Nat.min_eq_left (by omega)]
theorem mx0 {x y : Nat} (hx : x < 2 ^ 30) (hy : y < 2 ^ 30) : (if (0 : Int32) < nI y - nI x then nI y - nI x else 0) = nI (y - x) := by
  by_cases h : x ≤ y
  · rw [pk_sub h]
    by_cases h2 : y - x = 0
    · rw [h2, nI_0]; rfl
    · rw [if_pos]
      have := nI_lt (a := 0) (b := y - x) (by omega) (by omega)
      rw [nI_0] at this; exact this
  · have h1 := pk_sneg (a := y) (b := x) hx (by omega)
    have h2 : ¬ (0 : Int32) < nI y - nI x := fun q => absurd (Int32.lt_trans q h1) (by decide)
    rw [if_neg h2, show y - x = 0 by omega, nI_0]
theorem c0_47m : k_okM 0 47 Lib.Math.max.name Lib.Math.max.code = true := by decide +kernel
theorem c0_53m : k_okM 0 53 Lib.Math.min.name Lib.Math.min.code = true := by decide +kernel
section MS
variable {f : Nat → Nat} {a : Nat → Nat → Nat} {G : Nat → Int32} {B : Nat → Nat → Int32} {o : Nat → Int64}
theorem m0_beginsWith (hB : Bd a) {p m : Nat} (hp : p < 60) (hm : m < 60) (hq : a 16 p < 60) : k_Met Y0_beginsWith [.ref 11, .int (nI p), .int (nI m)] (hX f a G B o) (.inl (some (.int (bI (a 10 (a 16 p) = a 10 m)))), hX f a G B o, 0, 0) := by
  have h1 := hB 10 (a 16 p) (by omega)
  have h2 := hB 10 m (by omega)
  refine k_intro (by decide +kernel) rfl rfl rfl ?_
  refine k_go 99 [] T0_beginsWith_ok (fun K hK => ?_)
  refine k_at hp ?_
  refine k_at (j := a 16 p) hq ?_
  refine k_at hm ?_
  refine b_ne (a := a 10 (a 16 p)) (b := a 10 m) (by omega) (by omega) (fun h => ?_) (fun h => ?_)
  · refine hK _ ?_
    exact k_ireturn d0_beginsWith_25 rfl rfl (k_rb (by rw [bI_f h]; rfl)) rfl (Nat.le_refl _) (Nat.le_refl _)
  · refine hK _ ?_
    exact k_ireturn d0_beginsWith_25 rfl rfl (k_rb (by rw [bI_t h]; rfl)) rfl (Nat.le_refl _) (Nat.le_refl _)
def cutA (a : Nat → Nat → Nat) (m s : Nat) : Nat → Nat → Nat := if s - a 13 m + 1 < a 14 m then sOn a m (a 13 m) (s - a 13 m + 1) 1 else a
theorem m0_cutAfter (hB : Bd a) {m s : Nat} (hm : m < 60) (hs : s < 10000) (h13 : a 13 m ≤ s) : k_Met Y0_cutAfter [.ref 11, .int (nI m), .int (nI s)] (hX f a G B o) (.inl none, hX f (cutA a m s) G B o, 0, 0) := by
  have h14 := hB 14 m (by omega)
  refine k_intro (by decide +kernel) rfl rfl rfl ?_
  refine k_go 99 [] T0_cutAfter_ok (fun K hK => ?_)
  refine k_at hm ?_
  refine k_eq (z := nI (s - a 13 m)) (pk_sub h13) ?_
  refine k_eq (z := nI (s - a 13 m + 1)) (nI_add _ 1) ?_
  refine k_at hm ?_
  refine b_ge (a := s - a 13 m + 1) (b := a 14 m) (by omega) (by omega) (fun h => ?_) (fun h => ?_)
  · refine hK _ ?_
    exact k_return d0_cutAfter_34 rfl rfl (by simp only [cutA]; rw [if_neg (by omega)]) (Nat.le_refl _) (Nat.le_refl _)
  · refine k_at hm ?_
    refine hK _ ?_
    refine k_callV (Y' := Y0_setOn) (as := [.int (nI m), .int (nI (a 13 m)), .int (nI (s - a 13 m + 1)), .int (nI 1)]) (st := []) (m0_setOnN hm (a 13 m) (s - a 13 m + 1) 1) rfl c0_43 rfl rfl rfl d0_cutAfter_31 (Nat.le_refl _) (Nat.le_refl _) rfl rfl ?_
    exact k_return d0_cutAfter_34 rfl rfl (by simp only [cutA]; rw [if_pos h]) (Nat.le_refl _) (Nat.le_refl _)
theorem m0_wordIn (hB : Bd a) {m s : Nat} (hm : m < 60) (hs : s < 10000) (h13 : a 13 m ≤ s) : k_Met Y0_wordIn [.ref 11, .int (nI m), .int (nI s)] (hX f a G B o) (.inl (some (.int (nI (if a 11 m = 0 then 0 else s - a 13 m + 1)))), hX f a G B o, 0, 0) := by
  have h11 := hB 11 m (by omega)
  refine k_intro (by decide +kernel) rfl rfl rfl ?_
  refine k_go 99 [] T0_wordIn_ok (fun K hK => ?_)
  refine k_at hm ?_
  refine z_ne (a := a 11 m) (by omega) (fun h => ?_) (fun h => ?_)
  · refine k_at hm ?_
    refine k_eq (z := nI (s - a 13 m)) (pk_sub h13) ?_
    refine k_eq (z := nI (s - a 13 m + 1)) (nI_add _ 1) ?_
    refine hK _ ?_
    exact k_ireturn d0_wordIn_23 rfl rfl (by rw [if_neg (by omega)]) rfl (Nat.le_refl _) (Nat.le_refl _)
  · refine hK _ ?_
    exact k_ireturn d0_wordIn_23 rfl rfl (by rw [if_pos h]; rfl) rfl (Nat.le_refl _) (Nat.le_refl _)
theorem m0_slotsOnWithin (hB : Bd a) {m x y : Nat} (hm : m < 60) (hx : x < 10000) (hy : y < 10000) : k_Met Y0_slotsOnWithin [.ref 11, .int (nI m), .int (nI x), .int (nI y)] (hX f a G B o) (.inl (some (.int (nI (min y (a 13 m + a 14 m) - max x (a 13 m))))), hX f a G B o, 0, 0) := by
  have h13 := hB 13 m (by omega)
  have h14 := hB 14 m (by omega)
  refine k_intro (by decide +kernel) rfl rfl rfl ?_
  refine k_go 99 [] T0_slotsOnWithin_ok (fun K hK => ?_)
  refine k_at hm ?_
  refine hK _ ?_
  refine k_mmax (x := nI x) (y := nI (a 13 m)) c0_47m (mxN (by omega) (by omega)) d0_slotsOnWithin_7 rfl rfl (Nat.le_refl _) (Nat.le_refl _) ?_
  refine k_go 99 [] T0_slotsOnWithin_ok (fun K hK => ?_)
  refine k_at hm ?_
  refine k_at hm ?_
  refine k_eq (z := nI (a 13 m + a 14 m)) (nI_add _ _) ?_
  refine hK _ ?_
  refine k_mmin (x := nI y) (y := nI (a 13 m + a 14 m)) c0_53m (mnN (by omega) (by omega)) d0_slotsOnWithin_26 rfl rfl (Nat.le_refl _) (Nat.le_refl _) ?_
  refine k_go 99 [] T0_slotsOnWithin_ok (fun K hK => ?_)
  refine k_eq rfl ?_
  refine hK _ ?_
  refine k_mmax (x := nI 0) (y := nI (min y (a 13 m + a 14 m)) - nI (max x (a 13 m))) c0_47m (mx0 (by omega) (by omega)) d0_slotsOnWithin_37 rfl rfl (Nat.le_refl _) (Nat.le_refl _) ?_
  exact k_ireturn d0_slotsOnWithin_40 rfl rfl rfl rfl (Nat.le_refl _) (Nat.le_refl _)
/-- the unit has one that begins there -/
abbrev hasB (f : Nat → Nat) (a : Nat → Nat → Nat) (u s : Nat) : Prop := ∃ m, m < f 4 ∧ a 8 m = u ∧ a 10 m = s
theorem m0_hasBegin_loop (hB : Bd a) (h4 : f 4 ≤ 60) {u s : Nat} (hu : u < 10000) (hs : s < 10000) [Decidable (hasB f a u s)] : ∀ (n i : Nat), f 4 - i < n → i ≤ f 4 → (∀ m, m < i → ¬ (a 8 m = u ∧ a 10 m = s)) →
    k_W Y0_hasBegin none (.inl (some (.int (bI (hasB f a u s)))), hX f a G B o, 0, 0) (2, [(3, .int (nI i)), (0, .ref 11), (1, .int (nI u)), (2, .int (nI s))], [], hX f a G B o, 0, 0) := by
  intro n
  induction n with
  | zero => intro i h; omega
  | succ n ih =>
    intro i hn hi hb
    refine k_go 99 [2] T0_hasBegin_ok (fun K hK => ?_)
    refine b_ge (a := i) (b := f 4) (by omega) (by omega) (fun h => ?_) (fun h => ?_)
    · refine hK _ ?_
      exact k_ireturn d0_hasBegin_39 rfl rfl (k_rb (by
        rw [bI_f]; rfl
        rintro ⟨m, h1, h2⟩
        exact hb m (by omega) h2)) rfl (Nat.le_refl _) (Nat.le_refl _)
    · have h8 := hB 8 i (by omega)
      have h10 := hB 10 i (by omega)
      refine k_at (j := i) (by omega) ?_
      refine b_ne (a := a 8 i) (b := u) (by omega) (by omega) (fun h2 => ?_) (fun h2 => ?_)
      · refine k_eq (z := nI (i + 1)) (nI_add i 1) ?_
        refine hK _ ?_
        exact ih (i + 1) (by omega) (by omega) (lt_s hb (fun q => h2 q.1))
      · refine k_at (j := i) (by omega) ?_
        refine b_ne (a := a 10 i) (b := s) (by omega) (by omega) (fun h3 => ?_) (fun h3 => ?_)
        · refine k_eq (z := nI (i + 1)) (nI_add i 1) ?_
          refine hK _ ?_
          exact ih (i + 1) (by omega) (by omega) (lt_s hb (fun q => h3 q.2))
        · refine hK _ ?_
          exact k_ireturn d0_hasBegin_31 rfl rfl (k_rb (by rw [bI_t ⟨i, h, h2, h3⟩]; rfl)) rfl (Nat.le_refl _) (Nat.le_refl _)
theorem m0_hasBegin (hB : Bd a) (h4 : f 4 ≤ 60) {u s : Nat} (hu : u < 10000) (hs : s < 10000) [Decidable (hasB f a u s)] : k_Met Y0_hasBegin [.ref 11, .int (nI u), .int (nI s)] (hX f a G B o) (.inl (some (.int (bI (hasB f a u s)))), hX f a G B o, 0, 0) := by
  refine k_intro (by decide +kernel) rfl rfl rfl ?_
  refine k_go 99 [2] T0_hasBegin_ok (fun K hK => ?_)
  refine hK _ ?_
  exact m0_hasBegin_loop hB h4 hu hs (f 4 + 1) 0 (by omega) (by omega) (fun m h => by omega)
/-- the place for one more, and the row as it is when the place is found -/
def insA (w : Nat) : Nat → (Nat → Nat → Nat) → (Nat → Nat → Nat) × Nat
  | 0, a => (a, 0)
  | p + 1, a => if w < a 10 (a 16 p) then insA w p (up2 a 16 (p + 1) (a 16 p)) else (a, p + 1)
/-- one more message -/
def addA (f : Nat → Nat) (a : Nat → Nat → Nat) (u c w n r : Nat) : Nat → Nat → Nat :=
  up2 (up2 (up2 (up2 (up2 (up2 (insA w (f 4) a).1 16 (insA w (f 4) a).2 (f 4)) 8 (f 4) u) 9 (f 4) c) 10 (f 4) w) 11 (f 4) n) 12 (f 4) r
theorem m0_add_loop {u c w n r : Nat} (h4 : f 4 < 60) (hw : w < 10000) : ∀ (p : Nat) (a : Nat → Nat → Nat), p ≤ f 4 → Bd a → (∀ j, a 16 j < 60) → ∀ (G9 : k_G), G9 = (.inl (some (.int (nI (f 4)))), hX (up1 f 4 (f 4 + 1)) (up2 (up2 (up2 (up2 (up2 (up2 (insA w p a).1 16 (insA w p a).2 (f 4)) 8 (f 4) u) 9 (f 4) c) 10 (f 4) w) 11 (f 4) n) 12 (f 4) r) G B o, 0, 0) →
    k_W Y0_add none G9 (10, [(7, .int (nI p)), (6, .int (nI (f 4))), (0, .ref 11), (1, .int (nI u)), (2, .int (nI c)), (3, .int (nI w)), (4, .int (nI n)), (5, .int (nI r))], [], hX f a G B o, 0, 0) := by
  have fin : ∀ (p : Nat) (a : Nat → Nat → Nat), p < 60 → k_W Y0_add none (.inl (some (.int (nI (f 4)))), hX (up1 f 4 (f 4 + 1)) (up2 (up2 (up2 (up2 (up2 (up2 a 16 p (f 4)) 8 (f 4) u) 9 (f 4) c) 10 (f 4) w) 11 (f 4) n) 12 (f 4) r) G B o, 0, 0) (55, [(7, .int (nI p)), (6, .int (nI (f 4))), (0, .ref 11), (1, .int (nI u)), (2, .int (nI c)), (3, .int (nI w)), (4, .int (nI n)), (5, .int (nI r))], [], hX f a G B o, 0, 0) := by
    intro p a hp
    refine k_go 99 [10] T0_add_ok (fun K hK => ?_)
    refine k_at hp ?_
    refine k_eq (z := nI (f 4 + 1)) (nI_add _ 1) ?_
    refine k_at h4 ?_
    refine k_at h4 ?_
    refine k_at h4 ?_
    refine k_at h4 ?_
    refine k_at h4 ?_
    refine hK _ ?_
    exact k_ireturn d0_add_118 rfl rfl rfl (hX_eq (cF_up' rfl) (cA_up' (cA_up' (cA_up' (cA_up' (cA_up' (cA_up' (a := a) rfl rfl) rfl) rfl) rfl) rfl) rfl)).symm (Nat.le_refl _) (Nat.le_refl _)
  intro p
  induction p with
  | zero =>
    intro a hp hB h16 G9 hG
    subst hG
    refine k_go 99 [10, 55] T0_add_ok (fun K hK => ?_)
    refine z_le (a := 0) (by omega) (fun h => ?_) (fun h => absurd h (by omega))
    refine hK _ ?_
    exact fin 0 a (by omega)
  | succ p ih =>
    intro a hp hB h16 G9 hG
    refine k_go 99 [10, 55] T0_add_ok (fun K hK => ?_)
    refine z_le (a := p + 1) (by omega) (fun h => absurd h (by omega)) (fun h => ?_)
    refine k_eq (z := nI p) (nI_pred p) ?_
    refine k_at (j := p) (by omega) ?_
    have h10 := hB 10 (a 16 p) (by omega)
    refine k_at (j := a 16 p) (h16 p) ?_
    refine b_le (a := a 10 (a 16 p)) (b := w) (by omega) (by omega) (fun h2 => ?_) (fun h2 => ?_)
    · refine hK _ ?_
      have e : insA w (p + 1) a = (a, p + 1) := by
        show (if w < a 10 (a 16 p) then insA w p (up2 a 16 (p + 1) (a 16 p)) else (a, p + 1)) = _
        rw [if_neg (by omega)]
      rw [e] at hG
      subst hG
      exact fin (p + 1) a (by omega)
    · refine k_eq (z := nI p) (nI_pred p) ?_
      refine k_at (j := p) (by omega) ?_
      refine k_at (j := p + 1) (by omega) ?_
      refine k_eq (z := nI p) (pk_m1 p) ?_
      refine hK _ ?_
      have e : insA w (p + 1) a = insA w p (up2 a 16 (p + 1) (a 16 p)) := by
        show (if w < a 10 (a 16 p) then insA w p (up2 a 16 (p + 1) (a 16 p)) else (a, p + 1)) = _
        rw [if_pos h2]
      rw [e] at hG
      refine k_heq (hX_eq rfl (cA_up a 16 (p + 1) (a 16 p))) ?_
      refine ih (up2 a 16 (p + 1) (a 16 p)) (by omega) ?_ ?_ G9 hG
      · intro k j hk
        unfold up2
        split
        · unfold up1
          split
          · have := h16 p; omega
          · exact hB k j hk
        · exact hB k j hk
      · intro j
        show up1 (a 16) (p + 1) (a 16 p) j < 60
        unfold up1
        split
        · exact h16 p
        · exact h16 j
theorem m0_add {u c w n r : Nat} (hB : Bd a) (h16 : ∀ j, a 16 j < 60) (h4 : f 4 < 60) (hw : w < 10000) : k_Met Y0_add [.ref 11, .int (nI u), .int (nI c), .int (nI w), .int (nI n), .int (nI r)] (hX f a G B o) (.inl (some (.int (nI (f 4)))), hX (up1 f 4 (f 4 + 1)) (addA f a u c w n r) G B o, 0, 0) := by
  refine k_intro (by decide +kernel) rfl rfl rfl ?_
  refine k_go 99 [10] T0_add_ok (fun K hK => ?_)
  refine hK _ ?_
  exact m0_add_loop h4 hw (f 4) a (Nat.le_refl _) hB h16 _ rfl
end MS
end
section
set_option maxRecDepth 20000 in
theorem kt_44 : k_okT 2 42 44 46 "java/lang/IllegalArgumentException" "a day of too many slots" ["java/lang/RuntimeException", "java/lang/Exception"] = true := by decide +kernel
set_option maxRecDepth 20000 in
theorem kt_51 : k_okT 2 49 51 53 "java/lang/NegativeArraySizeException" "a day of fewer than no slots" ["java/lang/RuntimeException", "java/lang/Exception"] = true := by decide +kernel
set_option maxRecDepth 20000 in
theorem kt_79 : k_okT 2 77 79 81 "java/lang/IndexOutOfBoundsException" "no such channels" ["java/lang/RuntimeException", "java/lang/Exception"] = true := by decide +kernel
set_option maxRecDepth 20000 in
theorem kt_93 : k_okT 2 77 93 81 "java/lang/IndexOutOfBoundsException" "no such limit" ["java/lang/RuntimeException", "java/lang/Exception"] = true := by decide +kernel
set_option maxRecDepth 20000 in
theorem kt_101 : k_okT 2 77 101 81 "java/lang/IndexOutOfBoundsException" "no such words" ["java/lang/RuntimeException", "java/lang/Exception"] = true := by decide +kernel
set_option maxRecDepth 20000 in
theorem kt_124 : k_okT 2 122 124 126 "java/lang/IllegalStateException" "the unit has not heard the whole message" ["java/lang/RuntimeException", "java/lang/Exception"] = true := by decide +kernel
set_option maxRecDepth 20000 in
theorem kt_152 : k_okT 2 77 152 81 "java/lang/IndexOutOfBoundsException" "no such place among the units" ["java/lang/RuntimeException", "java/lang/Exception"] = true := by decide +kernel
set_option maxRecDepth 20000 in
theorem kt_160 : k_okT 2 77 160 81 "java/lang/IndexOutOfBoundsException" "no such part of the day" ["java/lang/RuntimeException", "java/lang/Exception"] = true := by decide +kernel
set_option maxRecDepth 20000 in
theorem kt_168 : k_okT 2 42 168 46 "java/lang/IllegalArgumentException" "no such unit" ["java/lang/RuntimeException", "java/lang/Exception"] = true := by decide +kernel
set_option maxRecDepth 20000 in
theorem kt_170 : k_okT 2 42 170 46 "java/lang/IllegalArgumentException" "no such message" ["java/lang/RuntimeException", "java/lang/Exception"] = true := by decide +kernel
end
section
set_option maxRecDepth 20000 in
theorem kt_172 : k_okT 2 42 172 46 "java/lang/IllegalArgumentException" "no such channel" ["java/lang/RuntimeException", "java/lang/Exception"] = true := by decide +kernel
set_option maxRecDepth 20000 in
theorem kt_179 : k_okT 2 177 179 181 "java/lang/ArrayIndexOutOfBoundsException" "no such slot" ["java/lang/IndexOutOfBoundsException", "java/lang/RuntimeException", "java/lang/Exception"] = true := by decide +kernel
set_option maxRecDepth 20000 in
theorem kt_182 : k_okT 2 77 182 81 "java/lang/IndexOutOfBoundsException" "no such point" ["java/lang/RuntimeException", "java/lang/Exception"] = true := by decide +kernel
set_option maxRecDepth 20000 in
theorem kt_184 : k_okT 2 77 184 81 "java/lang/IndexOutOfBoundsException" "no channel of that number" ["java/lang/RuntimeException", "java/lang/Exception"] = true := by decide +kernel
set_option maxRecDepth 20000 in
theorem kt_186 : k_okT 2 77 186 81 "java/lang/IndexOutOfBoundsException" "no slot of that number" ["java/lang/RuntimeException", "java/lang/Exception"] = true := by decide +kernel
set_option maxRecDepth 20000 in
theorem kt_188 : k_okT 2 77 188 81 "java/lang/IndexOutOfBoundsException" "no such rank" ["java/lang/RuntimeException", "java/lang/Exception"] = true := by decide +kernel
set_option maxRecDepth 20000 in
theorem kt_193 : k_okT 2 122 193 126 "java/lang/IllegalStateException" "the unit has a message that begins in this slot" ["java/lang/RuntimeException", "java/lang/Exception"] = true := by decide +kernel
set_option maxRecDepth 20000 in
theorem kt_197 : k_okT 2 195 197 199 "java/lang/UnsupportedOperationException" "no room for one more message" ["java/lang/RuntimeException", "java/lang/Exception"] = true := by decide +kernel
set_option maxRecDepth 20000 in
theorem kt_200 : k_okT 2 77 200 81 "java/lang/IndexOutOfBoundsException" "no such reach" ["java/lang/RuntimeException", "java/lang/Exception"] = true := by decide +kernel
set_option maxRecDepth 20000 in
theorem kt_206 : k_okT 2 195 206 199 "java/lang/UnsupportedOperationException" "no room for one more" ["java/lang/RuntimeException", "java/lang/Exception"] = true := by decide +kernel
end
section
/-- a whole row put in another's place -/
def rowA (a : Nat → Nat → Nat) (k : Nat) (g : Nat → Nat) : Nat → Nat → Nat := fun i => if i = k then g else a i
theorem up2_row (a : Nat → Nat → Nat) (k j v : Nat) (g : Nat → Nat) : up2 (rowA a k g) k j v = rowA a k (up1 g j v) := by
  funext i
  unfold up2 rowA
  split
  · next h => subst h; simp
  · rfl
theorem rowA_self (a : Nat → Nat → Nat) (k : Nat) : rowA a k (a k) = a := by
  funext i
  unfold rowA
  split
  · next h => subst h; rfl
  · rfl
abbrev nearI (x1 y1 x2 y2 r : Nat) : Prop := (nI x1 - nI x2) * (nI x1 - nI x2) + (nI y1 - nI y2) * (nI y1 - nI y2) ≤ nI r * nI r
/-- an argument is one of 0 .. n - 1 -/
abbrev inR (x : Int32) (n : Nat) : Prop := ¬ x < 0 ∧ x < nI n
theorem inR_of {x : Int32} {n : Nat} (hn : n < 2 ^ 31) (h : inR x n) : ∃ j, j < n ∧ x = nI j := by
  obtain ⟨j, hj, e⟩ := nI_of h.1
  refine ⟨j, ?_, e⟩
  have h2 := h.2
  rw [e] at h2
  exact (nI_ltI hj hn).mp h2
theorem inR_nI {j n : Nat} (hj : j < n) (hn : n < 2 ^ 31) : inR (nI j) n := ⟨nI_pos (by omega), nI_lt hj hn⟩
section ST
variable {f : Nat → Nat} {a : Nat → Nat → Nat} {G : Nat → Int32} {B : Nat → Nat → Int32} {o : Nat → Int64}
theorem m1_isFullU (hf : f 2 < 10000) : k_Met Y1_isFull [.ref 1] (hX f a G B o) (.inl (some (.int (bI (20 ≤ f 2)))), hX f a G B o, 0, 0) := by
  refine k_intro (by decide +kernel) rfl rfl rfl ?_
  refine k_go 99 [] T1_isFull_ok (fun K hK => ?_)
  refine b_lt (a := f 2) (b := 20) (by omega) (by omega) (fun h => ?_) (fun h => ?_)
  · refine hK _ ?_
    exact k_ireturn d1_isFull_16 rfl rfl (k_rb (bI_f (by omega)).symm) rfl (Nat.le_refl _) (Nat.le_refl _)
  · refine hK _ ?_
    exact k_ireturn d1_isFull_16 rfl rfl (k_rb (bI_t h).symm) rfl (Nat.le_refl _) (Nat.le_refl _)
def mvU (a : Nat → Nat → Nat) (s x y c : Nat) : Nat → Nat → Nat := up2 (up2 (up2 a 0 s x) 1 s y) 3 s c
theorem m1_moveU {s x y c : Nat} (hs : s < 20) : k_Met Y1_move [.ref 1, .int (nI s), .int (nI x), .int (nI y), .int (nI c)] (hX f a G B o) (.inl none, hX f (mvU a s x y c) G B o, 0, 0) := by
  refine k_intro (by decide +kernel) rfl rfl rfl ?_
  refine k_go 99 [] T1_move_ok (fun K hK => ?_)
  refine k_at hs ?_
  refine k_at hs ?_
  refine k_at hs ?_
  refine hK _ ?_
  exact k_return d1_move_22 rfl rfl (hX_eq rfl (cA_up' (cA_up' (cA_up' (a := a) rfl rfl) rfl) rfl)).symm (Nat.le_refl _) (Nat.le_refl _)
theorem m1_addU {x y r c : Nat} (hs : f 2 < 20) : k_Met Y1_add [.ref 1, .int (nI x), .int (nI y), .int (nI r), .int (nI c)] (hX f a G B o) (.inl (some (.int (nI (f 2)))), hX (up1 f 2 (f 2 + 1)) (mvU (up2 a 2 (f 2) r) (f 2) x y c) G B o, 0, 0) := by
  refine k_intro (by decide +kernel) rfl rfl rfl ?_
  refine k_go 99 [] T1_add_ok (fun K hK => ?_)
  refine k_eq (z := nI (f 2 + 1)) (nI_add _ 1) ?_
  refine k_at hs ?_
  refine hK _ ?_
  refine k_heq (hX_eq (cF_up' (f := f) (k := 2) rfl) (cA_up' (a := a) (k := 2) rfl rfl)) ?_
  refine k_callV (Y' := Y1_move) (as := [.int (nI (f 2)), .int (nI x), .int (nI y), .int (nI c)]) (st := []) (m1_moveU hs) rfl c1_29 rfl rfl rfl d1_add_31 (Nat.le_refl _) (Nat.le_refl _) rfl rfl ?_
  refine k_go 99 [] T1_add_ok (fun K hK => ?_)
  refine hK _ ?_
  exact k_ireturn d1_add_36 rfl rfl rfl rfl (Nat.le_refl _) (Nat.le_refl _)
theorem m1_isFullR (hf : f 3 < 10000) : k_Met Y1_isFull [.ref 6] (hX f a G B o) (.inl (some (.int (bI (8 ≤ f 3)))), hX f a G B o, 0, 0) := by
  refine k_intro (by decide +kernel) rfl rfl rfl ?_
  refine k_go 99 [] T1_isFull_ok (fun K hK => ?_)
  refine b_lt (a := f 3) (b := 8) (by omega) (by omega) (fun h => ?_) (fun h => ?_)
  · refine hK _ ?_
    exact k_ireturn d1_isFull_16 rfl rfl (k_rb (bI_f (by omega)).symm) rfl (Nat.le_refl _) (Nat.le_refl _)
  · refine hK _ ?_
    exact k_ireturn d1_isFull_16 rfl rfl (k_rb (bI_t h).symm) rfl (Nat.le_refl _) (Nat.le_refl _)
def mvR (a : Nat → Nat → Nat) (s x y c : Nat) : Nat → Nat → Nat := up2 (up2 (up2 a 4 s x) 5 s y) 7 s c
theorem m1_moveR {s x y c : Nat} (hs : s < 8) : k_Met Y1_move [.ref 6, .int (nI s), .int (nI x), .int (nI y), .int (nI c)] (hX f a G B o) (.inl none, hX f (mvR a s x y c) G B o, 0, 0) := by
  refine k_intro (by decide +kernel) rfl rfl rfl ?_
  refine k_go 99 [] T1_move_ok (fun K hK => ?_)
  refine k_at hs ?_
  refine k_at hs ?_
  refine k_at hs ?_
  refine hK _ ?_
  exact k_return d1_move_22 rfl rfl (hX_eq rfl (cA_up' (cA_up' (cA_up' (a := a) rfl rfl) rfl) rfl)).symm (Nat.le_refl _) (Nat.le_refl _)
theorem m1_addR {x y r c : Nat} (hs : f 3 < 8) : k_Met Y1_add [.ref 6, .int (nI x), .int (nI y), .int (nI r), .int (nI c)] (hX f a G B o) (.inl (some (.int (nI (f 3)))), hX (up1 f 3 (f 3 + 1)) (mvR (up2 a 6 (f 3) r) (f 3) x y c) G B o, 0, 0) := by
  refine k_intro (by decide +kernel) rfl rfl rfl ?_
  refine k_go 99 [] T1_add_ok (fun K hK => ?_)
  refine k_eq (z := nI (f 3 + 1)) (nI_add _ 1) ?_
  refine k_at hs ?_
  refine hK _ ?_
  refine k_heq (hX_eq (cF_up' (f := f) (k := 3) rfl) (cA_up' (a := a) (k := 6) rfl rfl)) ?_
  refine k_callV (Y' := Y1_move) (as := [.int (nI (f 3)), .int (nI x), .int (nI y), .int (nI c)]) (st := []) (m1_moveR hs) rfl c1_29 rfl rfl rfl d1_add_31 (Nat.le_refl _) (Nat.le_refl _) rfl rfl ?_
  refine k_go 99 [] T1_add_ok (fun K hK => ?_)
  refine hK _ ?_
  exact k_ireturn d1_add_36 rfl rfl rfl rfl (Nat.le_refl _) (Nat.le_refl _)
theorem m1_reachesUU {s t : Nat} (hs : s < 20) (ht : t < 20) : k_Met Y1_reaches [.ref 1, .int (nI s), .ref 1, .int (nI t)] (hX f a G B o) (.inl (some (.int (bI (nearI (a 0 s) (a 1 s) (a 0 t) (a 1 t) (a 2 s))))), hX f a G B o, 0, 0) := by
  refine k_intro (by decide +kernel) rfl rfl rfl ?_
  refine k_go 99 [] T1_reaches_ok (fun K hK => ?_)
  refine k_at hs ?_
  refine k_at ht ?_
  refine k_eq rfl ?_
  refine k_at hs ?_
  refine k_at ht ?_
  refine k_eq rfl ?_
  refine k_eq rfl ?_
  refine k_eq rfl ?_
  refine k_eq rfl ?_
  refine k_at hs ?_
  refine k_at hs ?_
  refine k_eq rfl ?_
  refine And.intro (fun h => ?_) (fun h => ?_)
  · refine hK _ ?_
    exact k_ireturn d1_reaches_62 rfl rfl (k_rb (bI_f (Int32.not_le.mpr h)).symm) rfl (Nat.le_refl _) (Nat.le_refl _)
  · refine hK _ ?_
    exact k_ireturn d1_reaches_62 rfl rfl (k_rb (bI_t (Int32.not_lt.mp h)).symm) rfl (Nat.le_refl _) (Nat.le_refl _)
theorem m1_reachesUR {s t : Nat} (hs : s < 20) (ht : t < 8) : k_Met Y1_reaches [.ref 1, .int (nI s), .ref 6, .int (nI t)] (hX f a G B o) (.inl (some (.int (bI (nearI (a 0 s) (a 1 s) (a 4 t) (a 5 t) (a 2 s))))), hX f a G B o, 0, 0) := by
  refine k_intro (by decide +kernel) rfl rfl rfl ?_
  refine k_go 99 [] T1_reaches_ok (fun K hK => ?_)
  refine k_at hs ?_
  refine k_at ht ?_
  refine k_eq rfl ?_
  refine k_at hs ?_
  refine k_at ht ?_
  refine k_eq rfl ?_
  refine k_eq rfl ?_
  refine k_eq rfl ?_
  refine k_eq rfl ?_
  refine k_at hs ?_
  refine k_at hs ?_
  refine k_eq rfl ?_
  refine And.intro (fun h => ?_) (fun h => ?_)
  · refine hK _ ?_
    exact k_ireturn d1_reaches_62 rfl rfl (k_rb (bI_f (Int32.not_le.mpr h)).symm) rfl (Nat.le_refl _) (Nat.le_refl _)
  · refine hK _ ?_
    exact k_ireturn d1_reaches_62 rfl rfl (k_rb (bI_t (Int32.not_lt.mp h)).symm) rfl (Nat.le_refl _) (Nat.le_refl _)
theorem m1_reachesRU {s t : Nat} (hs : s < 8) (ht : t < 20) : k_Met Y1_reaches [.ref 6, .int (nI s), .ref 1, .int (nI t)] (hX f a G B o) (.inl (some (.int (bI (nearI (a 4 s) (a 5 s) (a 0 t) (a 1 t) (a 6 s))))), hX f a G B o, 0, 0) := by
  refine k_intro (by decide +kernel) rfl rfl rfl ?_
  refine k_go 99 [] T1_reaches_ok (fun K hK => ?_)
  refine k_at hs ?_
  refine k_at ht ?_
  refine k_eq rfl ?_
  refine k_at hs ?_
  refine k_at ht ?_
  refine k_eq rfl ?_
  refine k_eq rfl ?_
  refine k_eq rfl ?_
  refine k_eq rfl ?_
  refine k_at hs ?_
  refine k_at hs ?_
  refine k_eq rfl ?_
  refine And.intro (fun h => ?_) (fun h => ?_)
  · refine hK _ ?_
    exact k_ireturn d1_reaches_62 rfl rfl (k_rb (bI_f (Int32.not_le.mpr h)).symm) rfl (Nat.le_refl _) (Nat.le_refl _)
  · refine hK _ ?_
    exact k_ireturn d1_reaches_62 rfl rfl (k_rb (bI_t (Int32.not_lt.mp h)).symm) rfl (Nat.le_refl _) (Nat.le_refl _)
theorem m2_isChannel {x : Int32} : k_Met Y2_isChannel [.ref 0, .int x] (hX f a G B o) (.inl (some (.int (bI (inR x 6)))), hX f a G B o, 0, 0) := by
  refine k_intro (by decide +kernel) rfl rfl rfl ?_
  refine k_go 99 [] T2_isChannel_ok (fun K hK => ?_)
  refine And.intro (fun h => ?_) (fun h => ?_)
  · refine hK _ ?_
    exact k_ireturn d2_isChannel_15 rfl rfl (k_rb (bI_f (fun q => q.1 h)).symm) rfl (Nat.le_refl _) (Nat.le_refl _)
  · refine And.intro (fun h2 => ?_) (fun h2 => ?_)
    · refine hK _ ?_
      exact k_ireturn d2_isChannel_15 rfl rfl (k_rb (bI_f (fun q => absurd q.2 (Int32.not_lt.mpr h2))).symm) rfl (Nat.le_refl _) (Nat.le_refl _)
    · refine hK _ ?_
      exact k_ireturn d2_isChannel_15 rfl rfl (k_rb (bI_t ⟨h, Int32.not_le.mp h2⟩).symm) rfl (Nat.le_refl _) (Nat.le_refl _)
theorem m2_isSlot {x : Int32} : k_Met Y2_isSlot [.ref 0, .int x] (hX f a G B o) (.inl (some (.int (bI (inR x (f 0))))), hX f a G B o, 0, 0) := by
  refine k_intro (by decide +kernel) rfl rfl rfl ?_
  refine k_go 99 [] T2_isSlot_ok (fun K hK => ?_)
  refine And.intro (fun h => ?_) (fun h => ?_)
  · refine hK _ ?_
    exact k_ireturn d2_isSlot_17 rfl rfl (k_rb (bI_f (fun q => q.1 h)).symm) rfl (Nat.le_refl _) (Nat.le_refl _)
  · refine And.intro (fun h2 => ?_) (fun h2 => ?_)
    · refine hK _ ?_
      exact k_ireturn d2_isSlot_17 rfl rfl (k_rb (bI_f (fun q => absurd q.2 (Int32.not_lt.mpr h2))).symm) rfl (Nat.le_refl _) (Nat.le_refl _)
    · refine hK _ ?_
      exact k_ireturn d2_isSlot_17 rfl rfl (k_rb (bI_t ⟨h, Int32.not_le.mp h2⟩).symm) rfl (Nat.le_refl _) (Nat.le_refl _)
theorem m2_areJoined (hB : Bd a) {x y : Nat} (hx : x < 6) (hy : y < 6) : k_Met Y2_areJoined [.ref 0, .int (nI x), .int (nI y)] (hX f a G B o) (.inl (some (.int (bI (a 18 x = a 18 y)))), hX f a G B o, 0, 0) := by
  have h1 := hB 18 x (by omega)
  have h2 := hB 18 y (by omega)
  refine k_intro (by decide +kernel) rfl rfl rfl ?_
  refine k_go 99 [] T2_areJoined_ok (fun K hK => ?_)
  refine k_at hx ?_
  refine k_at hy ?_
  refine b_ne (a := a 18 x) (b := a 18 y) (by omega) (by omega) (fun h => ?_) (fun h => ?_)
  · refine hK _ ?_
    exact k_ireturn d2_areJoined_20 rfl rfl (k_rb (bI_f h).symm) rfl (Nat.le_refl _) (Nat.le_refl _)
  · refine hK _ ?_
    exact k_ireturn d2_areJoined_20 rfl rfl (k_rb (bI_t h).symm) rfl (Nat.le_refl _) (Nat.le_refl _)
/-- the groups as they are when the first n of them have been looked at -/
def jnR (g : Nat → Nat) (kept given n : Nat) : Nat → Nat := fun c => if c < n ∧ g c = given then kept else g c
theorem jnR_0 (g : Nat → Nat) (kept given : Nat) : jnR g kept given 0 = g := by
  funext c; unfold jnR; rw [if_neg (by omega)]
theorem jnR_eq {g : Nat → Nat} {kept given n : Nat} (h : g n = given) : up1 (jnR g kept given n) n kept = jnR g kept given (n + 1) := by
  funext c
  unfold up1 jnR
  by_cases h1 : c = n
  · subst h1; rw [if_pos rfl, if_pos ⟨by omega, h⟩]
  · rw [if_neg h1]
    by_cases h2 : c < n ∧ g c = given
    · rw [if_pos h2, if_pos ⟨by omega, h2.2⟩]
    · rw [if_neg h2, if_neg (fun q => h2 ⟨by omega, q.2⟩)]
theorem jnR_ne {g : Nat → Nat} {kept given n : Nat} (h : g n ≠ given) : jnR g kept given n = jnR g kept given (n + 1) := by
  funext c
  unfold jnR
  by_cases h1 : c = n
  · subst h1; rw [if_neg (by omega), if_neg (fun q => h q.2)]
  · by_cases h2 : c < n ∧ g c = given
    · rw [if_pos h2, if_pos ⟨by omega, h2.2⟩]
    · rw [if_neg h2, if_neg (fun q => h2 ⟨by omega, q.2⟩)]
theorem m2_joinGroups_loop (hB : Bd a) {x y : Nat} (hx : x < 10000) (hy : y < 10000) : ∀ (n i : Nat), 6 - i < n → i ≤ 6 →
    k_W Y2_joinGroups none (.inl none, hX f (rowA a 18 (jnR (a 18) x y 6)) G B o, 0, 0) (2, [(3, .int (nI i)), (0, .ref 0), (1, .int (nI x)), (2, .int (nI y))], [], hX f (rowA a 18 (jnR (a 18) x y i)) G B o, 0, 0) := by
  intro n
  induction n with
  | zero => intro i h; omega
  | succ n ih =>
    intro i hn hi
    refine k_go 99 [2] T2_joinGroups_ok (fun K hK => ?_)
    refine b_ge (a := i) (b := 6) (by omega) (by omega) (fun h => ?_) (fun h => ?_)
    · have e : i = 6 := by omega
      subst e
      refine hK _ ?_
      exact k_return d2_joinGroups_31 rfl rfl rfl (Nat.le_refl _) (Nat.le_refl _)
    · refine k_at (j := i) (by omega) ?_
      have h1 := hB 18 i (by omega)
      have e1 : jnR (a 18) x y i i = a 18 i := by unfold jnR; rw [if_neg (by omega)]
      refine b_ne (a := jnR (a 18) x y i i) (b := y) (by rw [e1]; omega) (by omega) (fun h2 => ?_) (fun h2 => ?_)
      · rw [e1] at h2
        refine k_eq (z := nI (i + 1)) (nI_add i 1) ?_
        refine hK _ ?_
        have e2 := jnR_ne (kept := x) h2
        have := ih (i + 1) (by omega) (by omega)
        rw [← e2] at this
        exact this
      · rw [e1] at h2
        refine k_at (j := i) (by omega) ?_
        refine k_eq (z := nI (i + 1)) (nI_add i 1) ?_
        refine hK _ ?_
        refine k_heq (hX_eq rfl ((cA_up (rowA a 18 (jnR (a 18) x y i)) 18 i x).trans (congrArg cA ((up2_row a 18 i x _).trans (congrArg (rowA a 18) (jnR_eq h2)))))) ?_
        exact ih (i + 1) (by omega) (by omega)
theorem m2_joinGroups (hB : Bd a) {x y : Nat} (hx : x < 10000) (hy : y < 10000) : k_Met Y2_joinGroups [.ref 0, .int (nI x), .int (nI y)] (hX f a G B o) (.inl none, hX f (rowA a 18 (jnR (a 18) x y 6)) G B o, 0, 0) := by
  refine k_intro (by decide +kernel) rfl rfl rfl ?_
  refine k_go 99 [2] T2_joinGroups_ok (fun K hK => ?_)
  refine hK _ ?_
  have := m2_joinGroups_loop (f := f) (G := G) (B := B) (o := o) hB hx hy 7 0 (by omega) (by omega)
  rw [jnR_0, rowA_self] at this
  exact this
end ST
end
section
theorem lt_suc {x : Int32} {n : Nat} (hn : n + 1 < 2 ^ 31) : ¬ nI n < x ↔ x < nI (n + 1) := by
  rw [Int32.lt_iff_toInt_lt, Int32.lt_iff_toInt_lt, nI_toInt (by omega), nI_toInt hn]
  omega
theorem le_suc {x : Int32} {n : Nat} (hn : n + 1 < 2 ^ 31) : x ≤ nI n ↔ x < nI (n + 1) := by
  rw [← lt_suc hn]; exact Int32.not_lt.symm
section ND
variable {f : Nat → Nat} {a : Nat → Nat → Nat} {G : Nat → Int32} {B : Nat → Nat → Int32} {o : Nat → Int64} {x y z : Int32}
theorem m2_needUnit_ok (h : inR x (f 2)) : k_Met Y2_needUnit [.ref 0, .int x] (hX f a G B o) (.inl none, hX f a G B o, 0, 0) := by
  refine k_intro (by decide +kernel) rfl rfl rfl ?_
  refine k_go 99 [] T2_needUnit_ok (fun K hK => ?_)
  refine And.intro (fun q => absurd q h.1) (fun _ => ?_)
  refine And.intro (fun _ => ?_) (fun q => absurd h.2 q)
  refine hK _ ?_
  exact k_return d2_needUnit_25 rfl rfl rfl (Nat.le_of_ble_eq_true rfl) (Nat.le_of_ble_eq_true rfl)
theorem m2_needUnit_bad (h : ¬ inR x (f 2)) : k_Met Y2_needUnit [.ref 0, .int x] (hX f a G B o) (.inr "java/lang/IllegalArgumentException", hX f a G B o, 1, 6) := by
  refine k_intro (by decide +kernel) rfl rfl rfl ?_
  refine k_go 99 [] T2_needUnit_ok (fun K hK => ?_)
  refine And.intro (fun _ => ?_) (fun q => ?_)
  · refine hK _ ?_
    exact k_throw (E := "java/lang/IllegalArgumentException") (st := []) rfl kt_168 rfl d2_needUnit_15 d2_needUnit_18 d2_needUnit_19 d2_needUnit_21 d2_needUnit_24 (by decide) (Nat.le_of_ble_eq_true rfl) rfl rfl (Nat.le_of_ble_eq_true rfl) (Nat.le_of_ble_eq_true rfl)
  · refine And.intro (fun q2 => absurd ⟨q, q2⟩ h) (fun _ => ?_)
    refine hK _ ?_
    exact k_throw (E := "java/lang/IllegalArgumentException") (st := []) rfl kt_168 rfl d2_needUnit_15 d2_needUnit_18 d2_needUnit_19 d2_needUnit_21 d2_needUnit_24 (by decide) (Nat.le_of_ble_eq_true rfl) rfl rfl (Nat.le_of_ble_eq_true rfl) (Nat.le_of_ble_eq_true rfl)
theorem m2_needMessage_ok (h : inR x (f 4)) : k_Met Y2_needMessage [.ref 0, .int x] (hX f a G B o) (.inl none, hX f a G B o, 0, 0) := by
  refine k_intro (by decide +kernel) rfl rfl rfl ?_
  refine k_go 99 [] T2_needMessage_ok (fun K hK => ?_)
  refine And.intro (fun q => absurd q h.1) (fun _ => ?_)
  refine And.intro (fun _ => ?_) (fun q => absurd h.2 q)
  refine hK _ ?_
  exact k_return d2_needMessage_25 rfl rfl rfl (Nat.le_of_ble_eq_true rfl) (Nat.le_of_ble_eq_true rfl)
theorem m2_needMessage_bad (h : ¬ inR x (f 4)) : k_Met Y2_needMessage [.ref 0, .int x] (hX f a G B o) (.inr "java/lang/IllegalArgumentException", hX f a G B o, 1, 6) := by
  refine k_intro (by decide +kernel) rfl rfl rfl ?_
  refine k_go 99 [] T2_needMessage_ok (fun K hK => ?_)
  refine And.intro (fun _ => ?_) (fun q => ?_)
  · refine hK _ ?_
    exact k_throw (E := "java/lang/IllegalArgumentException") (st := []) rfl kt_170 rfl d2_needMessage_15 d2_needMessage_18 d2_needMessage_19 d2_needMessage_21 d2_needMessage_24 (by decide) (Nat.le_of_ble_eq_true rfl) rfl rfl (Nat.le_of_ble_eq_true rfl) (Nat.le_of_ble_eq_true rfl)
  · refine And.intro (fun q2 => absurd ⟨q, q2⟩ h) (fun _ => ?_)
    refine hK _ ?_
    exact k_throw (E := "java/lang/IllegalArgumentException") (st := []) rfl kt_170 rfl d2_needMessage_15 d2_needMessage_18 d2_needMessage_19 d2_needMessage_21 d2_needMessage_24 (by decide) (Nat.le_of_ble_eq_true rfl) rfl rfl (Nat.le_of_ble_eq_true rfl) (Nat.le_of_ble_eq_true rfl)
theorem m2_needChannel_ok (h : inR x 6) : k_Met Y2_needChannel [.ref 0, .int x] (hX f a G B o) (.inl none, hX f a G B o, 0, 0) := by
  refine k_intro (by decide +kernel) rfl rfl rfl ?_
  refine k_go 99 [] T2_needChannel_ok (fun K hK => ?_)
  refine hK _ ?_
  refine k_callV (Y' := Y2_isChannel) (as := [.int x]) (st := []) (m2_isChannel) rfl c2_73 rfl rfl rfl d2_needChannel_2 (Nat.le_of_ble_eq_true rfl) (Nat.le_of_ble_eq_true rfl) rfl rfl ?_
  refine k_go 99 [] T2_needChannel_ok (fun K hK => ?_)
  refine p_ne (fun _ => ?_) (fun q => absurd h q)
  refine hK _ ?_
  exact k_return d2_needChannel_18 rfl rfl rfl (Nat.le_of_ble_eq_true rfl) (Nat.le_of_ble_eq_true rfl)
theorem m2_needChannel_bad (h : ¬ (inR x 6)) : k_Met Y2_needChannel [.ref 0, .int x] (hX f a G B o) (.inr "java/lang/IllegalArgumentException", hX f a G B o, 1, 6) := by
  refine k_intro (by decide +kernel) rfl rfl rfl ?_
  refine k_go 99 [] T2_needChannel_ok (fun K hK => ?_)
  refine hK _ ?_
  refine k_callV (Y' := Y2_isChannel) (as := [.int x]) (st := []) (m2_isChannel) rfl c2_73 rfl rfl rfl d2_needChannel_2 (Nat.le_of_ble_eq_true rfl) (Nat.le_of_ble_eq_true rfl) rfl rfl ?_
  refine k_go 99 [] T2_needChannel_ok (fun K hK => ?_)
  refine p_ne (fun q => absurd q h) (fun _ => ?_)
  refine hK _ ?_
  exact k_throw (E := "java/lang/IllegalArgumentException") (st := []) rfl kt_172 rfl d2_needChannel_8 d2_needChannel_11 d2_needChannel_12 d2_needChannel_14 d2_needChannel_17 (by decide) (Nat.le_of_ble_eq_true rfl) rfl rfl (Nat.le_of_ble_eq_true rfl) (Nat.le_of_ble_eq_true rfl)
theorem m2_needSlot_ok (h : inR x (f 0)) : k_Met Y2_needSlot [.ref 0, .int x] (hX f a G B o) (.inl none, hX f a G B o, 0, 0) := by
  refine k_intro (by decide +kernel) rfl rfl rfl ?_
  refine k_go 99 [] T2_needSlot_ok (fun K hK => ?_)
  refine hK _ ?_
  refine k_callV (Y' := Y2_isSlot) (as := [.int x]) (st := []) (m2_isSlot) rfl c2_174 rfl rfl rfl d2_needSlot_2 (Nat.le_of_ble_eq_true rfl) (Nat.le_of_ble_eq_true rfl) rfl rfl ?_
  refine k_go 99 [] T2_needSlot_ok (fun K hK => ?_)
  refine p_ne (fun _ => ?_) (fun q => absurd h q)
  refine hK _ ?_
  exact k_return d2_needSlot_18 rfl rfl rfl (Nat.le_of_ble_eq_true rfl) (Nat.le_of_ble_eq_true rfl)
theorem m2_needSlot_bad (h : ¬ (inR x (f 0))) : k_Met Y2_needSlot [.ref 0, .int x] (hX f a G B o) (.inr "java/lang/ArrayIndexOutOfBoundsException", hX f a G B o, 1, 6) := by
  refine k_intro (by decide +kernel) rfl rfl rfl ?_
  refine k_go 99 [] T2_needSlot_ok (fun K hK => ?_)
  refine hK _ ?_
  refine k_callV (Y' := Y2_isSlot) (as := [.int x]) (st := []) (m2_isSlot) rfl c2_174 rfl rfl rfl d2_needSlot_2 (Nat.le_of_ble_eq_true rfl) (Nat.le_of_ble_eq_true rfl) rfl rfl ?_
  refine k_go 99 [] T2_needSlot_ok (fun K hK => ?_)
  refine p_ne (fun q => absurd q h) (fun _ => ?_)
  refine hK _ ?_
  exact k_throw (E := "java/lang/ArrayIndexOutOfBoundsException") (st := []) rfl kt_179 rfl d2_needSlot_8 d2_needSlot_11 d2_needSlot_12 d2_needSlot_14 d2_needSlot_17 (by decide) (Nat.le_of_ble_eq_true rfl) rfl rfl (Nat.le_of_ble_eq_true rfl) (Nat.le_of_ble_eq_true rfl)
theorem m2_needPlace_ok (h1 : inR x 10000) (h2 : inR y 10000) (h3 : inR z 6) : k_Met Y2_needPlace [.ref 0, .int x, .int y, .int z] (hX f a G B o) (.inl none, hX f a G B o, 0, 0) := by
  refine k_intro (by decide +kernel) rfl rfl rfl ?_
  refine k_go 99 [] T2_needPlace_ok (fun K hK => ?_)
  refine And.intro (fun q => absurd q h1.1) (fun _ => ?_)
  refine And.intro (fun q => absurd q ((lt_suc (n := 9999) (by omega)).mpr h1.2)) (fun _ => ?_)
  refine And.intro (fun q => absurd q h2.1) (fun _ => ?_)
  refine And.intro (fun _ => ?_) (fun q => absurd ((le_suc (n := 9999) (by omega)).mpr h2.2) q)
  refine hK _ ?_
  refine k_callV (Y' := Y2_isChannel) (as := [.int z]) (st := []) (m2_isChannel) rfl c2_73 rfl rfl rfl d2_needPlace_34 (Nat.le_of_ble_eq_true rfl) (Nat.le_of_ble_eq_true rfl) rfl rfl ?_
  refine k_go 99 [] T2_needPlace_ok (fun K hK => ?_)
  refine p_ne (fun _ => ?_) (fun q => absurd h3 q)
  refine hK _ ?_
  exact k_return d2_needPlace_50 rfl rfl rfl (Nat.le_of_ble_eq_true rfl) (Nat.le_of_ble_eq_true rfl)
theorem m2_needPlace_bad (h : ¬ (inR x 10000 ∧ inR y 10000 ∧ inR z 6)) : k_Met Y2_needPlace [.ref 0, .int x, .int y, .int z] (hX f a G B o) (.inr "java/lang/IndexOutOfBoundsException", hX f a G B o, 1, 6) := by
  refine k_intro (by decide +kernel) rfl rfl rfl ?_
  refine k_go 99 [] T2_needPlace_ok (fun K hK => ?_)
  refine And.intro (fun _ => ?_) (fun q1 => ?_)
  · refine hK _ ?_
    exact k_throw (E := "java/lang/IndexOutOfBoundsException") (st := []) rfl kt_182 rfl d2_needPlace_22 d2_needPlace_25 d2_needPlace_26 d2_needPlace_28 d2_needPlace_31 (by decide) (Nat.le_of_ble_eq_true rfl) rfl rfl (Nat.le_of_ble_eq_true rfl) (Nat.le_of_ble_eq_true rfl)
  · refine And.intro (fun _ => ?_) (fun q2 => ?_)
    · refine hK _ ?_
      exact k_throw (E := "java/lang/IndexOutOfBoundsException") (st := []) rfl kt_182 rfl d2_needPlace_22 d2_needPlace_25 d2_needPlace_26 d2_needPlace_28 d2_needPlace_31 (by decide) (Nat.le_of_ble_eq_true rfl) rfl rfl (Nat.le_of_ble_eq_true rfl) (Nat.le_of_ble_eq_true rfl)
    · refine And.intro (fun _ => ?_) (fun q3 => ?_)
      · refine hK _ ?_
        exact k_throw (E := "java/lang/IndexOutOfBoundsException") (st := []) rfl kt_182 rfl d2_needPlace_22 d2_needPlace_25 d2_needPlace_26 d2_needPlace_28 d2_needPlace_31 (by decide) (Nat.le_of_ble_eq_true rfl) rfl rfl (Nat.le_of_ble_eq_true rfl) (Nat.le_of_ble_eq_true rfl)
      · refine And.intro (fun q4 => ?_) (fun _ => ?_)
        · refine hK _ ?_
          refine k_callV (Y' := Y2_isChannel) (as := [.int z]) (st := []) (m2_isChannel) rfl c2_73 rfl rfl rfl d2_needPlace_34 (Nat.le_of_ble_eq_true rfl) (Nat.le_of_ble_eq_true rfl) rfl rfl ?_
          refine k_go 99 [] T2_needPlace_ok (fun K hK => ?_)
          refine p_ne (fun q5 => absurd ⟨⟨q1, (lt_suc (n := 9999) (by omega)).mp q2⟩, ⟨q3, (le_suc (n := 9999) (by omega)).mp q4⟩, q5⟩ h) (fun _ => ?_)
          refine hK _ ?_
          exact k_throw (E := "java/lang/IndexOutOfBoundsException") (st := []) rfl kt_184 rfl d2_needPlace_40 d2_needPlace_43 d2_needPlace_44 d2_needPlace_46 d2_needPlace_49 (by decide) (Nat.le_of_ble_eq_true rfl) rfl rfl (Nat.le_of_ble_eq_true rfl) (Nat.le_of_ble_eq_true rfl)
        · refine hK _ ?_
          exact k_throw (E := "java/lang/IndexOutOfBoundsException") (st := []) rfl kt_182 rfl d2_needPlace_22 d2_needPlace_25 d2_needPlace_26 d2_needPlace_28 d2_needPlace_31 (by decide) (Nat.le_of_ble_eq_true rfl) rfl rfl (Nat.le_of_ble_eq_true rfl) (Nat.le_of_ble_eq_true rfl)
theorem m2_needBegin_ok (h1 : inR x (f 0)) (h2 : inR y 10) : k_Met Y2_needBegin [.ref 0, .int x, .int y] (hX f a G B o) (.inl none, hX f a G B o, 0, 0) := by
  refine k_intro (by decide +kernel) rfl rfl rfl ?_
  refine k_go 99 [] T2_needBegin_ok (fun K hK => ?_)
  refine hK _ ?_
  refine k_callV (Y' := Y2_isSlot) (as := [.int x]) (st := []) (m2_isSlot) rfl c2_174 rfl rfl rfl d2_needBegin_2 (Nat.le_of_ble_eq_true rfl) (Nat.le_of_ble_eq_true rfl) rfl rfl ?_
  refine k_go 99 [] T2_needBegin_ok (fun K hK => ?_)
  refine p_ne (fun _ => ?_) (fun q => absurd h1 q)
  refine And.intro (fun q => absurd q h2.1) (fun _ => ?_)
  refine And.intro (fun _ => ?_) (fun q => absurd ((le_suc (n := 9) (by omega)).mpr h2.2) q)
  refine hK _ ?_
  exact k_return d2_needBegin_38 rfl rfl rfl (Nat.le_of_ble_eq_true rfl) (Nat.le_of_ble_eq_true rfl)
theorem m2_needBegin_bad (h : ¬ (inR x (f 0) ∧ inR y 10)) : k_Met Y2_needBegin [.ref 0, .int x, .int y] (hX f a G B o) (.inr "java/lang/IndexOutOfBoundsException", hX f a G B o, 1, 6) := by
  refine k_intro (by decide +kernel) rfl rfl rfl ?_
  refine k_go 99 [] T2_needBegin_ok (fun K hK => ?_)
  refine hK _ ?_
  refine k_callV (Y' := Y2_isSlot) (as := [.int x]) (st := []) (m2_isSlot) rfl c2_174 rfl rfl rfl d2_needBegin_2 (Nat.le_of_ble_eq_true rfl) (Nat.le_of_ble_eq_true rfl) rfl rfl ?_
  refine k_go 99 [] T2_needBegin_ok (fun K hK => ?_)
  refine p_ne (fun q1 => ?_) (fun _ => ?_)
  · refine And.intro (fun _ => ?_) (fun q2 => ?_)
    · refine hK _ ?_
      exact k_throw (E := "java/lang/IndexOutOfBoundsException") (st := []) rfl kt_188 rfl d2_needBegin_28 d2_needBegin_31 d2_needBegin_32 d2_needBegin_34 d2_needBegin_37 (by decide) (Nat.le_of_ble_eq_true rfl) rfl rfl (Nat.le_of_ble_eq_true rfl) (Nat.le_of_ble_eq_true rfl)
    · refine And.intro (fun q3 => absurd ⟨q1, q2, (le_suc (n := 9) (by omega)).mp q3⟩ h) (fun _ => ?_)
      refine hK _ ?_
      exact k_throw (E := "java/lang/IndexOutOfBoundsException") (st := []) rfl kt_188 rfl d2_needBegin_28 d2_needBegin_31 d2_needBegin_32 d2_needBegin_34 d2_needBegin_37 (by decide) (Nat.le_of_ble_eq_true rfl) rfl rfl (Nat.le_of_ble_eq_true rfl) (Nat.le_of_ble_eq_true rfl)
  · refine hK _ ?_
    exact k_throw (E := "java/lang/IndexOutOfBoundsException") (st := []) rfl kt_186 rfl d2_needBegin_8 d2_needBegin_11 d2_needBegin_12 d2_needBegin_14 d2_needBegin_17 (by decide) (Nat.le_of_ble_eq_true rfl) rfl rfl (Nat.le_of_ble_eq_true rfl) (Nat.le_of_ble_eq_true rfl)
theorem m2_needFreeBegin_ok (hB : Bd a) (h4 : f 4 ≤ 60) {u s : Nat} (hu : u < 10000) (hs : s < 10000) (h : ¬ hasB f a u s) : k_Met Y2_needFreeBegin [.ref 0, .int (nI u), .int (nI s)] (hX f a G B o) (.inl none, hX f a G B o, 0, 0) := by
  have dd : Decidable (hasB f a u s) := .isFalse h
  refine k_intro (by decide +kernel) rfl rfl rfl ?_
  refine k_go 99 [] T2_needFreeBegin_ok (fun K hK => ?_)
  refine hK _ ?_
  refine k_callV (Y' := Y0_hasBegin) (as := [.int (nI u), .int (nI s)]) (st := []) (m0_hasBegin hB h4 hu hs) rfl c2_190 rfl rfl rfl d2_needFreeBegin_6 (Nat.le_of_ble_eq_true rfl) (Nat.le_of_ble_eq_true rfl) rfl rfl ?_
  refine k_go 99 [] T2_needFreeBegin_ok (fun K hK => ?_)
  refine p_eq (fun _ => ?_) (fun q => absurd q h)
  refine hK _ ?_
  exact k_return d2_needFreeBegin_22 rfl rfl rfl (Nat.le_of_ble_eq_true rfl) (Nat.le_of_ble_eq_true rfl)
theorem m2_needFreeBegin_bad (hB : Bd a) (h4 : f 4 ≤ 60) {u s : Nat} (hu : u < 10000) (hs : s < 10000) (h : hasB f a u s) : k_Met Y2_needFreeBegin [.ref 0, .int (nI u), .int (nI s)] (hX f a G B o) (.inr "java/lang/IllegalStateException", hX f a G B o, 1, 6) := by
  have dd : Decidable (hasB f a u s) := .isTrue h
  refine k_intro (by decide +kernel) rfl rfl rfl ?_
  refine k_go 99 [] T2_needFreeBegin_ok (fun K hK => ?_)
  refine hK _ ?_
  refine k_callV (Y' := Y0_hasBegin) (as := [.int (nI u), .int (nI s)]) (st := []) (m0_hasBegin hB h4 hu hs) rfl c2_190 rfl rfl rfl d2_needFreeBegin_6 (Nat.le_of_ble_eq_true rfl) (Nat.le_of_ble_eq_true rfl) rfl rfl ?_
  refine k_go 99 [] T2_needFreeBegin_ok (fun K hK => ?_)
  refine p_eq (fun q => absurd h q) (fun _ => ?_)
  refine hK _ ?_
  exact k_throw (E := "java/lang/IllegalStateException") (st := []) rfl kt_193 rfl d2_needFreeBegin_12 d2_needFreeBegin_15 d2_needFreeBegin_16 d2_needFreeBegin_18 d2_needFreeBegin_21 (by decide) (Nat.le_of_ble_eq_true rfl) rfl rfl (Nat.le_of_ble_eq_true rfl) (Nat.le_of_ble_eq_true rfl)
theorem m2_needRoom_ok (h : f 4 < 60) : k_Met Y2_needRoomForMessage [.ref 0] (hX f a G B o) (.inl none, hX f a G B o, 0, 0) := by
  refine k_intro (by decide +kernel) rfl rfl rfl ?_
  refine k_go 99 [] T2_needRoomForMessage_ok (fun K hK => ?_)
  refine b_lt (a := f 4) (b := 60) (by omega) (by omega) (fun _ => ?_) (fun q => absurd h (by omega))
  refine hK _ ?_
  exact k_return d2_needRoomForMessage_22 rfl rfl rfl (Nat.le_of_ble_eq_true rfl) (Nat.le_of_ble_eq_true rfl)
theorem m2_needRoom_bad (h4 : f 4 < 10000) (h : 60 ≤ f 4) : k_Met Y2_needRoomForMessage [.ref 0] (hX f a G B o) (.inr "java/lang/UnsupportedOperationException", hX f a G B o, 1, 6) := by
  refine k_intro (by decide +kernel) rfl rfl rfl ?_
  refine k_go 99 [] T2_needRoomForMessage_ok (fun K hK => ?_)
  refine b_lt (a := f 4) (b := 60) (by omega) (by omega) (fun q => absurd h (by omega)) (fun _ => ?_)
  refine hK _ ?_
  exact k_throw (E := "java/lang/UnsupportedOperationException") (st := []) rfl kt_197 rfl d2_needRoomForMessage_12 d2_needRoomForMessage_15 d2_needRoomForMessage_16 d2_needRoomForMessage_18 d2_needRoomForMessage_21 (by decide) (Nat.le_of_ble_eq_true rfl) rfl rfl (Nat.le_of_ble_eq_true rfl) (Nat.le_of_ble_eq_true rfl)
theorem m2_placeU_bad {r c : Int32} (h : ¬ (inR x 10000 ∧ inR y 10000 ∧ inR r 10000 ∧ inR c 6)) : k_Met Y2_place [.ref 0, .ref 1, .int x, .int y, .int r, .int c] (hX f a G B o) (.inr "java/lang/IndexOutOfBoundsException", hX f a G B o, 1, 6) := by
  refine k_intro (by decide +kernel) rfl rfl rfl ?_
  refine k_go 99 [] T2_place_ok (fun K hK => ?_)
  refine hK _ ?_
  by_cases hp : inR x 10000 ∧ inR y 10000 ∧ inR c 6
  · refine k_callV (Y' := Y2_needPlace) (as := [.int x, .int y, .int c]) (st := []) (m2_needPlace_ok hp.1 hp.2.1 hp.2.2) rfl c2_65 rfl rfl rfl d2_place_5 (Nat.le_of_ble_eq_true rfl) (Nat.le_of_ble_eq_true rfl) rfl rfl ?_
    refine k_go 99 [] T2_place_ok (fun K hK => ?_)
    refine And.intro (fun _ => ?_) (fun q1 => ?_)
    · refine hK _ ?_
      exact k_throw (E := "java/lang/IndexOutOfBoundsException") (st := []) rfl kt_200 rfl d2_place_21 d2_place_24 d2_place_25 d2_place_27 d2_place_30 (by decide) (Nat.le_of_ble_eq_true rfl) rfl rfl (Nat.le_of_ble_eq_true rfl) (Nat.le_of_ble_eq_true rfl)
    · refine And.intro (fun q2 => absurd ⟨hp.1, hp.2.1, ⟨q1, (le_suc (n := 9999) (by omega)).mp q2⟩, hp.2.2⟩ h) (fun _ => ?_)
      refine hK _ ?_
      exact k_throw (E := "java/lang/IndexOutOfBoundsException") (st := []) rfl kt_200 rfl d2_place_21 d2_place_24 d2_place_25 d2_place_27 d2_place_30 (by decide) (Nat.le_of_ble_eq_true rfl) rfl rfl (Nat.le_of_ble_eq_true rfl) (Nat.le_of_ble_eq_true rfl)
  · exact k_callVX (Y' := Y2_needPlace) (as := [.int x, .int y, .int c]) (st := []) (m2_needPlace_bad hp) rfl c2_65 rfl rfl rfl d2_place_5 (Nat.le_of_ble_eq_true rfl) (Nat.le_of_ble_eq_true rfl) rfl rfl rfl
theorem m2_placeU_full {r c : Int32} (hf : f 2 < 10000) (h1 : inR x 10000) (h2 : inR y 10000) (h3 : inR r 10000) (h4 : inR c 6) (h5 : 20 ≤ f 2) : k_Met Y2_place [.ref 0, .ref 1, .int x, .int y, .int r, .int c] (hX f a G B o) (.inr "java/lang/UnsupportedOperationException", hX f a G B o, 1, 6) := by
  refine k_intro (by decide +kernel) rfl rfl rfl ?_
  refine k_go 99 [] T2_place_ok (fun K hK => ?_)
  refine hK _ ?_
  refine k_callV (Y' := Y2_needPlace) (as := [.int x, .int y, .int c]) (st := []) (m2_needPlace_ok h1 h2 h4) rfl c2_65 rfl rfl rfl d2_place_5 (Nat.le_of_ble_eq_true rfl) (Nat.le_of_ble_eq_true rfl) rfl rfl ?_
  refine k_go 99 [] T2_place_ok (fun K hK => ?_)
  refine And.intro (fun q => absurd q h3.1) (fun _ => ?_)
  refine And.intro (fun _ => ?_) (fun q => absurd ((le_suc (n := 9999) (by omega)).mpr h3.2) q)
  refine hK _ ?_
  refine k_callV (Y' := Y1_isFull) (as := []) (st := []) (m1_isFullU hf) rfl c2_202 rfl rfl rfl d2_place_32 (Nat.le_of_ble_eq_true rfl) (Nat.le_of_ble_eq_true rfl) rfl rfl ?_
  refine k_go 99 [] T2_place_ok (fun K hK => ?_)
  refine p_eq (fun q => absurd h5 q) (fun _ => ?_)
  refine hK _ ?_
  exact k_throw (E := "java/lang/UnsupportedOperationException") (st := []) rfl kt_206 rfl d2_place_38 d2_place_41 d2_place_42 d2_place_44 d2_place_47 (by decide) (Nat.le_of_ble_eq_true rfl) rfl rfl (Nat.le_of_ble_eq_true rfl) (Nat.le_of_ble_eq_true rfl)
theorem m2_placeU_ok {xx yy r c : Nat} (h1 : xx < 10000) (h2 : yy < 10000) (h3 : r < 10000) (h4 : c < 6) (h5 : f 2 < 20) : k_Met Y2_place [.ref 0, .ref 1, .int (nI xx), .int (nI yy), .int (nI r), .int (nI c)] (hX f a G B o) (.inl (some (.int (nI (f 2)))), hX (up1 f 2 (f 2 + 1)) (mvU (up2 a 2 (f 2) r) (f 2) xx yy c) G B o, 0, 0) := by
  have hf : f 2 < 10000 := by omega
  refine k_intro (by decide +kernel) rfl rfl rfl ?_
  refine k_go 99 [] T2_place_ok (fun K hK => ?_)
  refine hK _ ?_
  refine k_callV (Y' := Y2_needPlace) (as := [.int (nI xx), .int (nI yy), .int (nI c)]) (st := []) (m2_needPlace_ok (inR_nI h1 (by omega)) (inR_nI h2 (by omega)) (inR_nI h4 (by omega))) rfl c2_65 rfl rfl rfl d2_place_5 (Nat.le_of_ble_eq_true rfl) (Nat.le_of_ble_eq_true rfl) rfl rfl ?_
  refine k_go 99 [] T2_place_ok (fun K hK => ?_)
  refine z_lt (a := r) (by omega) ?_
  refine b_le (a := r) (b := 9999) (by omega) (by omega) (fun _ => ?_) (fun q => absurd h3 (by omega))
  refine hK _ ?_
  refine k_callV (Y' := Y1_isFull) (as := []) (st := []) (m1_isFullU hf) rfl c2_202 rfl rfl rfl d2_place_32 (Nat.le_of_ble_eq_true rfl) (Nat.le_of_ble_eq_true rfl) rfl rfl ?_
  refine k_go 99 [] T2_place_ok (fun K hK => ?_)
  refine p_eq (fun _ => ?_) (fun q => absurd q (by omega))
  refine hK _ ?_
  refine k_callV (Y' := Y1_add) (as := [.int (nI xx), .int (nI yy), .int (nI r), .int (nI c)]) (st := []) (m1_addU h5) rfl c2_208 rfl rfl rfl d2_place_55 (Nat.le_of_ble_eq_true rfl) (Nat.le_of_ble_eq_true rfl) rfl rfl ?_
  exact k_ireturn d2_place_58 rfl rfl rfl rfl (Nat.le_of_ble_eq_true rfl) (Nat.le_of_ble_eq_true rfl)
theorem m2_placeR_bad {r c : Int32} (h : ¬ (inR x 10000 ∧ inR y 10000 ∧ inR r 10000 ∧ inR c 6)) : k_Met Y2_place [.ref 0, .ref 6, .int x, .int y, .int r, .int c] (hX f a G B o) (.inr "java/lang/IndexOutOfBoundsException", hX f a G B o, 1, 6) := by
  refine k_intro (by decide +kernel) rfl rfl rfl ?_
  refine k_go 99 [] T2_place_ok (fun K hK => ?_)
  refine hK _ ?_
  by_cases hp : inR x 10000 ∧ inR y 10000 ∧ inR c 6
  · refine k_callV (Y' := Y2_needPlace) (as := [.int x, .int y, .int c]) (st := []) (m2_needPlace_ok hp.1 hp.2.1 hp.2.2) rfl c2_65 rfl rfl rfl d2_place_5 (Nat.le_of_ble_eq_true rfl) (Nat.le_of_ble_eq_true rfl) rfl rfl ?_
    refine k_go 99 [] T2_place_ok (fun K hK => ?_)
    refine And.intro (fun _ => ?_) (fun q1 => ?_)
    · refine hK _ ?_
      exact k_throw (E := "java/lang/IndexOutOfBoundsException") (st := []) rfl kt_200 rfl d2_place_21 d2_place_24 d2_place_25 d2_place_27 d2_place_30 (by decide) (Nat.le_of_ble_eq_true rfl) rfl rfl (Nat.le_of_ble_eq_true rfl) (Nat.le_of_ble_eq_true rfl)
    · refine And.intro (fun q2 => absurd ⟨hp.1, hp.2.1, ⟨q1, (le_suc (n := 9999) (by omega)).mp q2⟩, hp.2.2⟩ h) (fun _ => ?_)
      refine hK _ ?_
      exact k_throw (E := "java/lang/IndexOutOfBoundsException") (st := []) rfl kt_200 rfl d2_place_21 d2_place_24 d2_place_25 d2_place_27 d2_place_30 (by decide) (Nat.le_of_ble_eq_true rfl) rfl rfl (Nat.le_of_ble_eq_true rfl) (Nat.le_of_ble_eq_true rfl)
  · exact k_callVX (Y' := Y2_needPlace) (as := [.int x, .int y, .int c]) (st := []) (m2_needPlace_bad hp) rfl c2_65 rfl rfl rfl d2_place_5 (Nat.le_of_ble_eq_true rfl) (Nat.le_of_ble_eq_true rfl) rfl rfl rfl
theorem m2_placeR_full {r c : Int32} (hf : f 3 < 10000) (h1 : inR x 10000) (h2 : inR y 10000) (h3 : inR r 10000) (h4 : inR c 6) (h5 : 8 ≤ f 3) : k_Met Y2_place [.ref 0, .ref 6, .int x, .int y, .int r, .int c] (hX f a G B o) (.inr "java/lang/UnsupportedOperationException", hX f a G B o, 1, 6) := by
  refine k_intro (by decide +kernel) rfl rfl rfl ?_
  refine k_go 99 [] T2_place_ok (fun K hK => ?_)
  refine hK _ ?_
  refine k_callV (Y' := Y2_needPlace) (as := [.int x, .int y, .int c]) (st := []) (m2_needPlace_ok h1 h2 h4) rfl c2_65 rfl rfl rfl d2_place_5 (Nat.le_of_ble_eq_true rfl) (Nat.le_of_ble_eq_true rfl) rfl rfl ?_
  refine k_go 99 [] T2_place_ok (fun K hK => ?_)
  refine And.intro (fun q => absurd q h3.1) (fun _ => ?_)
  refine And.intro (fun _ => ?_) (fun q => absurd ((le_suc (n := 9999) (by omega)).mpr h3.2) q)
  refine hK _ ?_
  refine k_callV (Y' := Y1_isFull) (as := []) (st := []) (m1_isFullR hf) rfl c2_202 rfl rfl rfl d2_place_32 (Nat.le_of_ble_eq_true rfl) (Nat.le_of_ble_eq_true rfl) rfl rfl ?_
  refine k_go 99 [] T2_place_ok (fun K hK => ?_)
  refine p_eq (fun q => absurd h5 q) (fun _ => ?_)
  refine hK _ ?_
  exact k_throw (E := "java/lang/UnsupportedOperationException") (st := []) rfl kt_206 rfl d2_place_38 d2_place_41 d2_place_42 d2_place_44 d2_place_47 (by decide) (Nat.le_of_ble_eq_true rfl) rfl rfl (Nat.le_of_ble_eq_true rfl) (Nat.le_of_ble_eq_true rfl)
theorem m2_placeR_ok {xx yy r c : Nat} (h1 : xx < 10000) (h2 : yy < 10000) (h3 : r < 10000) (h4 : c < 6) (h5 : f 3 < 8) : k_Met Y2_place [.ref 0, .ref 6, .int (nI xx), .int (nI yy), .int (nI r), .int (nI c)] (hX f a G B o) (.inl (some (.int (nI (f 3)))), hX (up1 f 3 (f 3 + 1)) (mvR (up2 a 6 (f 3) r) (f 3) xx yy c) G B o, 0, 0) := by
  have hf : f 3 < 10000 := by omega
  refine k_intro (by decide +kernel) rfl rfl rfl ?_
  refine k_go 99 [] T2_place_ok (fun K hK => ?_)
  refine hK _ ?_
  refine k_callV (Y' := Y2_needPlace) (as := [.int (nI xx), .int (nI yy), .int (nI c)]) (st := []) (m2_needPlace_ok (inR_nI h1 (by omega)) (inR_nI h2 (by omega)) (inR_nI h4 (by omega))) rfl c2_65 rfl rfl rfl d2_place_5 (Nat.le_of_ble_eq_true rfl) (Nat.le_of_ble_eq_true rfl) rfl rfl ?_
  refine k_go 99 [] T2_place_ok (fun K hK => ?_)
  refine z_lt (a := r) (by omega) ?_
  refine b_le (a := r) (b := 9999) (by omega) (by omega) (fun _ => ?_) (fun q => absurd h3 (by omega))
  refine hK _ ?_
  refine k_callV (Y' := Y1_isFull) (as := []) (st := []) (m1_isFullR hf) rfl c2_202 rfl rfl rfl d2_place_32 (Nat.le_of_ble_eq_true rfl) (Nat.le_of_ble_eq_true rfl) rfl rfl ?_
  refine k_go 99 [] T2_place_ok (fun K hK => ?_)
  refine p_eq (fun _ => ?_) (fun q => absurd q (by omega))
  refine hK _ ?_
  refine k_callV (Y' := Y1_add) (as := [.int (nI xx), .int (nI yy), .int (nI r), .int (nI c)]) (st := []) (m1_addR h5) rfl c2_208 rfl rfl rfl d2_place_55 (Nat.le_of_ble_eq_true rfl) (Nat.le_of_ble_eq_true rfl) rfl rfl ?_
  exact k_ireturn d2_place_58 rfl rfl rfl rfl (Nat.le_of_ble_eq_true rfl) (Nat.le_of_ble_eq_true rfl)
end ND
end
section
def NONE : Nat := 4294967295
theorem neg1 : (-1 : Int32) = nI NONE := by decide
theorem nI_none {n : Nat} (h : n < 2 ^ 31) : ¬ nI n = -1 := by
  intro q
  have h1 := nI_pos' h
  rw [q] at h1
  exact absurd h1 (by decide)
def bB (b : Bool) : Int32 := cond b 1 0
theorem q_eq {b : Bool} {P Q : Prop} (f : b = false → P) (g : b = true → Q) : (k_cnd .eq (bB b) 0 → P) ∧ (k_cnf .eq (bB b) 0 → Q) := by
  cases b with
  | true => exact ⟨fun h => absurd (show (1 : Int32) = 0 from h) (by decide), fun _ => g rfl⟩
  | false => exact ⟨fun _ => f rfl, fun h => absurd rfl h⟩
theorem q_ne {b : Bool} {P Q : Prop} (f : b = true → P) (g : b = false → Q) : (k_cnd .ne (bB b) 0 → P) ∧ (k_cnf .ne (bB b) 0 → Q) := by
  cases b with
  | true => exact ⟨fun _ => f rfl, fun h => absurd (show (1 : Int32) = 0 from h) (by decide)⟩
  | false => exact ⟨fun h => absurd rfl h, fun _ => g rfl⟩
theorem bB_dec {p : Prop} [Decidable p] : bI p = bB (decide p) := by
  by_cases h : p
  · rw [bI_t h, decide_eq_true h]; rfl
  · rw [bI_f h, decide_eq_false h]; rfl
theorem bB_nar (b : Bool) : narrow .boolean (.int (bB b)) = .int (bB b) := by cases b <;> rfl
def fgF (f : Nat → Nat) : Nat → Nat := up1 (up1 (up1 (up1 (up1 f 0 0) 1 0) 2 0) 3 0) 4 0
/-- the first n places of a row filled -/
def flR (g v : Nat → Nat) (n : Nat) : Nat → Nat := fun j => if j < n then v j else g j
theorem flR_0 (g v : Nat → Nat) : flR g v 0 = g := by funext c; unfold flR; rw [if_neg (by omega)]
theorem flR_s (g v : Nat → Nat) (n : Nat) : up1 (flR g v n) n (v n) = flR g v (n + 1) := by
  funext c
  unfold up1 flR
  by_cases h1 : c = n
  · subst h1; rw [if_pos rfl, if_pos (by omega)]
  · rw [if_neg h1]
    by_cases h2 : c < n
    · rw [if_pos h2, if_pos (by omega)]
    · rw [if_neg h2, if_neg (by omega)]
def fgA (a : Nat → Nat → Nat) : Nat → Nat → Nat := rowA (rowA a 17 (flR (a 17) (fun _ => 0) 1000)) 18 (flR (a 18) (fun c => c) 6)
section PL
variable {f : Nat → Nat} {a : Nat → Nat → Nat} {G : Nat → Int32} {B : Nat → Nat → Int32} {o : Nat → Int64} {x y z : Int32}
theorem m2_forgetAll_2 : ∀ (n i : Nat), 6 - i < n → i ≤ 6 →
    k_W Y2_forgetAll none (.inl none, hX f (rowA a 18 (flR (a 18) (fun c => c) 6)) G B o, 0, 0) (58, [(1, .int (nI i)), (0, .ref 0)], [], hX f (rowA a 18 (flR (a 18) (fun c => c) i)) G B o, 0, 0) := by
  intro n
  induction n with
  | zero => intro i h; omega
  | succ n ih =>
    intro i hn hi
    refine k_go 99 [58] T2_forgetAll_ok (fun K hK => ?_)
    refine b_ge (a := i) (b := 6) (by omega) (by omega) (fun h => ?_) (fun h => ?_)
    · have e : i = 6 := by omega
      subst e
      refine hK _ ?_
      exact k_return d2_forgetAll_77 rfl rfl rfl (Nat.le_refl _) (Nat.le_refl _)
    · refine k_at (j := i) (by omega) ?_
      refine k_eq (z := nI (i + 1)) (nI_add i 1) ?_
      refine hK _ ?_
      refine k_heq (hX_eq rfl ((cA_up (rowA a 18 (flR (a 18) (fun c => c) i)) 18 i i).trans (congrArg cA ((up2_row a 18 i i _).trans (congrArg (rowA a 18) (flR_s (a 18) (fun c => c) i)))))) ?_
      exact ih (i + 1) (by omega) (by omega)
theorem m2_forgetAll_1 : ∀ (n i : Nat), 1000 - i < n → i ≤ 1000 →
    k_W Y2_forgetAll none (.inl none, hX f (fgA a) G B o, 0, 0) (36, [(1, .int (nI i)), (0, .ref 0)], [], hX f (rowA a 17 (flR (a 17) (fun _ => 0) i)) G B o, 0, 0) := by
  intro n
  induction n with
  | zero => intro i h; omega
  | succ n ih =>
    intro i hn hi
    refine k_go 99 [36, 58] T2_forgetAll_ok (fun K hK => ?_)
    refine b_ge (a := i) (b := 1000) (by omega) (by omega) (fun h => ?_) (fun h => ?_)
    · have e : i = 1000 := by omega
      subst e
      refine hK _ ?_
      have := m2_forgetAll_2 (f := f) (a := rowA a 17 (flR (a 17) (fun _ => 0) 1000)) (G := G) (B := B) (o := o) 7 0 (by omega) (by omega)
      rw [flR_0, rowA_self] at this
      exact this
    · refine And.intro (Or.inl rfl) ?_
      refine k_at (j := i) (by omega) ?_
      refine k_eq (z := nI (i + 1)) (nI_add i 1) ?_
      refine hK _ ?_
      refine k_heq (hX_eq rfl ((cA_up (rowA a 17 (flR (a 17) (fun _ => 0) i)) 17 i 0).trans (congrArg cA ((up2_row a 17 i 0 _).trans (congrArg (rowA a 17) (flR_s (a 17) (fun _ => 0) i)))))) ?_
      exact ih (i + 1) (by omega) (by omega)
theorem m2_forgetAll : k_Met Y2_forgetAll [.ref 0] (hX f a G B o) (.inl none, hX (fgF f) (fgA a) G B o, 0, 0) := by
  refine k_intro (by decide +kernel) rfl rfl rfl ?_
  refine k_go 99 [36] T2_forgetAll_ok (fun K hK => ?_)
  refine hK _ ?_
  refine k_heq (hX_eq (cF_up' (v := 0) (k := 4) (cF_up' (v := 0) (k := 3) (cF_up' (v := 0) (k := 2) (cF_up' (v := 0) (k := 1) (cF_up' (f := f) (k := 0) (v := 0) rfl))))) rfl) ?_
  have := m2_forgetAll_1 (f := fgF f) (a := a) (G := G) (B := B) (o := o) 1001 0 (by omega) (by omega)
  rw [flR_0, rowA_self] at this
  exact this
theorem m5_fill_loop {v : Nat} : ∀ (n i : Nat), 6 - i < n → i ≤ 6 →
    k_W Y5_fill none (.inl none, hX f (rowA a 19 (flR (a 19) (fun _ => v) 6)) G B o, 0, 0) (5, [(2, .int (nI i)), (3, .int (nI 6)), (0, .ref 23), (1, .int (nI v))], [], hX f (rowA a 19 (flR (a 19) (fun _ => v) i)) G B o, 0, 0) := by
  intro n
  induction n with
  | zero => intro i h; omega
  | succ n ih =>
    intro i hn hi
    refine k_go 99 [5] T5_fill_ok (fun K hK => ?_)
    refine b_ge (a := i) (b := 6) (by omega) (by omega) (fun h => ?_) (fun h => ?_)
    · have e : i = 6 := by omega
      subst e
      refine hK _ ?_
      exact k_return d5_fill_20 rfl rfl rfl (Nat.le_refl _) (Nat.le_refl _)
    · refine k_at (j := i) (by omega) ?_
      refine k_eq (z := nI (i + 1)) (nI_add i 1) ?_
      refine hK _ ?_
      refine k_heq (hX_eq rfl ((cA_up (rowA a 19 (flR (a 19) (fun _ => v) i)) 19 i v).trans (congrArg cA ((up2_row a 19 i v _).trans (congrArg (rowA a 19) (flR_s (a 19) (fun _ => v) i)))))) ?_
      exact ih (i + 1) (by omega) (by omega)
theorem k_perm {Y : k_Y} {sc : k_Sc} {G : k_G} {pc : Nat} {ls ls' : List (Nat × Value)} {st : List Value} {h : List k_O} {nc ns : Nat} (e : ∀ q ∈ ls', q ∈ ls) (k : k_W Y sc G (pc, ls', st, h, nc, ns)) : k_W Y sc G (pc, ls, st, h, nc, ns) := by
  intro p l e9 s m args below meth c g cA A b ad0 n0 Q C E ad H locs la I hv
  refine k p l e9 s m args below meth c g cA A b ad0 n0 Q C E ad H locs la I ⟨hv.1, hv.2.1, fun q hq => ?_⟩
  obtain ⟨z, hz, hz2⟩ := List.mem_map.mp hq
  exact hv.2.2 q (List.mem_map.mpr ⟨z, e z hz, hz2⟩)
theorem m5_fill {v : Nat} : k_Met Y5_fill [.ref 23, .int (nI v)] (hX f a G B o) (.inl none, hX f (rowA a 19 (flR (a 19) (fun _ => v) 6)) G B o, 0, 0) := by
  refine k_intro (by decide +kernel) rfl rfl rfl ?_
  refine k_go 99 [5] T5_fill_ok (fun K hK => ?_)
  refine hK _ ?_
  have := m5_fill_loop (f := f) (a := a) (v := v) (G := G) (B := B) (o := o) 7 0 (by omega) (by omega)
  rw [flR_0, rowA_self] at this
  refine k_perm (ls' := [(2, .int (nI 0)), (3, .int (nI 6)), (0, .ref 23), (1, .int (nI v))]) (fun q hq => ?_) this
  simp only [List.mem_cons, List.not_mem_nil, or_false] at hq
  rcases hq with rfl | rfl | rfl | rfl
  · exact List.mem_cons_of_mem _ List.mem_cons_self
  · exact List.mem_cons_self
  · exact List.mem_cons_of_mem _ (List.mem_cons_of_mem _ List.mem_cons_self)
  · exact List.mem_cons_of_mem _ (List.mem_cons_of_mem _ (List.mem_cons_of_mem _ List.mem_cons_self))
/-- what every state of the class keeps -/
def IvA (f : Nat → Nat) (a : Nat → Nat → Nat) : Prop :=
  Bd a ∧ (∀ j, a 16 j < 60) ∧ (∀ j, a 9 j < 6) ∧ (∀ j, a 18 j < 6) ∧ (∀ j, a 19 j = NONE ∨ a 19 j < 60) ∧ (∀ j, j < f 4 → a 10 j < f 0) ∧ (∀ j, j < f 4 → a 16 j < f 4) ∧ f 0 ≤ 1000 ∧ f 1 ≤ 1000 ∧ f 4 ≤ 60 ∧ (∀ j, a 8 j < 20) ∧ (∀ j, a 11 j < 100) ∧ f 2 ≤ 20 ∧ f 3 ≤ 8 ∧ (∀ j, a 3 j < 6) ∧ (∀ j, a 7 j < 6) ∧ (∀ j, a 17 j < 2)
abbrev kpP (a : Nat → Nat → Nat) (q m : Nat) : Prop := a 18 (a 9 q) = a 18 (a 9 m) ∧ a 12 m ≤ a 12 q
theorem m2_keeps (I : IvA f a) {q m : Nat} (hq : q < 60) (hm : m < 60) : k_Met Y2_keepsFromCalling [.ref 0, .int (nI q), .int (nI m)] (hX f a G B o) (.inl (some (.int (bI (kpP a q m)))), hX f a G B o, 0, 0) := by
  have h1 := I.1 12 q (by omega)
  have h2 := I.1 12 m (by omega)
  refine k_intro (by decide +kernel) rfl rfl rfl ?_
  refine k_go 99 [] T2_keepsFromCalling_ok (fun K hK => ?_)
  refine k_at hq ?_
  refine k_at hm ?_
  refine hK _ ?_
  refine k_callV (Y' := Y2_areJoined) (as := [.int (nI (a 9 q)), .int (nI (a 9 m))]) (st := []) (m2_areJoined I.1 (I.2.2.1 q) (I.2.2.1 m)) rfl c2_82 rfl rfl rfl d2_keepsFromCalling_19 (Nat.le_of_ble_eq_true rfl) (Nat.le_of_ble_eq_true rfl) rfl rfl ?_
  refine k_go 99 [] T2_keepsFromCalling_ok (fun K hK => ?_)
  refine p_eq (fun h => ?_) (fun h => ?_)
  · refine hK _ ?_
    exact k_ireturn d2_keepsFromCalling_51 rfl rfl (k_rb (bI_f (fun q => h q.1)).symm) rfl (Nat.le_refl _) (Nat.le_refl _)
  · refine k_at hq ?_
    refine k_at hm ?_
    refine b_lt (a := a 12 q) (b := a 12 m) (by omega) (by omega) (fun h3 => ?_) (fun h3 => ?_)
    · refine hK _ ?_
      exact k_ireturn d2_keepsFromCalling_51 rfl rfl (k_rb (bI_f (fun q => absurd q.2 (by omega))).symm) rfl (Nat.le_refl _) (Nat.le_refl _)
    · refine hK _ ?_
      exact k_ireturn d2_keepsFromCalling_51 rfl rfl (k_rb (bI_t ⟨h, h3⟩).symm) rfl (Nat.le_refl _) (Nat.le_refl _)
end PL
end
section
/-- the scan down from a place, and up from it -/
def dnS (a : Nat → Nat → Nat) (m : Nat) : Nat → Bool → Bool
  | 0, b => b
  | k + 1, b => if a 10 (a 16 k) = a 10 m then dnS a m k (b || decide (kpP a (a 16 k) m)) else b
def upS (a : Nat → Nat → Nat) (m : Nat) : Nat → Nat → Bool → Bool
  | 0, _, b => b
  | n + 1, p, b => if a 10 (a 16 p) = a 10 m then upS a m n (p + 1) (b || decide (kpP a (a 16 p) m)) else b
def meB (f : Nat → Nat) (a : Nat → Nat → Nat) (p : Nat) : Bool := upS a (a 16 p) (f 4 - (p + 1)) (p + 1) (dnS a (a 16 p) p false)
section ME
variable {f : Nat → Nat} {a : Nat → Nat → Nat} {G : Nat → Int32} {B : Nat → Nat → Int32} {o : Nat → Int64} {x y z : Int32}
theorem m2_meets_up (I : IvA f a) {p m : Nat} (hm : m < 60) : ∀ (n q : Nat) (b : Bool), f 4 - q ≤ n → q ≤ 60 → ∀ (r : Bool), r = upS a m (f 4 - q) q b →
    k_W Y2_meetsItsBetter none (.inl (some (.int (bB r))), hX f a G B o, 0, 0) (74, [(4, .int (nI q)), (3, .int (bB b)), (2, .int (nI m)), (0, .ref 0), (1, .int (nI p))], [], hX f a G B o, 0, 0) := by
  have h4 := I.2.2.2.2.2.2.2.2.2.1
  intro n
  induction n with
  | zero =>
    intro q b hn hq r hr
    refine k_go 99 [74] T2_meetsItsBetter_ok (fun K hK => ?_)
    refine b_ge (a := q) (b := f 4) (by omega) (by omega) (fun h => ?_) (fun h => absurd h (by omega))
    refine hK _ ?_
    rw [show f 4 - q = 0 by omega] at hr
    exact k_ireturn d2_meetsItsBetter_134 rfl (bB_nar b) (by rw [hr]; rfl) rfl (Nat.le_refl _) (Nat.le_refl _)
  | succ n ih =>
    intro q b hn hq r hr
    refine k_go 99 [74] T2_meetsItsBetter_ok (fun K hK => ?_)
    refine b_ge (a := q) (b := f 4) (by omega) (by omega) (fun h => ?_) (fun h => ?_)
    · refine hK _ ?_
      rw [show f 4 - q = 0 by omega] at hr
      exact k_ireturn d2_meetsItsBetter_134 rfl (bB_nar b) (by rw [hr]; rfl) rfl (Nat.le_refl _) (Nat.le_refl _)
    · have h16 := I.2.1 q
      rw [show f 4 - q = (f 4 - (q + 1)) + 1 by omega] at hr
      have hr2 : r = if a 10 (a 16 q) = a 10 m then upS a m (f 4 - (q + 1)) (q + 1) (b || decide (kpP a (a 16 q) m)) else b := hr
      refine hK _ ?_
      refine k_callV (Y' := Y0_beginsWith) (as := [.int (nI q), .int (nI m)]) (st := []) (m0_beginsWith I.1 (by omega) hm h16) rfl c2_247 rfl rfl rfl d2_meetsItsBetter_93 (Nat.le_of_ble_eq_true rfl) (Nat.le_of_ble_eq_true rfl) rfl rfl ?_
      refine k_go 99 [74] T2_meetsItsBetter_ok (fun K hK => ?_)
      refine p_eq (fun h2 => ?_) (fun h2 => ?_)
      · refine hK _ ?_
        rw [if_neg h2] at hr2
        exact k_ireturn d2_meetsItsBetter_134 rfl (bB_nar b) (by rw [hr2]) rfl (Nat.le_refl _) (Nat.le_refl _)
      · rw [if_pos h2] at hr2
        refine q_ne (fun h3 => ?_) (fun h3 => ?_)
        · refine k_eq (z := nI (q + 1)) (nI_add q 1) ?_
          refine hK _ ?_
          rw [h3] at hr2
          exact ih (q + 1) true (by omega) (by omega) r hr2
        · refine k_at (j := q) (by omega) ?_
          refine hK _ ?_
          refine k_callV (Y' := Y2_keepsFromCalling) (as := [.int (nI (a 16 q)), .int (nI m)]) (st := []) (m2_keeps I h16 hm) rfl c2_250 rfl rfl rfl d2_meetsItsBetter_115 (Nat.le_of_ble_eq_true rfl) (Nat.le_of_ble_eq_true rfl) rfl rfl ?_
          refine k_go 99 [74] T2_meetsItsBetter_ok (fun K hK => ?_)
          refine p_eq (fun h5 => ?_) (fun h5 => ?_)
          · refine k_eq (z := nI (q + 1)) (nI_add q 1) ?_
            refine hK _ ?_
            rw [h3, decide_eq_false h5] at hr2
            exact ih (q + 1) false (by omega) (by omega) r hr2
          · refine k_eq (z := nI (q + 1)) (nI_add q 1) ?_
            refine hK _ ?_
            rw [h3, decide_eq_true h5] at hr2
            exact ih (q + 1) true (by omega) (by omega) r hr2
theorem m2_meets_dn (I : IvA f a) {p m : Nat} (hp : p < 60) (hm : m < 60) : ∀ (k : Nat) (b : Bool), k ≤ p → ∀ (r : Bool), r = upS a m (f 4 - (p + 1)) (p + 1) (dnS a m k b) →
    k_W Y2_meetsItsBetter none (.inl (some (.int (bB r))), hX f a G B o, 0, 0) (17, [(4, .int (nI k + (-1))), (3, .int (bB b)), (2, .int (nI m)), (0, .ref 0), (1, .int (nI p))], [], hX f a G B o, 0, 0) := by
  have up : ∀ (b : Bool) (r : Bool) (v : Int32), r = upS a m (f 4 - (p + 1)) (p + 1) b → k_W Y2_meetsItsBetter none (.inl (some (.int (bB r))), hX f a G B o, 0, 0) (69, [(4, .int v), (3, .int (bB b)), (2, .int (nI m)), (0, .ref 0), (1, .int (nI p))], [], hX f a G B o, 0, 0) := by
    intro b r v hr
    refine k_go 99 [74] T2_meetsItsBetter_ok (fun K hK => ?_)
    refine k_eq (z := nI (p + 1)) (nI_add p 1) ?_
    refine hK _ ?_
    exact m2_meets_up I hm (f 4) (p + 1) b (by omega) (by omega) r hr
  intro k
  induction k with
  | zero =>
    intro b hk r hr
    refine k_go 99 [17, 69] T2_meetsItsBetter_ok (fun K hK => ?_)
    refine And.intro (fun _ => ?_) (fun q => absurd (show nI 0 + (-1 : Int32) < 0 by decide) q)
    refine hK _ ?_
    exact up b r _ hr
  | succ k ih =>
    intro b hk r hr
    have e1 : nI (k + 1) + (-1 : Int32) = nI k := pk_m1 k
    rw [e1]
    have h16 := I.2.1 k
    have hr2 : r = upS a m (f 4 - (p + 1)) (p + 1) (if a 10 (a 16 k) = a 10 m then dnS a m k (b || decide (kpP a (a 16 k) m)) else b) := hr
    refine k_go 99 [17, 69] T2_meetsItsBetter_ok (fun K hK => ?_)
    refine z_lt (a := k) (by omega) ?_
    refine hK _ ?_
    refine k_callV (Y' := Y0_beginsWith) (as := [.int (nI k), .int (nI m)]) (st := []) (m0_beginsWith I.1 (by omega) hm h16) rfl c2_247 rfl rfl rfl d2_meetsItsBetter_29 (Nat.le_of_ble_eq_true rfl) (Nat.le_of_ble_eq_true rfl) rfl rfl ?_
    refine k_go 99 [17, 69] T2_meetsItsBetter_ok (fun K hK => ?_)
    refine p_eq (fun h2 => ?_) (fun h2 => ?_)
    · refine hK _ ?_
      rw [if_neg h2] at hr2
      exact up b r _ hr2
    · rw [if_pos h2] at hr2
      refine q_ne (fun h3 => ?_) (fun h3 => ?_)
      · refine k_eq rfl ?_
        refine hK _ ?_
        rw [h3] at hr2
        exact ih true (by omega) r hr2
      · refine k_at (j := k) (by omega) ?_
        refine hK _ ?_
        refine k_callV (Y' := Y2_keepsFromCalling) (as := [.int (nI (a 16 k)), .int (nI m)]) (st := []) (m2_keeps I h16 hm) rfl c2_250 rfl rfl rfl d2_meetsItsBetter_51 (Nat.le_of_ble_eq_true rfl) (Nat.le_of_ble_eq_true rfl) rfl rfl ?_
        refine k_go 99 [17, 69] T2_meetsItsBetter_ok (fun K hK => ?_)
        refine p_eq (fun h5 => ?_) (fun h5 => ?_)
        · refine k_eq rfl ?_
          refine hK _ ?_
          rw [h3, decide_eq_false h5] at hr2
          exact ih false (by omega) r hr2
        · refine k_eq rfl ?_
          refine hK _ ?_
          rw [h3, decide_eq_true h5] at hr2
          exact ih true (by omega) r hr2
theorem m2_meets (I : IvA f a) {p : Nat} (hp : p < 60) : k_Met Y2_meetsItsBetter [.ref 0, .int (nI p)] (hX f a G B o) (.inl (some (.int (bB (meB f a p)))), hX f a G B o, 0, 0) := by
  refine k_intro (by decide +kernel) rfl rfl rfl ?_
  refine k_go 99 [17] T2_meetsItsBetter_ok (fun K hK => ?_)
  refine k_at hp ?_
  refine k_eq (z := nI p + (-1)) (by
    show nI p - nI 1 = nI p + (-1)
    rw [show (-1 : Int32) = -(nI 1) from rfl, Int32.sub_eq_add_neg]) ?_
  refine hK _ ?_
  exact m2_meets_dn I hp (I.2.1 p) p false (Nat.le_refl _) _ rfl
end ME
end
section
/-- putOn in numbers -/
def putA (f : Nat → Nat) (a : Nat → Nat → Nat) (m s : Nat) : Nat → Nat → Nat :=
  let a1 := up2 a 19 (a 18 (a 9 m)) m
  let w := max 1 (a 11 m)
  if f 1 = 0 ∨ w ≤ f 1 then (if w ≤ f 0 - s then sOn a1 m s w 0 else sOn (sOn a1 m s w 0) m s (f 0 - s) 4)
  else (if f 1 ≤ f 0 - s then sOn a1 m s (f 1) 2 else sOn (sOn a1 m s (f 1) 2) m s (f 0 - s) 4)
theorem sOn_14 (a : Nat → Nat → Nat) (m x y z : Nat) : sOn a m x y z 14 m = y := by
  simp [sOn, up2, up1]
theorem c2_253m : k_okM 2 253 Lib.Math.max.name Lib.Math.max.code = true := by decide +kernel
theorem c2_280m : k_okM 2 280 Lib.Math.min.name Lib.Math.min.code = true := by decide +kernel
section PU
variable {f : Nat → Nat} {a : Nat → Nat → Nat} {G : Nat → Int32} {B : Nat → Nat → Int32} {o : Nat → Int64} {x y z : Int32}
theorem m2_putOn (I : IvA f a) {m s : Nat} (hm : m < 60) (hs : s ≤ f 0) : k_Met Y2_putOn [.ref 0, .int (nI m), .int (nI s)] (hX f a G B o) (.inl none, hX f (putA f a m s) G B o, 0, 0) := by
  have h0 := I.2.2.2.2.2.2.2.1
  have h1 := I.2.2.2.2.2.2.2.2.1
  have h11 := I.2.2.2.2.2.2.2.2.2.2.2.1 m
  have h9 := I.2.2.1 m
  have h18 := I.2.2.2.1 (a 9 m)
  have fin : ∀ (G9 : k_G) (a2 : Nat → Nat → Nat) (w y z : Nat), a2 14 m = y → y < 10000 → G9 = (.inl none, hX f (if y ≤ f 0 - s then a2 else sOn a2 m s (f 0 - s) 4) G B o, 0, 0) → k_W Y2_putOn none G9 (77, [(3, .int (nI w)), (0, .ref 0), (1, .int (nI m)), (2, .int (nI s))], [], hX f a2 G B o, 0, 0) := by
    intro G9 a2 w y z e hy hG
    refine k_go 99 [] T2_putOn_ok (fun K hK => ?_)
    refine k_eq (z := nI (f 0 - s)) (pk_sub hs) ?_
    refine k_at hm ?_
    refine b_le (a := a2 14 m) (b := f 0 - s) (by omega) (by omega) (fun h => ?_) (fun h => ?_)
    · refine hK _ ?_
      rw [if_pos (by omega)] at hG
      subst hG
      exact k_return d2_putOn_111 rfl rfl rfl (Nat.le_of_ble_eq_true rfl) (Nat.le_of_ble_eq_true rfl)
    · rw [if_neg (by omega)] at hG
      subst hG
      refine hK _ ?_
      refine k_callV (Y' := Y0_setOn) (as := [.int (nI m), .int (nI s), .int (nI (f 0 - s)), .int (nI 4)]) (st := []) (m0_setOnN hm s (f 0 - s) 4) rfl c2_258 rfl rfl rfl d2_putOn_108 (Nat.le_of_ble_eq_true rfl) (Nat.le_of_ble_eq_true rfl) rfl rfl ?_
      exact k_return d2_putOn_111 rfl rfl rfl (Nat.le_of_ble_eq_true rfl) (Nat.le_of_ble_eq_true rfl)
  have e0 : f 1 = 0 ∨ max 1 (a 11 m) ≤ f 1 → putA f a m s = if max 1 (a 11 m) ≤ f 0 - s then sOn (up2 a 19 (a 18 (a 9 m)) m) m s (max 1 (a 11 m)) 0 else sOn (sOn (up2 a 19 (a 18 (a 9 m)) m) m s (max 1 (a 11 m)) 0) m s (f 0 - s) 4 := fun h => if_pos h
  have e2 : ¬ (f 1 = 0 ∨ max 1 (a 11 m) ≤ f 1) → putA f a m s = if f 1 ≤ f 0 - s then sOn (up2 a 19 (a 18 (a 9 m)) m) m s (f 1) 2 else sOn (sOn (up2 a 19 (a 18 (a 9 m)) m) m s (f 1) 2) m s (f 0 - s) 4 := fun h => if_neg h
  refine k_intro (by decide +kernel) rfl rfl rfl ?_
  generalize hG : ((.inl none, hX f (putA f a m s) G B o, 0, 0) : k_G) = G9
  have hmc : G9.2.2.1 = 0 ∧ G9.2.2.2 = 0 := by rw [← hG]; exact ⟨rfl, rfl⟩
  refine k_go 99 [] T2_putOn_ok (fun K hK => ?_)
  refine k_at hm ?_
  refine k_at (j := a 9 m) h9 ?_
  refine k_at (j := a 18 (a 9 m)) h18 ?_
  refine k_at hm ?_
  refine hK _ ?_
  refine k_heq (hX_eq rfl (cA_up a 19 (a 18 (a 9 m)) m)) ?_
  refine k_mmax (x := nI 1) (y := nI (a 11 m)) (z := nI (max 1 (a 11 m))) c2_253m (mxN (by omega) (by omega)) d2_putOn_30 rfl rfl (Nat.zero_le _) (Nat.zero_le _) ?_
  refine k_go 99 [] T2_putOn_ok (fun K hK => ?_)
  refine z_le (a := f 1) (by omega) (fun h => ?_) (fun h => ?_)
  · refine hK _ ?_
    refine k_callV (Y' := Y0_setOn) (as := [.int (nI m), .int (nI s), .int (nI (max 1 (a 11 m))), .int (nI 0)]) (st := []) (m0_setOnN hm s (max 1 (a 11 m)) 0) rfl c2_258 rfl rfl rfl d2_putOn_74 (Nat.zero_le _) (Nat.zero_le _) rfl rfl ?_
    exact fin _ _ _ (max 1 (a 11 m)) 0 (sOn_14 _ _ _ _ _) (by omega) (hG.symm.trans (by rw [e0 (Or.inl h)]))
  · refine b_ge (a := f 1) (b := max 1 (a 11 m)) (by omega) (by omega) (fun h3 => ?_) (fun h3 => ?_)
    · refine hK _ ?_
      refine k_callV (Y' := Y0_setOn) (as := [.int (nI m), .int (nI s), .int (nI (max 1 (a 11 m))), .int (nI 0)]) (st := []) (m0_setOnN hm s (max 1 (a 11 m)) 0) rfl c2_258 rfl rfl rfl d2_putOn_74 (Nat.zero_le _) (Nat.zero_le _) rfl rfl ?_
      exact fin _ _ _ (max 1 (a 11 m)) 0 (sOn_14 _ _ _ _ _) (by omega) (hG.symm.trans (by rw [e0 (Or.inr h3)]))
    · refine hK _ ?_
      refine k_callV (Y' := Y0_setOn) (as := [.int (nI m), .int (nI s), .int (nI (f 1)), .int (nI 2)]) (st := []) (m0_setOnN hm s (f 1) 2) rfl c2_258 rfl rfl rfl d2_putOn_60 (Nat.zero_le _) (Nat.zero_le _) rfl rfl ?_
      refine k_go 99 [77] T2_putOn_ok (fun K hK => ?_)
      refine hK _ ?_
      exact fin _ _ _ (f 1) 0 (sOn_14 _ _ _ _ _) (by omega) (hG.symm.trans (by rw [e2 (by omega)]))
end PU
end
section
theorem Bd_up2 {a : Nat → Nat → Nat} {k j v : Nat} (h : Bd a) (hv : v < 10000) : Bd (up2 a k j v) := by
  intro i t hi
  unfold up2
  split
  · unfold up1
    split
    · exact hv
    · exact h i t hi
  · exact h i t hi
theorem Bd_19 {a : Nat → Nat → Nat} {j v : Nat} (h : Bd a) : Bd (up2 a 19 j v) := by
  intro i t hi
  unfold up2
  rw [if_neg (by omega)]
  exact h i t hi
theorem IvA_sOn {f : Nat → Nat} {a : Nat → Nat → Nat} {m x y z : Nat} (I : IvA f a) (hx : x < 10000) (hy : y < 10000) (hz : z < 10000) : IvA f (sOn a m x y z) := ⟨Bd_up2 (Bd_up2 (Bd_up2 I.1 hx) hy) hz, I.2⟩
theorem IvA_19 {f : Nat → Nat} {a : Nat → Nat → Nat} {j m : Nat} (I : IvA f a) (hm : m < 60) : IvA f (up2 a 19 j m) := by
  refine ⟨Bd_19 I.1, I.2.1, I.2.2.1, I.2.2.2.1, fun t => ?_, I.2.2.2.2.2⟩
  show up1 (a 19) j m t = NONE ∨ up1 (a 19) j m t < 60
  unfold up1
  split
  · exact Or.inr hm
  · exact I.2.2.2.2.1 t
theorem IvA_put {f : Nat → Nat} {a : Nat → Nat → Nat} {m s : Nat} (I : IvA f a) (hm : m < 60) (hs : s < 10000) : IvA f (putA f a m s) := by
  have h0 := I.2.2.2.2.2.2.2.1
  have h1 := I.2.2.2.2.2.2.2.2.1
  have h11 := I.2.2.2.2.2.2.2.2.2.2.2.1 m
  have I1 : IvA f (up2 a 19 (a 18 (a 9 m)) m) := IvA_19 I hm
  unfold putA
  dsimp only
  split
  · split
    · exact IvA_sOn I1 hs (by omega) (by omega)
    · exact IvA_sOn (IvA_sOn I1 hs (by omega) (by omega)) hs (by omega) (by omega)
  · split
    · exact IvA_sOn I1 hs (by omega) (by omega)
    · exact IvA_sOn (IvA_sOn I1 hs (by omega) (by omega)) hs (by omega) (by omega)
theorem IvA_cut {f : Nat → Nat} {a : Nat → Nat → Nat} {m s : Nat} (I : IvA f a) : IvA f (cutA a m s) := by
  have h13 := I.1 13 m (by omega)
  have h14 := I.1 14 m (by omega)
  unfold cutA
  split
  · exact IvA_sOn I h13 (by omega) (by omega)
  · exact I
/-- plan in numbers: m the message at the place, s its begin, l the latest of its group -/
def planX (f : Nat → Nat) (a : Nat → Nat → Nat) (p m s l : Nat) : Nat → Nat → Nat :=
  if meB f a p = true then sOn a m s 0 3
  else if l = NONE ∨ ¬ onP a l s then putA f a m s
  else if a 12 l < a 12 m then putA f (cutA a l s) m (s + 1) else sOn a m s 0 3
def planA (f : Nat → Nat) (a : Nat → Nat → Nat) (p : Nat) : Nat → Nat → Nat := planX f a p (a 16 p) (a 10 (a 16 p)) (a 19 (a 18 (a 9 (a 16 p))))
theorem IvA_plan {f : Nat → Nat} {a : Nat → Nat → Nat} {p : Nat} (I : IvA f a) (hp : p < f 4) : IvA f (planA f a p) := by
  have hs := I.1 10 (a 16 p) (by omega)
  have hm := I.2.1 p
  have hf := I.2.2.2.2.2.1
  have h0 := I.2.2.2.2.2.2.2.1
  unfold planA planX
  split
  · exact IvA_sOn I hs (by omega) (by omega)
  · split
    · exact IvA_put I hm hs
    · next h2 =>
      split
      · have h13 := I.1 13 (a 19 (a 18 (a 9 (a 16 p)))) (by omega)
        refine IvA_put (IvA_cut I) hm ?_
        have h5 := hf (a 16 p) (I.2.2.2.2.2.2.1 p hp)
        omega
      · exact IvA_sOn I hs (by omega) (by omega)
def planN (f : Nat → Nat) (a : Nat → Nat → Nat) : Nat → Nat → Nat → Nat
  | 0 => a
  | k + 1 => planA f (planN f a k) k
section PN
variable {f : Nat → Nat} {a : Nat → Nat → Nat} {G : Nat → Int32} {B : Nat → Nat → Int32} {o : Nat → Int64}
theorem m2_plan_body (I : IvA f a) {p m s l : Nat} (hp : p < 60) (hm : m < 60) (hs : s < f 0) (h19 : l = NONE ∨ l < 60) (es : a 10 m = s) : k_W Y2_plan none (.inl none, hX f (planX f a p m s l) G B o, 0, 0) (41, [(4, .int (nI l)), (3, .int (nI s)), (2, .int (nI m)), (0, .ref 0), (1, .int (nI p))], [], hX f a G B o, 0, 0) := by
  have h0 := I.2.2.2.2.2.2.2.1
  have hr2 := I.1 12 m (by omega)
  have R : ∀ (a2 : Nat → Nat → Nat) (ls : List (Nat × Value)), planX f a p m s l = a2 → k_W Y2_plan none (.inl none, hX f (planX f a p m s l) G B o, 0, 0) (139, ls, [], hX f a2 G B o, 0, 0) := by
    intro a2 ls e
    rw [e]
    exact k_return d2_plan_139 rfl rfl rfl (Nat.le_refl _) (Nat.le_refl _)
  have u1 : meB f a p = true → planX f a p m s l = sOn a m s 0 3 := fun h => if_pos h
  have u2 : ¬ meB f a p = true → (l = NONE ∨ ¬ onP a l s) → planX f a p m s l = putA f a m s := fun h h' => (if_neg h).trans (if_pos h')
  have u3 : ¬ meB f a p = true → ¬ (l = NONE ∨ ¬ onP a l s) → a 12 l < a 12 m → planX f a p m s l = putA f (cutA a l s) m (s + 1) := fun h h' h'' => (if_neg h).trans ((if_neg h').trans (if_pos h''))
  have u4 : ¬ meB f a p = true → ¬ (l = NONE ∨ ¬ onP a l s) → ¬ a 12 l < a 12 m → planX f a p m s l = sOn a m s 0 3 := fun h h' h'' => (if_neg h).trans ((if_neg h').trans (if_neg h''))
  generalize ((.inl none, hX f (planX f a p m s l) G B o, 0, 0) : k_G) = G9 at R ⊢
  have mk : k_Met Y0_markLost [.ref 11, .int (nI m)] (hX f a G B o) (.inl none, hX f (sOn a m s 0 3) G B o, 0, 0) := by rw [← es]; exact m0_markLost hm
  refine k_go 99 [] T2_plan_ok (fun K hK => ?_)
  refine hK _ ?_
  refine k_callV (Y' := Y2_meetsItsBetter) (as := [.int (nI p)]) (st := []) (m2_meets I hp) rfl c2_229 rfl rfl rfl d2_plan_43 (Nat.zero_le _) (Nat.zero_le _) rfl rfl ?_
  have put : planX f a p m s l = putA f a m s → k_W Y2_plan none G9 (79, [(4, .int (nI l)), (3, .int (nI s)), (2, .int (nI m)), (0, .ref 0), (1, .int (nI p))], [], hX f a G B o, 0, 0) := by
    intro e
    refine k_go 99 [139] T2_plan_ok (fun K hK => ?_)
    refine hK _ ?_
    refine k_callV (Y' := Y2_putOn) (as := [.int (nI m), .int (nI s)]) (st := []) (m2_putOn I hm (by omega)) rfl c2_238 rfl rfl rfl d2_plan_82 (Nat.zero_le _) (Nat.zero_le _) rfl rfl ?_
    refine k_go 99 [139] T2_plan_ok (fun K hK => ?_)
    refine hK _ ?_
    exact R _ _ e
  refine k_go 99 [79, 139] T2_plan_ok (fun K hK => ?_)
  refine q_eq (fun hb => ?_) (fun hb => ?_)
  · have hb2 : ¬ meB f a p = true := by rw [hb]; exact Bool.false_ne_true
    refine And.intro (fun hn => ?_) (fun hn => ?_)
    · have hl : l = NONE := by
        rcases h19 with h | h
        · exact h
        · exact absurd hn (nI_none (by omega))
      refine hK _ ?_
      exact put (u2 hb2 (Or.inl hl))
    · have hl : l < 60 := by
        rcases h19 with h | h
        · exact absurd (by rw [h]; exact neg1.symm) hn
        · exact h
      have hl2 : ¬ l = NONE := fun q => by rw [q] at hl; exact absurd hl (by decide)
      have hr1 := I.1 12 l (by omega)
      refine hK _ ?_
      refine k_callV (Y' := Y0_isOn) (as := [.int (nI l), .int (nI s)]) (st := []) (m0_isOn I.1 hl (by omega)) rfl c2_235 rfl rfl rfl d2_plan_73 (Nat.zero_le _) (Nat.zero_le _) rfl rfl ?_
      refine k_go 99 [79, 139] T2_plan_ok (fun K hK => ?_)
      refine p_ne (fun ho => ?_) (fun ho => ?_)
      · have h3 : ¬ (l = NONE ∨ ¬ onP a l s) := fun q => q.elim hl2 (fun q => q ho)
        refine k_at hl ?_
        refine k_at hm ?_
        refine b_ge (a := a 12 l) (b := a 12 m) (by omega) (by omega) (fun h5 => ?_) (fun h5 => ?_)
        · refine hK _ ?_
          refine k_callV (Y' := Y0_markLost) (as := [.int (nI m)]) (st := []) (mk) rfl c2_232 rfl rfl rfl d2_plan_136 (Nat.zero_le _) (Nat.zero_le _) rfl rfl ?_
          refine k_go 99 [139] T2_plan_ok (fun K hK => ?_)
          refine hK _ ?_
          exact R _ _ (u4 hb2 h3 (by omega))
        · refine hK _ ?_
          refine k_callV (Y' := Y0_cutAfter) (as := [.int (nI l), .int (nI s)]) (st := []) (m0_cutAfter I.1 hl (by omega) ho.1) rfl c2_244 rfl rfl rfl d2_plan_117 (Nat.zero_le _) (Nat.zero_le _) rfl rfl ?_
          refine k_go 99 [139] T2_plan_ok (fun K hK => ?_)
          refine k_eq (z := nI (s + 1)) (nI_add s 1) ?_
          refine hK _ ?_
          refine k_callV (Y' := Y2_putOn) (as := [.int (nI m), .int (nI (s + 1))]) (st := []) (m2_putOn (IvA_cut I) hm (by omega)) rfl c2_238 rfl rfl rfl d2_plan_125 (Nat.zero_le _) (Nat.zero_le _) rfl rfl ?_
          refine k_go 99 [139] T2_plan_ok (fun K hK => ?_)
          refine hK _ ?_
          exact R _ _ (u3 hb2 h3 h5)
      · refine hK _ ?_
        exact put (u2 hb2 (Or.inr ho))
  · refine hK _ ?_
    refine k_callV (Y' := Y0_markLost) (as := [.int (nI m)]) (st := []) (mk) rfl c2_232 rfl rfl rfl d2_plan_54 (Nat.zero_le _) (Nat.zero_le _) rfl rfl ?_
    refine k_go 99 [139] T2_plan_ok (fun K hK => ?_)
    refine hK _ ?_
    exact R _ _ (u1 hb)
theorem m2_plan (I : IvA f a) {p : Nat} (hp : p < f 4) : k_Met Y2_plan [.ref 0, .int (nI p)] (hX f a G B o) (.inl none, hX f (planA f a p) G B o, 0, 0) := by
  have h4 := I.2.2.2.2.2.2.2.2.2.1
  have hm := I.2.1 p
  have hm4 := I.2.2.2.2.2.2.1 p hp
  refine k_intro (by decide +kernel) rfl rfl rfl ?_
  refine k_go 99 [41] T2_plan_ok (fun K hK => ?_)
  refine k_at (j := p) (by omega) ?_
  refine k_at (j := a 16 p) hm ?_
  refine k_at (j := a 16 p) hm ?_
  refine k_at (j := a 9 (a 16 p)) (I.2.2.1 (a 16 p)) ?_
  refine k_at (j := a 18 (a 9 (a 16 p))) (I.2.2.2.1 (a 9 (a 16 p))) ?_
  refine hK _ ?_
  exact m2_plan_body I (by omega) hm (I.2.2.2.2.2.1 (a 16 p) hm4) (I.2.2.2.2.1 (a 18 (a 9 (a 16 p)))) rfl
theorem IvA_planN (I : IvA f a) : ∀ k, k ≤ f 4 → IvA f (planN f a k) := by
  intro k
  induction k with
  | zero => intro _; exact I
  | succ k ih => intro hk; exact IvA_plan (ih (by omega)) (by omega)
theorem m2_planAll_loop (I : IvA f a) : ∀ (n i : Nat), f 4 - i < n → i ≤ f 4 →
    k_W Y2_planAll none (.inl none, hX f (planN f a (f 4)) G B o, 0, 0) (10, [(1, .int (nI i)), (0, .ref 0)], [], hX f (planN f a i) G B o, 0, 0) := by
  have h4 := I.2.2.2.2.2.2.2.2.2.1
  intro n
  induction n with
  | zero => intro i h; omega
  | succ n ih =>
    intro i hn hi
    refine k_go 99 [10] T2_planAll_ok (fun K hK => ?_)
    refine b_ge (a := i) (b := f 4) (by omega) (by omega) (fun h => ?_) (fun h => ?_)
    · have e : i = f 4 := by omega
      refine hK _ ?_
      exact k_return d2_planAll_32 rfl rfl (by rw [e]) (Nat.le_refl _) (Nat.le_refl _)
    · refine hK _ ?_
      refine k_callV (Y' := Y2_plan) (as := [.int (nI i)]) (st := []) (m2_plan (IvA_planN I i hi) h) rfl c2_220 rfl rfl rfl d2_planAll_23 (Nat.le_of_ble_eq_true rfl) (Nat.le_of_ble_eq_true rfl) rfl rfl ?_
      refine k_go 99 [10] T2_planAll_ok (fun K hK => ?_)
      refine k_eq (z := nI (i + 1)) (nI_add i 1) ?_
      refine hK _ ?_
      exact ih (i + 1) (by omega) (by omega)
def clr (a : Nat → Nat → Nat) : Nat → Nat → Nat := rowA a 19 (flR (a 19) (fun _ => NONE) 6)
theorem IvA_clr (I : IvA f a) : IvA f (clr a) := by
  refine ⟨fun k j hk => ?_, I.2.1, I.2.2.1, I.2.2.2.1, fun t => ?_, I.2.2.2.2.2⟩
  · unfold clr rowA
    rw [if_neg (by omega)]
    exact I.1 k j hk
  · show flR (a 19) (fun _ => NONE) 6 t = NONE ∨ flR (a 19) (fun _ => NONE) 6 t < 60
    unfold flR
    split
    · exact Or.inl rfl
    · exact I.2.2.2.2.1 t
def plan0 (f : Nat → Nat) (a : Nat → Nat → Nat) : Nat → Nat → Nat := planN f (clr a) (f 4)
theorem m2_planAll (I : IvA f a) : k_Met Y2_planAll [.ref 0] (hX f a G B o) (.inl none, hX f (plan0 f a) G B o, 0, 0) := by
  have fl : k_Met Y5_fill [.ref 23, .int (-1)] (hX f a G B o) (.inl none, hX f (clr a) G B o, 0, 0) := by
    rw [neg1]; exact m5_fill
  refine k_intro (by decide +kernel) rfl rfl rfl ?_
  refine k_go 99 [10] T2_planAll_ok (fun K hK => ?_)
  refine hK _ ?_
  refine k_callS (Y' := Y5_fill) (as := [.ref 23, .int (-1)]) (st := []) fl rfl c2_214 rfl rfl d2_planAll_5 (Nat.le_refl _) (Nat.le_refl _) rfl rfl ?_
  refine k_go 99 [10] T2_planAll_ok (fun K hK => ?_)
  refine hK _ ?_
  exact m2_planAll_loop (IvA_clr I) (f 4 + 1) 0 (by omega) (by omega)
end PN
end
section
theorem k_vs {Y : k_Y} {sc : k_Sc} {G : k_G} {pc : Nat} {ls : List (Nat × Value)} {v v' : Value} {st : List Value} {h : List k_O} {nc ns : Nat} (e : v = v') (k : k_W Y sc G (pc, ls, v' :: st, h, nc, ns)) : k_W Y sc G (pc, ls, v :: st, h, nc, ns) := e ▸ k
section PB
variable {f : Nat → Nat} {a : Nat → Nat → Nat} {G : Nat → Int32} {B : Nat → Nat → Int32} {o : Nat → Int64} {x y z w : Int32}
theorem m2_day_big (h : ¬ x ≤ nI 1000) : k_Met Y2_day [.ref 0, .int x] (hX f a G B o) (.inr "java/lang/IllegalArgumentException", hX f a G B o, 1, 6) := by
  refine k_intro (by decide +kernel) rfl rfl rfl ?_
  refine k_go 99 [] T2_day_ok (fun K hK => ?_)
  refine And.intro (fun q => absurd q h) (fun _ => ?_)
  refine hK _ ?_
  exact k_throw (E := "java/lang/IllegalArgumentException") (st := []) rfl kt_44 rfl d2_day_7 d2_day_10 d2_day_11 d2_day_13 d2_day_16 (by decide) (Nat.le_of_ble_eq_true rfl) rfl rfl (Nat.le_of_ble_eq_true rfl) (Nat.le_of_ble_eq_true rfl)
theorem m2_day_neg (h : x ≤ nI 1000) (h2 : x < 0) : k_Met Y2_day [.ref 0, .int x] (hX f a G B o) (.inr "java/lang/NegativeArraySizeException", hX f a G B o, 1, 6) := by
  refine k_intro (by decide +kernel) rfl rfl rfl ?_
  refine k_go 99 [] T2_day_ok (fun K hK => ?_)
  refine And.intro (fun _ => ?_) (fun q => absurd h q)
  refine And.intro (fun q => absurd h2 (Int32.not_lt.mpr q)) (fun _ => ?_)
  refine hK _ ?_
  exact k_throw (E := "java/lang/NegativeArraySizeException") (st := []) rfl kt_51 rfl d2_day_21 d2_day_24 d2_day_25 d2_day_27 d2_day_30 (by decide) (Nat.le_of_ble_eq_true rfl) rfl rfl (Nat.le_of_ble_eq_true rfl) (Nat.le_of_ble_eq_true rfl)
theorem m2_day_ok {n : Nat} (hn : n ≤ 1000) : k_Met Y2_day [.ref 0, .int (nI n)] (hX f a G B o) (.inl none, hX (up1 (fgF f) 0 n) (fgA a) G B o, 0, 0) := by
  refine k_intro (by decide +kernel) rfl rfl rfl ?_
  refine k_go 99 [] T2_day_ok (fun K hK => ?_)
  refine b_le (a := n) (b := 1000) (by omega) (by omega) (fun _ => ?_) (fun q => absurd hn (by omega))
  refine z_ge (a := n) (by omega) ?_
  refine hK _ ?_
  refine k_callV (Y' := Y2_forgetAll) (as := []) (st := []) (m2_forgetAll) rfl c2_39 rfl rfl rfl d2_day_32 (Nat.le_of_ble_eq_true rfl) (Nat.le_of_ble_eq_true rfl) rfl rfl ?_
  refine k_go 99 [] T2_day_ok (fun K hK => ?_)
  refine hK _ ?_
  exact k_return d2_day_40 rfl rfl (hX_eq (cF_up' (f := fgF f) rfl) rfl).symm (Nat.le_of_ble_eq_true rfl) (Nat.le_of_ble_eq_true rfl)
theorem m2_unit_bad (h : ¬ (inR x 10000 ∧ inR y 10000 ∧ inR z 10000 ∧ inR w 6)) : k_Met Y2_unit [.ref 0, .int x, .int y, .int z, .int w] (hX f a G B o) (.inr "java/lang/IndexOutOfBoundsException", hX f a G B o, 1, 6) := by
  refine k_intro (by decide +kernel) rfl rfl rfl ?_
  refine k_go 99 [] T2_unit_ok (fun K hK => ?_)
  refine hK _ ?_
  exact k_callVX (Y' := Y2_place) (as := [.ref 1, .int x, .int y, .int z, .int w]) (st := []) (m2_placeU_bad h) rfl c2_58 rfl rfl rfl d2_unit_10 (Nat.le_of_ble_eq_true rfl) (Nat.le_of_ble_eq_true rfl) rfl rfl rfl
theorem m2_unit_full (hf : f 2 < 10000) (h : inR x 10000 ∧ inR y 10000 ∧ inR z 10000 ∧ inR w 6) (h5 : 20 ≤ f 2) : k_Met Y2_unit [.ref 0, .int x, .int y, .int z, .int w] (hX f a G B o) (.inr "java/lang/UnsupportedOperationException", hX f a G B o, 1, 6) := by
  refine k_intro (by decide +kernel) rfl rfl rfl ?_
  refine k_go 99 [] T2_unit_ok (fun K hK => ?_)
  refine hK _ ?_
  exact k_callVX (Y' := Y2_place) (as := [.ref 1, .int x, .int y, .int z, .int w]) (st := []) (m2_placeU_full hf h.1 h.2.1 h.2.2.1 h.2.2.2 h5) rfl c2_58 rfl rfl rfl d2_unit_10 (Nat.le_of_ble_eq_true rfl) (Nat.le_of_ble_eq_true rfl) rfl rfl rfl
theorem m2_unit_ok {xx yy r c : Nat} (h1 : xx < 10000) (h2 : yy < 10000) (h3 : r < 10000) (h4 : c < 6) (h5 : f 2 < 20) : k_Met Y2_unit [.ref 0, .int (nI xx), .int (nI yy), .int (nI r), .int (nI c)] (hX f a G B o) (.inl (some (.int (nI (f 2)))), hX (up1 f 2 (f 2 + 1)) (mvU (up2 a 2 (f 2) r) (f 2) xx yy c) G B o, 0, 0) := by
  refine k_intro (by decide +kernel) rfl rfl rfl ?_
  refine k_go 99 [] T2_unit_ok (fun K hK => ?_)
  refine hK _ ?_
  refine k_callV (Y' := Y2_place) (as := [.ref 1, .int (nI xx), .int (nI yy), .int (nI r), .int (nI c)]) (st := []) (m2_placeU_ok h1 h2 h3 h4 h5) rfl c2_58 rfl rfl rfl d2_unit_10 (Nat.le_of_ble_eq_true rfl) (Nat.le_of_ble_eq_true rfl) rfl rfl ?_
  exact k_ireturn d2_unit_13 rfl rfl rfl rfl (Nat.le_of_ble_eq_true rfl) (Nat.le_of_ble_eq_true rfl)
theorem m2_repeater_bad (h : ¬ (inR x 10000 ∧ inR y 10000 ∧ inR z 10000 ∧ inR w 6)) : k_Met Y2_repeater [.ref 0, .int x, .int y, .int z, .int w] (hX f a G B o) (.inr "java/lang/IndexOutOfBoundsException", hX f a G B o, 1, 6) := by
  refine k_intro (by decide +kernel) rfl rfl rfl ?_
  refine k_go 99 [] T2_repeater_ok (fun K hK => ?_)
  refine hK _ ?_
  exact k_callVX (Y' := Y2_place) (as := [.ref 6, .int x, .int y, .int z, .int w]) (st := []) (m2_placeR_bad h) rfl c2_58 rfl rfl rfl d2_repeater_10 (Nat.le_of_ble_eq_true rfl) (Nat.le_of_ble_eq_true rfl) rfl rfl rfl
theorem m2_repeater_full (hf : f 3 < 10000) (h : inR x 10000 ∧ inR y 10000 ∧ inR z 10000 ∧ inR w 6) (h5 : 8 ≤ f 3) : k_Met Y2_repeater [.ref 0, .int x, .int y, .int z, .int w] (hX f a G B o) (.inr "java/lang/UnsupportedOperationException", hX f a G B o, 1, 6) := by
  refine k_intro (by decide +kernel) rfl rfl rfl ?_
  refine k_go 99 [] T2_repeater_ok (fun K hK => ?_)
  refine hK _ ?_
  exact k_callVX (Y' := Y2_place) (as := [.ref 6, .int x, .int y, .int z, .int w]) (st := []) (m2_placeR_full hf h.1 h.2.1 h.2.2.1 h.2.2.2 h5) rfl c2_58 rfl rfl rfl d2_repeater_10 (Nat.le_of_ble_eq_true rfl) (Nat.le_of_ble_eq_true rfl) rfl rfl rfl
theorem m2_repeater_ok {xx yy r c : Nat} (h1 : xx < 10000) (h2 : yy < 10000) (h3 : r < 10000) (h4 : c < 6) (h5 : f 3 < 8) : k_Met Y2_repeater [.ref 0, .int (nI xx), .int (nI yy), .int (nI r), .int (nI c)] (hX f a G B o) (.inl (some (.int (nI (f 3)))), hX (up1 f 3 (f 3 + 1)) (mvR (up2 a 6 (f 3) r) (f 3) xx yy c) G B o, 0, 0) := by
  refine k_intro (by decide +kernel) rfl rfl rfl ?_
  refine k_go 99 [] T2_repeater_ok (fun K hK => ?_)
  refine hK _ ?_
  refine k_callV (Y' := Y2_place) (as := [.ref 6, .int (nI xx), .int (nI yy), .int (nI r), .int (nI c)]) (st := []) (m2_placeR_ok h1 h2 h3 h4 h5) rfl c2_58 rfl rfl rfl d2_repeater_10 (Nat.le_of_ble_eq_true rfl) (Nat.le_of_ble_eq_true rfl) rfl rfl ?_
  exact k_ireturn d2_repeater_13 rfl rfl rfl rfl (Nat.le_of_ble_eq_true rfl) (Nat.le_of_ble_eq_true rfl)
theorem m2_go_unk (h : ¬ inR x (f 2)) : k_Met Y2_go [.ref 0, .int x, .int y, .int z, .int w] (hX f a G B o) (.inr "java/lang/IllegalArgumentException", hX f a G B o, 1, 6) := by
  refine k_intro (by decide +kernel) rfl rfl rfl ?_
  refine k_go 99 [] T2_go_ok (fun K hK => ?_)
  refine hK _ ?_
  exact k_callVX (Y' := Y2_needUnit) (as := [.int x]) (st := []) (m2_needUnit_bad h) rfl c2_62 rfl rfl rfl d2_go_2 (Nat.le_of_ble_eq_true rfl) (Nat.le_of_ble_eq_true rfl) rfl rfl rfl
theorem m2_go_bad (h : inR x (f 2)) (h2 : ¬ (inR y 10000 ∧ inR z 10000 ∧ inR w 6)) : k_Met Y2_go [.ref 0, .int x, .int y, .int z, .int w] (hX f a G B o) (.inr "java/lang/IndexOutOfBoundsException", hX f a G B o, 1, 6) := by
  refine k_intro (by decide +kernel) rfl rfl rfl ?_
  refine k_go 99 [] T2_go_ok (fun K hK => ?_)
  refine hK _ ?_
  refine k_callV (Y' := Y2_needUnit) (as := [.int x]) (st := []) (m2_needUnit_ok h) rfl c2_62 rfl rfl rfl d2_go_2 (Nat.le_of_ble_eq_true rfl) (Nat.le_of_ble_eq_true rfl) rfl rfl ?_
  refine k_go 99 [] T2_go_ok (fun K hK => ?_)
  refine hK _ ?_
  exact k_callVX (Y' := Y2_needPlace) (as := [.int y, .int z, .int w]) (st := []) (m2_needPlace_bad h2) rfl c2_65 rfl rfl rfl d2_go_10 (Nat.le_of_ble_eq_true rfl) (Nat.le_of_ble_eq_true rfl) rfl rfl rfl
theorem m2_go_ok (h20 : f 2 ≤ 20) {u xx yy c : Nat} (hu : u < f 2) (h1 : xx < 10000) (h2 : yy < 10000) (h4 : c < 6) : k_Met Y2_go [.ref 0, .int (nI u), .int (nI xx), .int (nI yy), .int (nI c)] (hX f a G B o) (.inl none, hX f (mvU a u xx yy c) G B o, 0, 0) := by
  refine k_intro (by decide +kernel) rfl rfl rfl ?_
  refine k_go 99 [] T2_go_ok (fun K hK => ?_)
  refine hK _ ?_
  refine k_callV (Y' := Y2_needUnit) (as := [.int (nI u)]) (st := []) (m2_needUnit_ok (inR_nI hu (by omega))) rfl c2_62 rfl rfl rfl d2_go_2 (Nat.le_of_ble_eq_true rfl) (Nat.le_of_ble_eq_true rfl) rfl rfl ?_
  refine k_go 99 [] T2_go_ok (fun K hK => ?_)
  refine hK _ ?_
  refine k_callV (Y' := Y2_needPlace) (as := [.int (nI xx), .int (nI yy), .int (nI c)]) (st := []) (m2_needPlace_ok (inR_nI h1 (by omega)) (inR_nI h2 (by omega)) (inR_nI h4 (by omega))) rfl c2_65 rfl rfl rfl d2_go_10 (Nat.le_of_ble_eq_true rfl) (Nat.le_of_ble_eq_true rfl) rfl rfl ?_
  refine k_go 99 [] T2_go_ok (fun K hK => ?_)
  refine hK _ ?_
  refine k_callV (Y' := Y1_move) (as := [.int (nI u), .int (nI xx), .int (nI yy), .int (nI c)]) (st := []) (m1_moveU (by omega)) rfl c2_69 rfl rfl rfl d2_go_22 (Nat.le_of_ble_eq_true rfl) (Nat.le_of_ble_eq_true rfl) rfl rfl ?_
  exact k_return d2_go_25 rfl rfl rfl (Nat.le_of_ble_eq_true rfl) (Nat.le_of_ble_eq_true rfl)
theorem m2_patch_bad (h : ¬ (inR x 6 ∧ inR y 6)) : k_Met Y2_patch [.ref 0, .int x, .int y] (hX f a G B o) (.inr "java/lang/IndexOutOfBoundsException", hX f a G B o, 1, 6) := by
  refine k_intro (by decide +kernel) rfl rfl rfl ?_
  refine k_go 99 [] T2_patch_ok (fun K hK => ?_)
  refine hK _ ?_
  refine k_callV (Y' := Y2_isChannel) (as := [.int x]) (st := []) (m2_isChannel) rfl c2_73 rfl rfl rfl d2_patch_2 (Nat.le_of_ble_eq_true rfl) (Nat.le_of_ble_eq_true rfl) rfl rfl ?_
  refine k_go 99 [] T2_patch_ok (fun K hK => ?_)
  refine p_eq (fun _ => ?_) (fun q1 => ?_)
  · refine hK _ ?_
    exact k_throw (E := "java/lang/IndexOutOfBoundsException") (st := []) rfl kt_79 rfl d2_patch_16 d2_patch_19 d2_patch_20 d2_patch_22 d2_patch_25 (by decide) (Nat.le_of_ble_eq_true rfl) rfl rfl (Nat.le_of_ble_eq_true rfl) (Nat.le_of_ble_eq_true rfl)
  · refine hK _ ?_
    refine k_callV (Y' := Y2_isChannel) (as := [.int y]) (st := []) (m2_isChannel) rfl c2_73 rfl rfl rfl d2_patch_10 (Nat.le_of_ble_eq_true rfl) (Nat.le_of_ble_eq_true rfl) rfl rfl ?_
    refine k_go 99 [] T2_patch_ok (fun K hK => ?_)
    refine p_ne (fun q2 => absurd ⟨q1, q2⟩ h) (fun _ => ?_)
    refine hK _ ?_
    exact k_throw (E := "java/lang/IndexOutOfBoundsException") (st := []) rfl kt_79 rfl d2_patch_16 d2_patch_19 d2_patch_20 d2_patch_22 d2_patch_25 (by decide) (Nat.le_of_ble_eq_true rfl) rfl rfl (Nat.le_of_ble_eq_true rfl) (Nat.le_of_ble_eq_true rfl)
theorem m2_patch_no (I : IvA f a) {p q : Nat} (hp : p < 6) (hq : q < 6) (h : a 18 p = a 18 q) : k_Met Y2_patch [.ref 0, .int (nI p), .int (nI q)] (hX f a G B o) (.inl (some (.int 0)), hX f a G B o, 0, 0) := by
  refine k_intro (by decide +kernel) rfl rfl rfl ?_
  refine k_go 99 [] T2_patch_ok (fun K hK => ?_)
  refine hK _ ?_
  refine k_callV (Y' := Y2_isChannel) (as := [.int (nI p)]) (st := []) (m2_isChannel) rfl c2_73 rfl rfl rfl d2_patch_2 (Nat.le_of_ble_eq_true rfl) (Nat.le_of_ble_eq_true rfl) rfl rfl ?_
  refine k_go 99 [] T2_patch_ok (fun K hK => ?_)
  refine p_eq (fun q => absurd (inR_nI hp (by omega)) q) (fun _ => ?_)
  refine hK _ ?_
  refine k_callV (Y' := Y2_isChannel) (as := [.int (nI q)]) (st := []) (m2_isChannel) rfl c2_73 rfl rfl rfl d2_patch_10 (Nat.le_of_ble_eq_true rfl) (Nat.le_of_ble_eq_true rfl) rfl rfl ?_
  refine k_go 99 [] T2_patch_ok (fun K hK => ?_)
  refine p_ne (fun _ => ?_) (fun t => absurd (inR_nI hq (by omega)) t)
  refine hK _ ?_
  refine k_callV (Y' := Y2_areJoined) (as := [.int (nI p), .int (nI q)]) (st := []) (m2_areJoined I.1 hp hq) rfl c2_82 rfl rfl rfl d2_patch_29 (Nat.le_of_ble_eq_true rfl) (Nat.le_of_ble_eq_true rfl) rfl rfl ?_
  refine k_go 99 [] T2_patch_ok (fun K hK => ?_)
  refine p_eq (fun t => absurd h t) (fun _ => ?_)
  refine hK _ ?_
  exact k_ireturn d2_patch_36 rfl rfl rfl rfl (Nat.le_of_ble_eq_true rfl) (Nat.le_of_ble_eq_true rfl)
def joinA (a : Nat → Nat → Nat) (p q : Nat) : Nat → Nat → Nat := rowA a 18 (jnR (a 18) (a 18 p) (a 18 q) 6)
theorem IvA_join (I : IvA f a) (p q : Nat) : IvA f (joinA a p q) := by
  have h18 : ∀ j, joinA a p q 18 j < 6 := fun j => by
    show jnR (a 18) (a 18 p) (a 18 q) 6 j < 6
    unfold jnR
    split
    · exact I.2.2.2.1 p
    · exact I.2.2.2.1 j
  refine ⟨fun k j hk => ?_, I.2.1, I.2.2.1, h18, I.2.2.2.2⟩
  by_cases h : k = 18
  · subst h; have := h18 j; omega
  · unfold joinA rowA; rw [if_neg h]; exact I.1 k j hk
theorem m2_patch_ok (I : IvA f a) {p q : Nat} (hp : p < 6) (hq : q < 6) (h : a 18 p ≠ a 18 q) : k_Met Y2_patch [.ref 0, .int (nI p), .int (nI q)] (hX f a G B o) (.inl (some (.int 1)), hX f (plan0 f (joinA a p q)) G B o, 0, 0) := by
  have h1 := I.1 18 p (by omega)
  have h2 := I.1 18 q (by omega)
  refine k_intro (by decide +kernel) rfl rfl rfl ?_
  refine k_go 99 [] T2_patch_ok (fun K hK => ?_)
  refine hK _ ?_
  refine k_callV (Y' := Y2_isChannel) (as := [.int (nI p)]) (st := []) (m2_isChannel) rfl c2_73 rfl rfl rfl d2_patch_2 (Nat.le_of_ble_eq_true rfl) (Nat.le_of_ble_eq_true rfl) rfl rfl ?_
  refine k_go 99 [] T2_patch_ok (fun K hK => ?_)
  refine p_eq (fun q => absurd (inR_nI hp (by omega)) q) (fun _ => ?_)
  refine hK _ ?_
  refine k_callV (Y' := Y2_isChannel) (as := [.int (nI q)]) (st := []) (m2_isChannel) rfl c2_73 rfl rfl rfl d2_patch_10 (Nat.le_of_ble_eq_true rfl) (Nat.le_of_ble_eq_true rfl) rfl rfl ?_
  refine k_go 99 [] T2_patch_ok (fun K hK => ?_)
  refine p_ne (fun _ => ?_) (fun t => absurd (inR_nI hq (by omega)) t)
  refine hK _ ?_
  refine k_callV (Y' := Y2_areJoined) (as := [.int (nI p), .int (nI q)]) (st := []) (m2_areJoined I.1 hp hq) rfl c2_82 rfl rfl rfl d2_patch_29 (Nat.le_of_ble_eq_true rfl) (Nat.le_of_ble_eq_true rfl) rfl rfl ?_
  refine k_go 99 [] T2_patch_ok (fun K hK => ?_)
  refine p_eq (fun _ => ?_) (fun t => absurd t h)
  refine k_at hp ?_
  refine k_at hq ?_
  refine hK _ ?_
  refine k_callV (Y' := Y2_joinGroups) (as := [.int (nI (a 18 p)), .int (nI (a 18 q))]) (st := []) (m2_joinGroups I.1 h1 h2) rfl c2_86 rfl rfl rfl d2_patch_50 (Nat.le_of_ble_eq_true rfl) (Nat.le_of_ble_eq_true rfl) rfl rfl ?_
  refine k_go 99 [] T2_patch_ok (fun K hK => ?_)
  refine hK _ ?_
  refine k_callV (Y' := Y2_planAll) (as := []) (st := []) (m2_planAll (IvA_join I p q)) rfl c2_90 rfl rfl rfl d2_patch_54 (Nat.le_of_ble_eq_true rfl) (Nat.le_of_ble_eq_true rfl) rfl rfl ?_
  refine k_go 99 [] T2_patch_ok (fun K hK => ?_)
  refine hK _ ?_
  exact k_ireturn d2_patch_58 rfl rfl rfl rfl (Nat.le_of_ble_eq_true rfl) (Nat.le_of_ble_eq_true rfl)
theorem m2_limit_bad (h : ¬ inR x 1001) : k_Met Y2_limit [.ref 0, .int x] (hX f a G B o) (.inr "java/lang/IndexOutOfBoundsException", hX f a G B o, 1, 6) := by
  refine k_intro (by decide +kernel) rfl rfl rfl ?_
  refine k_go 99 [] T2_limit_ok (fun K hK => ?_)
  refine And.intro (fun _ => ?_) (fun q1 => ?_)
  · refine hK _ ?_
    exact k_throw (E := "java/lang/IndexOutOfBoundsException") (st := []) rfl kt_93 rfl d2_limit_11 d2_limit_14 d2_limit_15 d2_limit_17 d2_limit_20 (by decide) (Nat.le_of_ble_eq_true rfl) rfl rfl (Nat.le_of_ble_eq_true rfl) (Nat.le_of_ble_eq_true rfl)
  · refine And.intro (fun q2 => absurd ⟨q1, (le_suc (n := 1000) (by omega)).mp q2⟩ h) (fun _ => ?_)
    refine hK _ ?_
    exact k_throw (E := "java/lang/IndexOutOfBoundsException") (st := []) rfl kt_93 rfl d2_limit_11 d2_limit_14 d2_limit_15 d2_limit_17 d2_limit_20 (by decide) (Nat.le_of_ble_eq_true rfl) rfl rfl (Nat.le_of_ble_eq_true rfl) (Nat.le_of_ble_eq_true rfl)
theorem IvA_lim (I : IvA f a) {n : Nat} (hn : n ≤ 1000) : IvA (up1 f 1 n) a := ⟨I.1, I.2.1, I.2.2.1, I.2.2.2.1, I.2.2.2.2.1, I.2.2.2.2.2.1, I.2.2.2.2.2.2.1, I.2.2.2.2.2.2.2.1, hn, I.2.2.2.2.2.2.2.2.2⟩
theorem m2_limit_ok (I : IvA f a) {n : Nat} (hn : n ≤ 1000) : k_Met Y2_limit [.ref 0, .int (nI n)] (hX f a G B o) (.inl none, hX (up1 f 1 n) (plan0 (up1 f 1 n) a) G B o, 0, 0) := by
  refine k_intro (by decide +kernel) rfl rfl rfl ?_
  refine k_go 99 [] T2_limit_ok (fun K hK => ?_)
  refine z_lt (a := n) (by omega) ?_
  refine b_le (a := n) (b := 1000) (by omega) (by omega) (fun _ => ?_) (fun q => absurd hn (by omega))
  refine hK _ ?_
  refine k_heq (hX_eq (cF_up' (f := f) (k := 1) (v := n) rfl) rfl) ?_
  refine k_callV (Y' := Y2_planAll) (as := []) (st := []) (m2_planAll (IvA_lim I hn)) rfl c2_90 rfl rfl rfl d2_limit_27 (Nat.le_of_ble_eq_true rfl) (Nat.le_of_ble_eq_true rfl) rfl rfl ?_
  exact k_return d2_limit_30 rfl rfl rfl (Nat.le_of_ble_eq_true rfl) (Nat.le_of_ble_eq_true rfl)
theorem m2_lose_bad (h : ¬ inR x (f 0)) : k_Met Y2_lose [.ref 0, .int x] (hX f a G B o) (.inr "java/lang/ArrayIndexOutOfBoundsException", hX f a G B o, 1, 6) := by
  refine k_intro (by decide +kernel) rfl rfl rfl ?_
  refine k_go 99 [] T2_lose_ok (fun K hK => ?_)
  refine hK _ ?_
  exact k_callVX (Y' := Y2_needSlot) (as := [.int x]) (st := []) (m2_needSlot_bad h) rfl c2_130 rfl rfl rfl d2_lose_2 (Nat.le_of_ble_eq_true rfl) (Nat.le_of_ble_eq_true rfl) rfl rfl rfl
theorem m2_lose_ok (I : IvA f a) {s : Nat} (hs : s < f 0) : k_Met Y2_lose [.ref 0, .int (nI s)] (hX f a G B o) (.inl (some (.int (nI (1 - a 17 s)))), hX f (up2 a 17 s (1 - a 17 s)) G B o, 0, 0) := by
  have h0 := I.2.2.2.2.2.2.2.1
  have h17 := I.2.2.2.2.2.2.2.2.2.2.2.2.2.2.2.2 s
  refine k_intro (by decide +kernel) rfl rfl rfl ?_
  refine k_go 99 [] T2_lose_ok (fun K hK => ?_)
  refine hK _ ?_
  refine k_callV (Y' := Y2_needSlot) (as := [.int (nI s)]) (st := []) (m2_needSlot_ok (inR_nI hs (by omega))) rfl c2_130 rfl rfl rfl d2_lose_2 (Nat.le_of_ble_eq_true rfl) (Nat.le_of_ble_eq_true rfl) rfl rfl ?_
  refine k_go 99 [] T2_lose_ok (fun K hK => ?_)
  refine k_at (j := s) (by omega) ?_
  refine z_ne (a := a 17 s) (by omega) (fun h => ?_) (fun h => ?_)
  · have e : 1 - a 17 s = 0 := by omega
    rw [e] at hK
    refine And.intro (Or.inl rfl) ?_
    refine k_at (j := s) (by omega) ?_
    refine k_at (j := s) (by omega) ?_
    refine hK _ ?_
    refine k_heq (hX_eq rfl (cA_up a 17 s 0)) ?_
    have e2 : (upd (cA a 17) s (nI 0)) s = nI 0 := by unfold upd; rw [if_pos rfl]
    refine k_vs (v' := .int (nI 0)) (congrArg Value.int e2) ?_
    exact k_ireturn d2_lose_31 rfl rfl rfl rfl (Nat.le_of_ble_eq_true rfl) (Nat.le_of_ble_eq_true rfl)
  · have e : 1 - a 17 s = 1 := by omega
    rw [e] at hK
    refine And.intro (Or.inr rfl) ?_
    refine k_at (j := s) (by omega) ?_
    refine k_at (j := s) (by omega) ?_
    refine hK _ ?_
    refine k_heq (hX_eq rfl (cA_up a 17 s 1)) ?_
    have e2 : (upd (cA a 17) s (nI 1)) s = nI 1 := by unfold upd; rw [if_pos rfl]
    refine k_vs (v' := .int (nI 1)) (congrArg Value.int e2) ?_
    exact k_ireturn d2_lose_31 rfl rfl rfl rfl (Nat.le_of_ble_eq_true rfl) (Nat.le_of_ble_eq_true rfl)
end PB
end
section
def fnd (P : Nat → Bool) : Nat → Nat → Nat
  | 0, _ => NONE
  | n + 1, i => if P i = true then i else fnd P n (i + 1)
def exB (P : Nat → Bool) : Nat → Nat → Bool
  | 0, _ => false
  | n + 1, i => P i || exB P n (i + 1)
def msP (a : Nat → Nat → Nat) (c s m : Nat) : Bool := decide (onP a m s) && decide (a 18 c = a 18 (a 9 m))
def msOn (f : Nat → Nat) (a : Nat → Nat → Nat) (c s : Nat) : Nat := fnd (msP a c s) (f 4) 0
def lsB (a : Nat → Nat → Nat) (u m : Nat) : Bool := decide (u ≠ a 8 m) && decide (a 18 (a 3 u) = a 18 (a 9 m))
def rpP (a : Nat → Nat → Nat) (u m r : Nat) : Bool := decide (a 18 (a 7 r) = a 18 (a 9 m)) && decide (nearI (a 0 (a 8 m)) (a 1 (a 8 m)) (a 4 r) (a 5 r) (a 2 (a 8 m))) && decide (nearI (a 4 r) (a 5 r) (a 0 u) (a 1 u) (a 6 r))
def rpB (f : Nat → Nat) (a : Nat → Nat → Nat) (u m : Nat) : Bool := exB (rpP a u m) (f 3) 0
def rcB (f : Nat → Nat) (a : Nat → Nat → Nat) (u m : Nat) : Bool := lsB a u m && (decide (nearI (a 0 (a 8 m)) (a 1 (a 8 m)) (a 0 u) (a 1 u) (a 2 (a 8 m))) || rpB f a u m)
def nzB (f : Nat → Nat) (a : Nat → Nat → Nat) (m : Nat) : Bool := exB (fun s => decide (a 17 s ≠ 0)) (min (a 13 m + a 14 m) (f 0) - a 13 m) (a 13 m)
def haB (f : Nat → Nat) (a : Nat → Nat → Nat) (u m : Nat) : Bool := decide (0 < a 14 m) && rcB f a u m && !nzB f a m
def mdB (f : Nat → Nat) (a : Nat → Nat → Nat) (u m : Nat) : Bool := lsB a u m && !haB f a u m
def nth (P : Nat → Bool) (i : Nat) : Nat → Nat → Nat → Nat
  | 0, _, _ => NONE
  | n + 1, u, b => if P u = true then (if b = i then u else nth P i n (u + 1) (b + 1)) else nth P i n (u + 1) b
def usS (a : Nat → Nat → Nat) (c x y : Nat) : Nat → Nat → Nat → Nat
  | 0, _, t => t
  | n + 1, m, t => usS a c x y n (m + 1) (if a 18 c = a 18 (a 9 m) then t + (min y (a 13 m + a 14 m) - max x (a 13 m)) else t)
theorem rbB {h : List k_O} {mc ms : Nat} {r b : Bool} (e : r = b) : ((.inl (some (.int (bB r))), h, mc, ms) : k_G).1 = .inl (some (.int (bB b))) := by rw [e]
theorem rnN {h : List k_O} {mc ms : Nat} {r b : Nat} (e : r = b) : ((.inl (some (.int (nI r))), h, mc, ms) : k_G).1 = .inl (some (.int (nI b))) := by rw [e]
theorem rn1 {h : List k_O} {mc ms : Nat} {r : Nat} (e : r = NONE) : ((.inl (some (.int (nI r))), h, mc, ms) : k_G).1 = .inl (some (.int (-1))) := by rw [e, neg1]
section QY
variable {f : Nat → Nat} {a : Nat → Nat → Nat} {G : Nat → Int32} {B : Nat → Nat → Int32} {o : Nat → Int64} {x y z w : Int32}
theorem m2_messageOn_loop (I : IvA f a) {c s : Nat} (hc : c < 6) (hs : s < 10000) : ∀ (n i : Nat), f 4 - i = n → i ≤ f 4 → ∀ (r : Nat), r = fnd (msP a c s) n i →
    k_W Y2_messageOn none (.inl (some (.int (nI r))), hX f a G B o, 0, 0) (2, [(3, .int (nI i)), (0, .ref 0), (1, .int (nI c)), (2, .int (nI s))], [], hX f a G B o, 0, 0) := by
  have h4 := I.2.2.2.2.2.2.2.2.2.1
  intro n
  induction n with
  | zero =>
    intro i hn hi r hr
    refine k_go 99 [2] T2_messageOn_ok (fun K hK => ?_)
    refine b_ge (a := i) (b := f 4) (by omega) (by omega) (fun h => ?_) (fun h => absurd h (by omega))
    refine hK _ ?_
    exact k_ireturn d2_messageOn_51 rfl rfl (rn1 hr) rfl (Nat.le_of_ble_eq_true rfl) (Nat.le_of_ble_eq_true rfl)
  | succ n ih =>
    intro i hn hi r hr
    have hr2 : r = if msP a c s i = true then i else fnd (msP a c s) n (i + 1) := hr
    refine k_go 99 [2] T2_messageOn_ok (fun K hK => ?_)
    refine b_ge (a := i) (b := f 4) (by omega) (by omega) (fun h => absurd h (by omega)) (fun h => ?_)
    refine hK _ ?_
    refine k_callV (Y' := Y0_isOn) (as := [.int (nI i), .int (nI s)]) (st := []) (m0_isOn I.1 (by omega) hs) rfl c2_235 rfl rfl rfl d2_messageOn_19 (Nat.le_of_ble_eq_true rfl) (Nat.le_of_ble_eq_true rfl) rfl rfl ?_
    refine k_go 99 [2] T2_messageOn_ok (fun K hK => ?_)
    refine p_eq (fun h1 => ?_) (fun h1 => ?_)
    · rw [if_neg (by simp [msP, h1])] at hr2
      refine k_eq (z := nI (i + 1)) (nI_add i 1) ?_
      refine hK _ ?_
      exact ih (i + 1) (by omega) (by omega) r hr2
    · refine k_at (j := i) (by omega) ?_
      refine hK _ ?_
      refine k_callV (Y' := Y2_areJoined) (as := [.int (nI c), .int (nI (a 9 i))]) (st := []) (m2_areJoined I.1 hc (I.2.2.1 i)) rfl c2_82 rfl rfl rfl d2_messageOn_36 (Nat.le_of_ble_eq_true rfl) (Nat.le_of_ble_eq_true rfl) rfl rfl ?_
      refine k_go 99 [2] T2_messageOn_ok (fun K hK => ?_)
      refine p_eq (fun h2 => ?_) (fun h2 => ?_)
      · rw [if_neg (by simp [msP, h2])] at hr2
        refine k_eq (z := nI (i + 1)) (nI_add i 1) ?_
        refine hK _ ?_
        exact ih (i + 1) (by omega) (by omega) r hr2
      · rw [if_pos (by simp only [msP, decide_eq_true h1, decide_eq_true h2, Bool.and_self])] at hr2
        refine hK _ ?_
        exact k_ireturn d2_messageOn_43 rfl rfl (rnN hr2) rfl (Nat.le_of_ble_eq_true rfl) (Nat.le_of_ble_eq_true rfl)
theorem m2_messageOn (I : IvA f a) {c s : Nat} (hc : c < 6) (hs : s < 10000) : k_Met Y2_messageOn [.ref 0, .int (nI c), .int (nI s)] (hX f a G B o) (.inl (some (.int (nI (msOn f a c s)))), hX f a G B o, 0, 0) := by
  refine k_intro (by decide +kernel) rfl rfl rfl ?_
  refine k_go 99 [2] T2_messageOn_ok (fun K hK => ?_)
  refine hK _ ?_
  exact m2_messageOn_loop I hc hs (f 4) 0 (by omega) (by omega) _ rfl
theorem m2_listensTo (I : IvA f a) {u m : Nat} (hu : u < 20) (hm : m < 60) : k_Met Y2_listensTo [.ref 0, .int (nI u), .int (nI m)] (hX f a G B o) (.inl (some (.int (bB (lsB a u m)))), hX f a G B o, 0, 0) := by
  have h8 := I.2.2.2.2.2.2.2.2.2.2.1 m
  refine k_intro (by decide +kernel) rfl rfl rfl ?_
  refine k_go 99 [] T2_listensTo_ok (fun K hK => ?_)
  refine k_at hm ?_
  refine b_eq (a := u) (b := a 8 m) (by omega) (by omega) (fun h => ?_) (fun h => ?_)
  · refine hK _ ?_
    exact k_ireturn d2_listensTo_43 rfl rfl (rbB (b := false) (by simp [lsB, h])) rfl (Nat.le_of_ble_eq_true rfl) (Nat.le_of_ble_eq_true rfl)
  · refine k_at (j := u) hu ?_
    refine k_at hm ?_
    refine hK _ ?_
    refine k_callV (Y' := Y2_areJoined) (as := [.int (nI (a 3 u)), .int (nI (a 9 m))]) (st := []) (m2_areJoined I.1 (I.2.2.2.2.2.2.2.2.2.2.2.2.2.2.1 u) (I.2.2.1 m)) rfl c2_82 rfl rfl rfl d2_listensTo_32 (Nat.le_of_ble_eq_true rfl) (Nat.le_of_ble_eq_true rfl) rfl rfl ?_
    refine k_go 99 [] T2_listensTo_ok (fun K hK => ?_)
    refine p_eq (fun h2 => ?_) (fun h2 => ?_)
    · refine hK _ ?_
      exact k_ireturn d2_listensTo_43 rfl rfl (rbB (b := false) (by simp [lsB, h2])) rfl (Nat.le_of_ble_eq_true rfl) (Nat.le_of_ble_eq_true rfl)
    · refine hK _ ?_
      exact k_ireturn d2_listensTo_43 rfl rfl (rbB (b := true) (by simp only [lsB, decide_eq_true h, decide_eq_true h2, Bool.and_self])) rfl (Nat.le_of_ble_eq_true rfl) (Nat.le_of_ble_eq_true rfl)
theorem m2_byRep_loop (I : IvA f a) {u m : Nat} (hu : u < 20) (hm : m < 60) : ∀ (n i : Nat), f 3 - i = n → i ≤ f 3 → ∀ (r : Bool), r = exB (rpP a u m) n i →
    k_W Y2_receivesByRepeater none (.inl (some (.int (bB r))), hX f a G B o, 0, 0) (13, [(4, .int (nI i)), (3, .int (nI (a 8 m))), (0, .ref 0), (1, .int (nI u)), (2, .int (nI m))], [], hX f a G B o, 0, 0) := by
  have h3 := I.2.2.2.2.2.2.2.2.2.2.2.2.2.1
  have h8 := I.2.2.2.2.2.2.2.2.2.2.1 m
  intro n
  induction n with
  | zero =>
    intro i hn hi r hr
    refine k_go 99 [13] T2_receivesByRepeater_ok (fun K hK => ?_)
    refine b_ge (a := i) (b := f 3) (by omega) (by omega) (fun h => ?_) (fun h => absurd h (by omega))
    refine hK _ ?_
    exact k_ireturn d2_receivesByRepeater_94 rfl rfl (rbB (b := false) hr) rfl (Nat.le_of_ble_eq_true rfl) (Nat.le_of_ble_eq_true rfl)
  | succ n ih =>
    intro i hn hi r hr
    have hr2 : r = (rpP a u m i || exB (rpP a u m) n (i + 1)) := hr
    have next : rpP a u m i = false → k_W Y2_receivesByRepeater none (.inl (some (.int (bB r))), hX f a G B o, 0, 0) (87, [(4, .int (nI i)), (3, .int (nI (a 8 m))), (0, .ref 0), (1, .int (nI u)), (2, .int (nI m))], [], hX f a G B o, 0, 0) := by
      intro e
      rw [e, Bool.false_or] at hr2
      refine k_go 99 [13] T2_receivesByRepeater_ok (fun K hK => ?_)
      refine k_eq (z := nI (i + 1)) (nI_add i 1) ?_
      refine hK _ ?_
      exact ih (i + 1) (by omega) (by omega) r hr2
    refine k_go 99 [13, 87] T2_receivesByRepeater_ok (fun K hK => ?_)
    refine b_ge (a := i) (b := f 3) (by omega) (by omega) (fun h => absurd h (by omega)) (fun h => ?_)
    refine k_at (j := i) (by omega) ?_
    refine k_at hm ?_
    refine hK _ ?_
    refine k_callV (Y' := Y2_areJoined) (as := [.int (nI (a 7 i)), .int (nI (a 9 m))]) (st := []) (m2_areJoined I.1 (I.2.2.2.2.2.2.2.2.2.2.2.2.2.2.2.1 i) (I.2.2.1 m)) rfl c2_82 rfl rfl rfl d2_receivesByRepeater_45 (Nat.le_of_ble_eq_true rfl) (Nat.le_of_ble_eq_true rfl) rfl rfl ?_
    refine k_go 99 [13, 87] T2_receivesByRepeater_ok (fun K hK => ?_)
    refine p_eq (fun h1 => ?_) (fun h1 => ?_)
    · refine hK _ ?_
      exact next (by simp [rpP, h1])
    · refine hK _ ?_
      refine k_callV (Y' := Y1_reaches) (as := [.int (nI (a 8 m)), .ref 6, .int (nI i)]) (st := []) (m1_reachesUR h8 (by omega)) rfl c2_267 rfl rfl rfl d2_receivesByRepeater_62 (Nat.le_of_ble_eq_true rfl) (Nat.le_of_ble_eq_true rfl) rfl rfl ?_
      refine k_go 99 [13, 87] T2_receivesByRepeater_ok (fun K hK => ?_)
      refine p_eq (fun h2 => ?_) (fun h2 => ?_)
      · refine hK _ ?_
        exact next (by unfold rpP; rw [decide_eq_false h2]; simp)
      · refine hK _ ?_
        refine k_callV (Y' := Y1_reaches) (as := [.int (nI i), .ref 1, .int (nI u)]) (st := []) (m1_reachesRU (by omega) hu) rfl c2_267 rfl rfl rfl d2_receivesByRepeater_79 (Nat.le_of_ble_eq_true rfl) (Nat.le_of_ble_eq_true rfl) rfl rfl ?_
        refine k_go 99 [13, 87] T2_receivesByRepeater_ok (fun K hK => ?_)
        refine p_eq (fun h5 => ?_) (fun h5 => ?_)
        · refine hK _ ?_
          exact next (by unfold rpP; rw [decide_eq_false h5]; simp)
        · refine hK _ ?_
          have e : rpP a u m i = true := by unfold rpP; rw [decide_eq_true h1, decide_eq_true h2, decide_eq_true h5]; rfl
          rw [e, Bool.true_or] at hr2
          exact k_ireturn d2_receivesByRepeater_86 rfl rfl (rbB (b := true) hr2) rfl (Nat.le_of_ble_eq_true rfl) (Nat.le_of_ble_eq_true rfl)
theorem m2_byRep (I : IvA f a) {u m : Nat} (hu : u < 20) (hm : m < 60) : k_Met Y2_receivesByRepeater [.ref 0, .int (nI u), .int (nI m)] (hX f a G B o) (.inl (some (.int (bB (rpB f a u m)))), hX f a G B o, 0, 0) := by
  refine k_intro (by decide +kernel) rfl rfl rfl ?_
  refine k_go 99 [13] T2_receivesByRepeater_ok (fun K hK => ?_)
  refine k_at hm ?_
  refine hK _ ?_
  exact m2_byRep_loop I hu hm (f 3) 0 (by omega) (by omega) _ rfl
theorem m2_receives (I : IvA f a) {u m : Nat} (hu : u < 20) (hm : m < 60) : k_Met Y2_receives [.ref 0, .int (nI u), .int (nI m)] (hX f a G B o) (.inl (some (.int (bB (rcB f a u m)))), hX f a G B o, 0, 0) := by
  have h8 := I.2.2.2.2.2.2.2.2.2.2.1 m
  refine k_intro (by decide +kernel) rfl rfl rfl ?_
  refine k_go 99 [] T2_receives_ok (fun K hK => ?_)
  refine hK _ ?_
  refine k_callV (Y' := Y2_listensTo) (as := [.int (nI u), .int (nI m)]) (st := []) (m2_listensTo I hu hm) rfl c2_264 rfl rfl rfl d2_receives_3 (Nat.le_of_ble_eq_true rfl) (Nat.le_of_ble_eq_true rfl) rfl rfl ?_
  refine k_go 99 [] T2_receives_ok (fun K hK => ?_)
  refine q_eq (fun h1 => ?_) (fun h1 => ?_)
  · refine hK _ ?_
    exact k_ireturn d2_receives_47 rfl rfl (rbB (b := false) (by unfold rcB; rw [h1]; rfl)) rfl (Nat.le_of_ble_eq_true rfl) (Nat.le_of_ble_eq_true rfl)
  · refine k_at hm ?_
    refine hK _ ?_
    refine k_callV (Y' := Y1_reaches) (as := [.int (nI (a 8 m)), .ref 1, .int (nI u)]) (st := []) (m1_reachesUU h8 hu) rfl c2_267 rfl rfl rfl d2_receives_27 (Nat.le_of_ble_eq_true rfl) (Nat.le_of_ble_eq_true rfl) rfl rfl ?_
    refine k_go 99 [] T2_receives_ok (fun K hK => ?_)
    refine p_ne (fun h2 => ?_) (fun h2 => ?_)
    · refine hK _ ?_
      exact k_ireturn d2_receives_47 rfl rfl (rbB (b := true) (by unfold rcB; rw [h1, decide_eq_true h2]; rfl)) rfl (Nat.le_of_ble_eq_true rfl) (Nat.le_of_ble_eq_true rfl)
    · refine hK _ ?_
      refine k_callV (Y' := Y2_receivesByRepeater) (as := [.int (nI u), .int (nI m)]) (st := []) (m2_byRep I hu hm) rfl c2_271 rfl rfl rfl d2_receives_36 (Nat.le_of_ble_eq_true rfl) (Nat.le_of_ble_eq_true rfl) rfl rfl ?_
      refine k_go 99 [] T2_receives_ok (fun K hK => ?_)
      refine q_eq (fun h5 => ?_) (fun h5 => ?_)
      · refine hK _ ?_
        exact k_ireturn d2_receives_47 rfl rfl (rbB (b := false) (by unfold rcB; rw [h1, decide_eq_false h2, h5]; rfl)) rfl (Nat.le_of_ble_eq_true rfl) (Nat.le_of_ble_eq_true rfl)
      · refine hK _ ?_
        exact k_ireturn d2_receives_47 rfl rfl (rbB (b := true) (by unfold rcB; rw [h1, decide_eq_false h2, h5]; rfl)) rfl (Nat.le_of_ble_eq_true rfl) (Nat.le_of_ble_eq_true rfl)
theorem m2_hasNoise_loop (I : IvA f a) {m v b : Nat} (hb : b ≤ 1000) : ∀ (n i : Nat), b - i = n → ∀ (r : Bool), r = exB (fun s => decide (a 17 s ≠ 0)) n i → i < 10000 →
    k_W Y2_hasNoise none (.inl (some (.int (bB r))), hX f a G B o, 0, 0) (32, [(4, .int (nI i)), (3, .int (nI b)), (2, .int (nI v)), (0, .ref 0), (1, .int (nI m))], [], hX f a G B o, 0, 0) := by
  intro n
  induction n with
  | zero =>
    intro i hn r hr hi
    refine k_go 99 [32] T2_hasNoise_ok (fun K hK => ?_)
    refine b_ge (a := i) (b := b) (by omega) (by omega) (fun h => ?_) (fun h => absurd h (by omega))
    refine hK _ ?_
    exact k_ireturn d2_hasNoise_57 rfl rfl (rbB (b := false) hr) rfl (Nat.le_of_ble_eq_true rfl) (Nat.le_of_ble_eq_true rfl)
  | succ n ih =>
    intro i hn r hr hi
    have h17 := I.2.2.2.2.2.2.2.2.2.2.2.2.2.2.2.2 i
    have hr2 : r = (decide (a 17 i ≠ 0) || exB (fun s => decide (a 17 s ≠ 0)) n (i + 1)) := hr
    refine k_go 99 [32] T2_hasNoise_ok (fun K hK => ?_)
    refine b_ge (a := i) (b := b) (by omega) (by omega) (fun h => absurd h (by omega)) (fun h => ?_)
    refine k_at (j := i) (by omega) ?_
    refine z_eq (a := a 17 i) (by omega) (fun h1 => ?_) (fun h1 => ?_)
    · rw [decide_eq_false (by omega), Bool.false_or] at hr2
      refine k_eq (z := nI (i + 1)) (nI_add i 1) ?_
      refine hK _ ?_
      exact ih (i + 1) (by omega) r hr2 (by omega)
    · rw [decide_eq_true (by omega), Bool.true_or] at hr2
      refine hK _ ?_
      exact k_ireturn d2_hasNoise_49 rfl rfl (rbB (b := true) hr2) rfl (Nat.le_of_ble_eq_true rfl) (Nat.le_of_ble_eq_true rfl)
theorem m2_hasNoise (I : IvA f a) {m : Nat} (hm : m < 60) : k_Met Y2_hasNoise [.ref 0, .int (nI m)] (hX f a G B o) (.inl (some (.int (bB (nzB f a m)))), hX f a G B o, 0, 0) := by
  have h0 := I.2.2.2.2.2.2.2.1
  have h13 := I.1 13 m (by omega)
  have h14 := I.1 14 m (by omega)
  refine k_intro (by decide +kernel) rfl rfl rfl ?_
  refine k_go 99 [] T2_hasNoise_ok (fun K hK => ?_)
  refine k_at hm ?_
  refine k_at hm ?_
  refine k_eq (z := nI (a 13 m + a 14 m)) (nI_add _ _) ?_
  refine hK _ ?_
  refine k_mmin (x := nI (a 13 m + a 14 m)) (y := nI (f 0)) (z := nI (min (a 13 m + a 14 m) (f 0))) c2_280m (mnN (by omega) (by omega)) d2_hasNoise_25 rfl rfl (Nat.le_refl _) (Nat.le_refl _) ?_
  refine k_go 99 [32] T2_hasNoise_ok (fun K hK => ?_)
  refine hK _ ?_
  exact m2_hasNoise_loop I (by omega) _ (a 13 m) rfl _ rfl h13
theorem m2_heard (I : IvA f a) {u m : Nat} (hu : u < 20) (hm : m < 60) : k_Met Y2_heardAllSlots [.ref 0, .int (nI u), .int (nI m)] (hX f a G B o) (.inl (some (.int (bB (haB f a u m)))), hX f a G B o, 0, 0) := by
  have h14 := I.1 14 m (by omega)
  refine k_intro (by decide +kernel) rfl rfl rfl ?_
  refine k_go 99 [] T2_heardAllSlots_ok (fun K hK => ?_)
  refine k_at hm ?_
  refine z_le (a := a 14 m) (by omega) (fun h1 => ?_) (fun h1 => ?_)
  · refine hK _ ?_
    exact k_ireturn d2_heardAllSlots_34 rfl rfl (rbB (b := false) (by unfold haB; rw [decide_eq_false (by omega)]; rfl)) rfl (Nat.le_of_ble_eq_true rfl) (Nat.le_of_ble_eq_true rfl)
  · refine hK _ ?_
    refine k_callV (Y' := Y2_receives) (as := [.int (nI u), .int (nI m)]) (st := []) (m2_receives I hu hm) rfl c2_140 rfl rfl rfl d2_heardAllSlots_15 (Nat.le_of_ble_eq_true rfl) (Nat.le_of_ble_eq_true rfl) rfl rfl ?_
    refine k_go 99 [] T2_heardAllSlots_ok (fun K hK => ?_)
    refine q_eq (fun h2 => ?_) (fun h2 => ?_)
    · refine hK _ ?_
      exact k_ireturn d2_heardAllSlots_34 rfl rfl (rbB (b := false) (by unfold haB; rw [h2, decide_eq_true h1]; rfl)) rfl (Nat.le_of_ble_eq_true rfl) (Nat.le_of_ble_eq_true rfl)
    · refine hK _ ?_
      refine k_callV (Y' := Y2_hasNoise) (as := [.int (nI m)]) (st := []) (m2_hasNoise I hm) rfl c2_274 rfl rfl rfl d2_heardAllSlots_23 (Nat.le_of_ble_eq_true rfl) (Nat.le_of_ble_eq_true rfl) rfl rfl ?_
      refine k_go 99 [] T2_heardAllSlots_ok (fun K hK => ?_)
      refine q_ne (fun h5 => ?_) (fun h5 => ?_)
      · refine hK _ ?_
        exact k_ireturn d2_heardAllSlots_34 rfl rfl (rbB (b := false) (by unfold haB; rw [h2, h5, decide_eq_true h1]; rfl)) rfl (Nat.le_of_ble_eq_true rfl) (Nat.le_of_ble_eq_true rfl)
      · refine hK _ ?_
        exact k_ireturn d2_heardAllSlots_34 rfl rfl (rbB (b := true) (by unfold haB; rw [h2, h5, decide_eq_true h1]; rfl)) rfl (Nat.le_of_ble_eq_true rfl) (Nat.le_of_ble_eq_true rfl)
theorem m2_missed (I : IvA f a) {u m : Nat} (hu : u < 20) (hm : m < 60) : k_Met Y2_missed [.ref 0, .int (nI u), .int (nI m)] (hX f a G B o) (.inl (some (.int (bB (mdB f a u m)))), hX f a G B o, 0, 0) := by
  refine k_intro (by decide +kernel) rfl rfl rfl ?_
  refine k_go 99 [] T2_missed_ok (fun K hK => ?_)
  refine hK _ ?_
  refine k_callV (Y' := Y2_listensTo) (as := [.int (nI u), .int (nI m)]) (st := []) (m2_listensTo I hu hm) rfl c2_264 rfl rfl rfl d2_missed_3 (Nat.le_of_ble_eq_true rfl) (Nat.le_of_ble_eq_true rfl) rfl rfl ?_
  refine k_go 99 [] T2_missed_ok (fun K hK => ?_)
  refine q_eq (fun h1 => ?_) (fun h1 => ?_)
  · refine hK _ ?_
    exact k_ireturn d2_missed_23 rfl rfl (rbB (b := false) (by unfold mdB; rw [h1]; rfl)) rfl (Nat.le_of_ble_eq_true rfl) (Nat.le_of_ble_eq_true rfl)
  · refine hK _ ?_
    refine k_callV (Y' := Y2_heardAllSlots) (as := [.int (nI u), .int (nI m)]) (st := []) (m2_heard I hu hm) rfl c2_119 rfl rfl rfl d2_missed_12 (Nat.le_of_ble_eq_true rfl) (Nat.le_of_ble_eq_true rfl) rfl rfl ?_
    refine k_go 99 [] T2_missed_ok (fun K hK => ?_)
    refine q_ne (fun h2 => ?_) (fun h2 => ?_)
    · refine hK _ ?_
      exact k_ireturn d2_missed_23 rfl rfl (rbB (b := false) (by unfold mdB; rw [h1, h2]; rfl)) rfl (Nat.le_of_ble_eq_true rfl) (Nat.le_of_ble_eq_true rfl)
    · refine hK _ ?_
      exact k_ireturn d2_missed_23 rfl rfl (rbB (b := true) (by unfold mdB; rw [h1, h2]; rfl)) rfl (Nat.le_of_ble_eq_true rfl) (Nat.le_of_ble_eq_true rfl)
end QY
end
section
section QP
variable {f : Nat → Nat} {a : Nat → Nat → Nat} {G : Nat → Int32} {B : Nat → Nat → Int32} {o : Nat → Int64} {x y z w : Int32}
theorem fnd_lt {P : Nat → Bool} : ∀ (n i : Nat), fnd P n i = NONE ∨ (i ≤ fnd P n i ∧ fnd P n i < i + n ∧ P (fnd P n i) = true) := by
  intro n
  induction n with
  | zero => intro i; exact Or.inl rfl
  | succ n ih =>
    intro i
    unfold fnd
    split
    · next h => exact Or.inr ⟨Nat.le_refl _, by omega, h⟩
    · rcases ih (i + 1) with h | ⟨h1, h2, h3⟩
      · exact Or.inl h
      · exact Or.inr ⟨by omega, by omega, h3⟩
theorem msOn_or (f : Nat → Nat) (a : Nat → Nat → Nat) (c s : Nat) : msOn f a c s = NONE ∨ (msOn f a c s < f 4 ∧ onP a (msOn f a c s) s) := by
  rcases fnd_lt (P := msP a c s) (f 4) 0 with h | ⟨h1, h2, h3⟩
  · exact Or.inl h
  · refine Or.inr ⟨by unfold msOn; omega, ?_⟩
    have h4 : msP a c s (msOn f a c s) = true := h3
    unfold msP at h4
    simp only [Bool.and_eq_true, decide_eq_true_eq] at h4
    exact h4.1
theorem m2_ended_bad (h : ¬ inR x (f 4)) : k_Met Y2_ended [.ref 0, .int x] (hX f a G B o) (.inr "java/lang/IllegalArgumentException", hX f a G B o, 1, 6) := by
  refine k_intro (by decide +kernel) rfl rfl rfl ?_
  refine k_go 99 [] T2_ended_ok (fun K hK => ?_)
  refine hK _ ?_
  exact k_callVX (Y' := Y2_needMessage) (as := [.int x]) (st := []) (m2_needMessage_bad h) rfl c2_113 rfl rfl rfl d2_ended_2 (Nat.le_of_ble_eq_true rfl) (Nat.le_of_ble_eq_true rfl) rfl rfl rfl
theorem m2_ended_ok (I : IvA f a) {m : Nat} (h : m < f 4) : k_Met Y2_ended [.ref 0, .int (nI m)] (hX f a G B o) (.inl (some (.int (nI (a 15 m)))), hX f a G B o, 0, 0) := by
  have h4 := I.2.2.2.2.2.2.2.2.2.1
  refine k_intro (by decide +kernel) rfl rfl rfl ?_
  refine k_go 99 [] T2_ended_ok (fun K hK => ?_)
  refine hK _ ?_
  refine k_callV (Y' := Y2_needMessage) (as := [.int (nI m)]) (st := []) (m2_needMessage_ok (inR_nI h (by omega))) rfl c2_113 rfl rfl rfl d2_ended_2 (Nat.le_of_ble_eq_true rfl) (Nat.le_of_ble_eq_true rfl) rfl rfl ?_
  refine k_go 99 [] T2_ended_ok (fun K hK => ?_)
  refine k_at (j := m) (by omega) ?_
  refine hK _ ?_
  exact k_ireturn d2_ended_14 rfl rfl rfl rfl (Nat.le_of_ble_eq_true rfl) (Nat.le_of_ble_eq_true rfl)
theorem m2_length_bad (h : ¬ inR x (f 4)) : k_Met Y2_length [.ref 0, .int x] (hX f a G B o) (.inr "java/lang/IllegalArgumentException", hX f a G B o, 1, 6) := by
  refine k_intro (by decide +kernel) rfl rfl rfl ?_
  refine k_go 99 [] T2_length_ok (fun K hK => ?_)
  refine hK _ ?_
  exact k_callVX (Y' := Y2_needMessage) (as := [.int x]) (st := []) (m2_needMessage_bad h) rfl c2_113 rfl rfl rfl d2_length_2 (Nat.le_of_ble_eq_true rfl) (Nat.le_of_ble_eq_true rfl) rfl rfl rfl
theorem m2_length_ok (I : IvA f a) {m : Nat} (h : m < f 4) : k_Met Y2_length [.ref 0, .int (nI m)] (hX f a G B o) (.inl (some (.int (nI (a 14 m)))), hX f a G B o, 0, 0) := by
  have h4 := I.2.2.2.2.2.2.2.2.2.1
  refine k_intro (by decide +kernel) rfl rfl rfl ?_
  refine k_go 99 [] T2_length_ok (fun K hK => ?_)
  refine hK _ ?_
  refine k_callV (Y' := Y2_needMessage) (as := [.int (nI m)]) (st := []) (m2_needMessage_ok (inR_nI h (by omega))) rfl c2_113 rfl rfl rfl d2_length_2 (Nat.le_of_ble_eq_true rfl) (Nat.le_of_ble_eq_true rfl) rfl rfl ?_
  refine k_go 99 [] T2_length_ok (fun K hK => ?_)
  refine k_at (j := m) (by omega) ?_
  refine hK _ ?_
  exact k_ireturn d2_length_14 rfl rfl rfl rfl (Nat.le_of_ble_eq_true rfl) (Nat.le_of_ble_eq_true rfl)
theorem m2_on_unk (h : ¬ inR x 6) : k_Met Y2_on [.ref 0, .int x, .int y] (hX f a G B o) (.inr "java/lang/IllegalArgumentException", hX f a G B o, 1, 6) := by
  refine k_intro (by decide +kernel) rfl rfl rfl ?_
  refine k_go 99 [] T2_on_ok (fun K hK => ?_)
  refine hK _ ?_
  exact k_callVX (Y' := Y2_needChannel) (as := [.int x]) (st := []) (m2_needChannel_bad h) rfl c2_146 rfl rfl rfl d2_on_2 (Nat.le_of_ble_eq_true rfl) (Nat.le_of_ble_eq_true rfl) rfl rfl rfl
theorem m2_on_bad (h : inR x 6) (h2 : ¬ inR y (f 0)) : k_Met Y2_on [.ref 0, .int x, .int y] (hX f a G B o) (.inr "java/lang/ArrayIndexOutOfBoundsException", hX f a G B o, 1, 6) := by
  refine k_intro (by decide +kernel) rfl rfl rfl ?_
  refine k_go 99 [] T2_on_ok (fun K hK => ?_)
  refine hK _ ?_
  refine k_callV (Y' := Y2_needChannel) (as := [.int x]) (st := []) (m2_needChannel_ok h) rfl c2_146 rfl rfl rfl d2_on_2 (Nat.le_of_ble_eq_true rfl) (Nat.le_of_ble_eq_true rfl) rfl rfl ?_
  refine k_go 99 [] T2_on_ok (fun K hK => ?_)
  refine hK _ ?_
  exact k_callVX (Y' := Y2_needSlot) (as := [.int y]) (st := []) (m2_needSlot_bad h2) rfl c2_130 rfl rfl rfl d2_on_7 (Nat.le_of_ble_eq_true rfl) (Nat.le_of_ble_eq_true rfl) rfl rfl rfl
theorem m2_on_ok (I : IvA f a) {c s : Nat} (hc : c < 6) (hs : s < f 0) : k_Met Y2_on [.ref 0, .int (nI c), .int (nI s)] (hX f a G B o) (.inl (some (.int (nI (msOn f a c s)))), hX f a G B o, 0, 0) := by
  have h0 := I.2.2.2.2.2.2.2.1
  refine k_intro (by decide +kernel) rfl rfl rfl ?_
  refine k_go 99 [] T2_on_ok (fun K hK => ?_)
  refine hK _ ?_
  refine k_callV (Y' := Y2_needChannel) (as := [.int (nI c)]) (st := []) (m2_needChannel_ok (inR_nI hc (by omega))) rfl c2_146 rfl rfl rfl d2_on_2 (Nat.le_of_ble_eq_true rfl) (Nat.le_of_ble_eq_true rfl) rfl rfl ?_
  refine k_go 99 [] T2_on_ok (fun K hK => ?_)
  refine hK _ ?_
  refine k_callV (Y' := Y2_needSlot) (as := [.int (nI s)]) (st := []) (m2_needSlot_ok (inR_nI hs (by omega))) rfl c2_130 rfl rfl rfl d2_on_7 (Nat.le_of_ble_eq_true rfl) (Nat.le_of_ble_eq_true rfl) rfl rfl ?_
  refine k_go 99 [] T2_on_ok (fun K hK => ?_)
  refine hK _ ?_
  refine k_callV (Y' := Y2_messageOn) (as := [.int (nI c), .int (nI s)]) (st := []) (m2_messageOn I hc (by omega)) rfl c2_136 rfl rfl rfl d2_on_13 (Nat.le_of_ble_eq_true rfl) (Nat.le_of_ble_eq_true rfl) rfl rfl ?_
  exact k_ireturn d2_on_16 rfl rfl rfl rfl (Nat.le_of_ble_eq_true rfl) (Nat.le_of_ble_eq_true rfl)
theorem m2_hears_unk (h : ¬ inR x (f 2)) : k_Met Y2_hears [.ref 0, .int x, .int y] (hX f a G B o) (.inr "java/lang/IllegalArgumentException", hX f a G B o, 1, 6) := by
  refine k_intro (by decide +kernel) rfl rfl rfl ?_
  refine k_go 99 [] T2_hears_ok (fun K hK => ?_)
  refine hK _ ?_
  exact k_callVX (Y' := Y2_needUnit) (as := [.int x]) (st := []) (m2_needUnit_bad h) rfl c2_62 rfl rfl rfl d2_hears_2 (Nat.le_of_ble_eq_true rfl) (Nat.le_of_ble_eq_true rfl) rfl rfl rfl
theorem m2_hears_bad (h : inR x (f 2)) (h2 : ¬ inR y (f 0)) : k_Met Y2_hears [.ref 0, .int x, .int y] (hX f a G B o) (.inr "java/lang/ArrayIndexOutOfBoundsException", hX f a G B o, 1, 6) := by
  refine k_intro (by decide +kernel) rfl rfl rfl ?_
  refine k_go 99 [] T2_hears_ok (fun K hK => ?_)
  refine hK _ ?_
  refine k_callV (Y' := Y2_needUnit) (as := [.int x]) (st := []) (m2_needUnit_ok h) rfl c2_62 rfl rfl rfl d2_hears_2 (Nat.le_of_ble_eq_true rfl) (Nat.le_of_ble_eq_true rfl) rfl rfl ?_
  refine k_go 99 [] T2_hears_ok (fun K hK => ?_)
  refine hK _ ?_
  exact k_callVX (Y' := Y2_needSlot) (as := [.int y]) (st := []) (m2_needSlot_bad h2) rfl c2_130 rfl rfl rfl d2_hears_7 (Nat.le_of_ble_eq_true rfl) (Nat.le_of_ble_eq_true rfl) rfl rfl rfl
def hrN (f : Nat → Nat) (a : Nat → Nat → Nat) (u s : Nat) : Nat :=
  if msOn f a (a 3 u) s = NONE ∨ a 17 s ≠ 0 ∨ rcB f a u (msOn f a (a 3 u) s) = false then 0
  else 100 * (msOn f a (a 3 u) s + 1) + (if a 11 (msOn f a (a 3 u) s) = 0 then 0 else s - a 13 (msOn f a (a 3 u) s) + 1)
theorem m2_hears_ok (I : IvA f a) {u s : Nat} (hu : u < f 2) (hs : s < f 0) : k_Met Y2_hears [.ref 0, .int (nI u), .int (nI s)] (hX f a G B o) (.inl (some (.int (nI (hrN f a u s)))), hX f a G B o, 0, 0) := by
  have h0 := I.2.2.2.2.2.2.2.1
  have h2 := I.2.2.2.2.2.2.2.2.2.2.2.2.1
  have h4 := I.2.2.2.2.2.2.2.2.2.1
  have h3 := I.2.2.2.2.2.2.2.2.2.2.2.2.2.2.1 u
  have h17 := I.2.2.2.2.2.2.2.2.2.2.2.2.2.2.2.2 s
  obtain ⟨m, em⟩ : ∃ m, msOn f a (a 3 u) s = m := ⟨_, rfl⟩
  have hm := msOn_or f a (a 3 u) s
  rw [em] at hm
  have v0 : m = NONE ∨ a 17 s ≠ 0 ∨ rcB f a u m = false → hrN f a u s = 0 := fun h => by unfold hrN; rw [em]; exact if_pos h
  have v1 : ¬ (m = NONE ∨ a 17 s ≠ 0 ∨ rcB f a u m = false) → hrN f a u s = 100 * (m + 1) + (if a 11 m = 0 then 0 else s - a 13 m + 1) := fun h => by unfold hrN; rw [em]; exact if_neg h
  have mo : k_Met Y2_messageOn [.ref 0, .int (nI (a 3 u)), .int (nI s)] (hX f a G B o) (.inl (some (.int (nI m))), hX f a G B o, 0, 0) := by rw [← em]; exact m2_messageOn I h3 (by omega)
  generalize hrN f a u s = r at v0 v1
  refine k_intro (by decide +kernel) rfl rfl rfl ?_
  refine k_go 99 [] T2_hears_ok (fun K hK => ?_)
  refine hK _ ?_
  refine k_callV (Y' := Y2_needUnit) (as := [.int (nI u)]) (st := []) (m2_needUnit_ok (inR_nI hu (by omega))) rfl c2_62 rfl rfl rfl d2_hears_2 (Nat.le_of_ble_eq_true rfl) (Nat.le_of_ble_eq_true rfl) rfl rfl ?_
  refine k_go 99 [] T2_hears_ok (fun K hK => ?_)
  refine hK _ ?_
  refine k_callV (Y' := Y2_needSlot) (as := [.int (nI s)]) (st := []) (m2_needSlot_ok (inR_nI hs (by omega))) rfl c2_130 rfl rfl rfl d2_hears_7 (Nat.le_of_ble_eq_true rfl) (Nat.le_of_ble_eq_true rfl) rfl rfl ?_
  refine k_go 99 [] T2_hears_ok (fun K hK => ?_)
  refine k_at (j := u) (by omega) ?_
  refine hK _ ?_
  refine k_callV (Y' := Y2_messageOn) (as := [.int (nI (a 3 u)), .int (nI s)]) (st := []) (mo) rfl c2_136 rfl rfl rfl d2_hears_21 (Nat.le_of_ble_eq_true rfl) (Nat.le_of_ble_eq_true rfl) rfl rfl ?_
  refine k_go 99 [] T2_hears_ok (fun K hK => ?_)
  refine And.intro (fun hn => ?_) (fun hn => ?_)
  · have hl : m = NONE := by
      rcases hm with h | h
      · exact h
      · exact absurd hn (nI_none (by omega))
    refine hK _ ?_
    exact k_ireturn d2_hears_49 rfl rfl (rnN (b := 0) (v0 (Or.inl hl))) rfl (Nat.le_of_ble_eq_true rfl) (Nat.le_of_ble_eq_true rfl)
  · have hl : m < f 4 ∧ onP a m s := by
      rcases hm with h | h
      · exact absurd (by rw [h]; exact neg1.symm) hn
      · exact h
    have hl2 : ¬ m = NONE := fun q => by rw [q] at hl; exact absurd (Nat.lt_of_lt_of_le hl.1 h4) (by decide)
    have hw := I.2.2.2.2.2.2.2.2.2.2.2.1 m
    refine k_at (j := s) (by omega) ?_
    refine z_ne (a := a 17 s) (by omega) (fun h5 => ?_) (fun h5 => ?_)
    · refine hK _ ?_
      exact k_ireturn d2_hears_49 rfl rfl (rnN (b := 0) (v0 (Or.inr (Or.inl (by omega))))) rfl (Nat.le_of_ble_eq_true rfl) (Nat.le_of_ble_eq_true rfl)
    · refine hK _ ?_
      refine k_callV (Y' := Y2_receives) (as := [.int (nI u), .int (nI m)]) (st := []) (m2_receives I (by omega) (by omega)) rfl c2_140 rfl rfl rfl d2_hears_42 (Nat.le_of_ble_eq_true rfl) (Nat.le_of_ble_eq_true rfl) rfl rfl ?_
      refine k_go 99 [] T2_hears_ok (fun K hK => ?_)
      refine q_ne (fun h6 => ?_) (fun h6 => ?_)
      · refine k_eq (z := nI (m + 1)) (nI_add m 1) ?_
        refine k_eq (z := nI (100 * (m + 1))) (pk_mul 100 (m + 1)) ?_
        refine hK _ ?_
        refine k_callV (Y' := Y0_wordIn) (as := [.int (nI m), .int (nI s)]) (st := [.int (nI (100 * (m + 1)))]) (m0_wordIn I.1 (by omega) (by omega) hl.2.1) rfl c2_143 rfl rfl rfl d2_hears_62 (Nat.le_of_ble_eq_true rfl) (Nat.le_of_ble_eq_true rfl) rfl rfl ?_
        refine k_go 99 [] T2_hears_ok (fun K hK => ?_)
        refine k_eq (nI_add _ _) ?_
        refine hK _ ?_
        exact k_ireturn d2_hears_66 rfl rfl (rnN (v1 (by rintro (h | h | h); exact hl2 h; exact h h5; rw [h6] at h; cases h))) rfl (Nat.le_of_ble_eq_true rfl) (Nat.le_of_ble_eq_true rfl)
      · refine hK _ ?_
        exact k_ireturn d2_hears_49 rfl rfl (rnN (b := 0) (v0 (Or.inr (Or.inr h6)))) rfl (Nat.le_of_ble_eq_true rfl) (Nat.le_of_ble_eq_true rfl)
theorem m2_unheard_unk (h : ¬ inR x (f 4)) : k_Met Y2_unheard [.ref 0, .int x, .int y] (hX f a G B o) (.inr "java/lang/IllegalArgumentException", hX f a G B o, 1, 6) := by
  refine k_intro (by decide +kernel) rfl rfl rfl ?_
  refine k_go 99 [] T2_unheard_ok (fun K hK => ?_)
  refine hK _ ?_
  exact k_callVX (Y' := Y2_needMessage) (as := [.int x]) (st := []) (m2_needMessage_bad h) rfl c2_113 rfl rfl rfl d2_unheard_2 (Nat.le_of_ble_eq_true rfl) (Nat.le_of_ble_eq_true rfl) rfl rfl rfl
theorem m2_unheard_bad (h : inR x (f 4)) (h2 : y < 0) : k_Met Y2_unheard [.ref 0, .int x, .int y] (hX f a G B o) (.inr "java/lang/IndexOutOfBoundsException", hX f a G B o, 1, 6) := by
  refine k_intro (by decide +kernel) rfl rfl rfl ?_
  refine k_go 99 [] T2_unheard_ok (fun K hK => ?_)
  refine hK _ ?_
  refine k_callV (Y' := Y2_needMessage) (as := [.int x]) (st := []) (m2_needMessage_ok h) rfl c2_113 rfl rfl rfl d2_unheard_2 (Nat.le_of_ble_eq_true rfl) (Nat.le_of_ble_eq_true rfl) rfl rfl ?_
  refine k_go 99 [] T2_unheard_ok (fun K hK => ?_)
  refine And.intro (fun q => absurd h2 (Int32.not_lt.mpr q)) (fun _ => ?_)
  refine hK _ ?_
  exact k_throw (E := "java/lang/IndexOutOfBoundsException") (st := []) rfl kt_152 rfl d2_unheard_9 d2_unheard_12 d2_unheard_13 d2_unheard_15 d2_unheard_18 (by decide) (Nat.le_of_ble_eq_true rfl) rfl rfl (Nat.le_of_ble_eq_true rfl) (Nat.le_of_ble_eq_true rfl)
theorem m2_unheard_loop (I : IvA f a) {m i : Nat} (hm : m < 60) (hi : i < 2 ^ 31) : ∀ (n u b : Nat), f 2 - u = n → u ≤ f 2 → b ≤ u → ∀ (r : Nat), r = nth (fun u => mdB f a u m) i n u b →
    k_W Y2_unheard none (.inl (some (.int (nI r))), hX f a G B o, 0, 0) (24, [(4, .int (nI u)), (3, .int (nI b)), (0, .ref 0), (1, .int (nI m)), (2, .int (nI i))], [], hX f a G B o, 0, 0) := by
  have h2 := I.2.2.2.2.2.2.2.2.2.2.2.2.1
  intro n
  induction n with
  | zero =>
    intro u b hn hu hb r hr
    refine k_go 99 [24] T2_unheard_ok (fun K hK => ?_)
    refine b_ge (a := u) (b := f 2) (by omega) (by omega) (fun h => ?_) (fun h => absurd h (by omega))
    refine hK _ ?_
    exact k_ireturn d2_unheard_64 rfl rfl (rn1 hr) rfl (Nat.le_of_ble_eq_true rfl) (Nat.le_of_ble_eq_true rfl)
  | succ n ih =>
    intro u b hn hu hb r hr
    have hr2 : r = if mdB f a u m = true then (if b = i then u else nth (fun u => mdB f a u m) i n (u + 1) (b + 1)) else nth (fun u => mdB f a u m) i n (u + 1) b := hr
    refine k_go 99 [24] T2_unheard_ok (fun K hK => ?_)
    refine b_ge (a := u) (b := f 2) (by omega) (by omega) (fun h => absurd h (by omega)) (fun h => ?_)
    refine hK _ ?_
    refine k_callV (Y' := Y2_missed) (as := [.int (nI u), .int (nI m)]) (st := []) (m2_missed I (by omega) hm) rfl c2_157 rfl rfl rfl d2_unheard_40 (Nat.le_of_ble_eq_true rfl) (Nat.le_of_ble_eq_true rfl) rfl rfl ?_
    refine k_go 99 [24] T2_unheard_ok (fun K hK => ?_)
    refine q_eq (fun h1 => ?_) (fun h1 => ?_)
    · rw [if_neg (by rw [h1]; exact Bool.false_ne_true)] at hr2
      refine k_eq (z := nI (u + 1)) (nI_add u 1) ?_
      refine hK _ ?_
      exact ih (u + 1) b (by omega) (by omega) (by omega) r hr2
    · rw [if_pos h1] at hr2
      refine b_ne (a := b) (b := i) (by omega) hi (fun h5 => ?_) (fun h5 => ?_)
      · rw [if_neg h5] at hr2
        refine k_eq (z := nI (b + 1)) (nI_add b 1) ?_
        refine k_eq (z := nI (u + 1)) (nI_add u 1) ?_
        refine hK _ ?_
        refine k_perm (ls' := [(4, .int (nI (u + 1))), (3, .int (nI (b + 1))), (0, .ref 0), (1, .int (nI m)), (2, .int (nI i))]) (fun q hq => hq) ?_
        exact ih (u + 1) (b + 1) (by omega) (by omega) (by omega) r hr2
      · rw [if_pos h5] at hr2
        refine hK _ ?_
        exact k_ireturn d2_unheard_53 rfl rfl (rnN hr2) rfl (Nat.le_of_ble_eq_true rfl) (Nat.le_of_ble_eq_true rfl)
def uhN (f : Nat → Nat) (a : Nat → Nat → Nat) (m i : Nat) : Nat := nth (fun u => mdB f a u m) i (f 2) 0 0
theorem m2_unheard_ok (I : IvA f a) {m i : Nat} (hm : m < f 4) (hi : i < 2 ^ 31) : k_Met Y2_unheard [.ref 0, .int (nI m), .int (nI i)] (hX f a G B o) (.inl (some (.int (nI (uhN f a m i)))), hX f a G B o, 0, 0) := by
  have h4 := I.2.2.2.2.2.2.2.2.2.1
  refine k_intro (by decide +kernel) rfl rfl rfl ?_
  refine k_go 99 [] T2_unheard_ok (fun K hK => ?_)
  refine hK _ ?_
  refine k_callV (Y' := Y2_needMessage) (as := [.int (nI m)]) (st := []) (m2_needMessage_ok (inR_nI hm (by omega))) rfl c2_113 rfl rfl rfl d2_unheard_2 (Nat.le_of_ble_eq_true rfl) (Nat.le_of_ble_eq_true rfl) rfl rfl ?_
  refine k_go 99 [24] T2_unheard_ok (fun K hK => ?_)
  refine z_ge (a := i) hi ?_
  refine hK _ ?_
  exact m2_unheard_loop I (by omega) hi (f 2) 0 0 (by omega) (by omega) (by omega) _ rfl
theorem m2_used_unk (h : ¬ inR x 6) : k_Met Y2_used [.ref 0, .int x, .int y, .int z] (hX f a G B o) (.inr "java/lang/IllegalArgumentException", hX f a G B o, 1, 6) := by
  refine k_intro (by decide +kernel) rfl rfl rfl ?_
  refine k_go 99 [] T2_used_ok (fun K hK => ?_)
  refine hK _ ?_
  exact k_callVX (Y' := Y2_needChannel) (as := [.int x]) (st := []) (m2_needChannel_bad h) rfl c2_146 rfl rfl rfl d2_used_2 (Nat.le_of_ble_eq_true rfl) (Nat.le_of_ble_eq_true rfl) rfl rfl rfl
theorem m2_used_bad (h : inR x 6) (h2 : y < 0 ∨ nI (f 0) < z ∨ z < y) : k_Met Y2_used [.ref 0, .int x, .int y, .int z] (hX f a G B o) (.inr "java/lang/IndexOutOfBoundsException", hX f a G B o, 1, 6) := by
  refine k_intro (by decide +kernel) rfl rfl rfl ?_
  refine k_go 99 [] T2_used_ok (fun K hK => ?_)
  refine hK _ ?_
  refine k_callV (Y' := Y2_needChannel) (as := [.int x]) (st := []) (m2_needChannel_ok h) rfl c2_146 rfl rfl rfl d2_used_2 (Nat.le_of_ble_eq_true rfl) (Nat.le_of_ble_eq_true rfl) rfl rfl ?_
  refine k_go 99 [] T2_used_ok (fun K hK => ?_)
  refine And.intro (fun _ => ?_) (fun q1 => ?_)
  · refine hK _ ?_
    exact k_throw (E := "java/lang/IndexOutOfBoundsException") (st := []) rfl kt_160 rfl d2_used_22 d2_used_25 d2_used_26 d2_used_28 d2_used_31 (by decide) (Nat.le_of_ble_eq_true rfl) rfl rfl (Nat.le_of_ble_eq_true rfl) (Nat.le_of_ble_eq_true rfl)
  · refine And.intro (fun _ => ?_) (fun q2 => ?_)
    · refine hK _ ?_
      exact k_throw (E := "java/lang/IndexOutOfBoundsException") (st := []) rfl kt_160 rfl d2_used_22 d2_used_25 d2_used_26 d2_used_28 d2_used_31 (by decide) (Nat.le_of_ble_eq_true rfl) rfl rfl (Nat.le_of_ble_eq_true rfl) (Nat.le_of_ble_eq_true rfl)
    · refine And.intro (fun q3 => ?_) (fun _ => ?_)
      · rcases h2 with h | h | h
        · exact absurd h q1
        · exact absurd h q2
        · exact absurd h (Int32.not_lt.mpr q3)
      · refine hK _ ?_
        exact k_throw (E := "java/lang/IndexOutOfBoundsException") (st := []) rfl kt_160 rfl d2_used_22 d2_used_25 d2_used_26 d2_used_28 d2_used_31 (by decide) (Nat.le_of_ble_eq_true rfl) rfl rfl (Nat.le_of_ble_eq_true rfl) (Nat.le_of_ble_eq_true rfl)
theorem m2_used_loop (I : IvA f a) {c p q : Nat} (hc : c < 6) (hp : p < 10000) (hq : q < 10000) : ∀ (n i t : Nat), f 4 - i = n → i ≤ f 4 → t ≤ i * 10000 → ∀ (r : Nat), r = usS a c p q n i t →
    k_W Y2_used none (.inl (some (.int (nI r))), hX f a G B o, 0, 0) (38, [(5, .int (nI i)), (4, .int (nI t)), (0, .ref 0), (1, .int (nI c)), (2, .int (nI p)), (3, .int (nI q))], [], hX f a G B o, 0, 0) := by
  have h4 := I.2.2.2.2.2.2.2.2.2.1
  intro n
  induction n with
  | zero =>
    intro i t hn hi ht r hr
    refine k_go 99 [38] T2_used_ok (fun K hK => ?_)
    refine b_ge (a := i) (b := f 4) (by omega) (by omega) (fun h => ?_) (fun h => absurd h (by omega))
    refine hK _ ?_
    exact k_ireturn d2_used_92 rfl rfl (rnN hr) rfl (Nat.le_of_ble_eq_true rfl) (Nat.le_of_ble_eq_true rfl)
  | succ n ih =>
    intro i t hn hi ht r hr
    have hr2 : r = usS a c p q n (i + 1) (if a 18 c = a 18 (a 9 i) then t + (min q (a 13 i + a 14 i) - max p (a 13 i)) else t) := hr
    refine k_go 99 [38] T2_used_ok (fun K hK => ?_)
    refine b_ge (a := i) (b := f 4) (by omega) (by omega) (fun h => absurd h (by omega)) (fun h => ?_)
    refine k_at (j := i) (by omega) ?_
    refine hK _ ?_
    refine k_callV (Y' := Y2_areJoined) (as := [.int (nI c), .int (nI (a 9 i))]) (st := []) (m2_areJoined I.1 hc (I.2.2.1 i)) rfl c2_82 rfl rfl rfl d2_used_62 (Nat.le_of_ble_eq_true rfl) (Nat.le_of_ble_eq_true rfl) rfl rfl ?_
    refine k_go 99 [38] T2_used_ok (fun K hK => ?_)
    refine p_eq (fun h1 => ?_) (fun h1 => ?_)
    · rw [if_neg h1] at hr2
      refine k_eq (z := nI (i + 1)) (nI_add i 1) ?_
      refine hK _ ?_
      exact ih (i + 1) t (by omega) (by omega) (Nat.le_trans ht (Nat.mul_le_mul_right 10000 (Nat.le_succ i))) r hr2
    · rw [if_pos h1] at hr2
      refine hK _ ?_
      refine k_callV (Y' := Y0_slotsOnWithin) (as := [.int (nI i), .int (nI p), .int (nI q)]) (st := [.int (nI t)]) (m0_slotsOnWithin I.1 (by omega) hp hq) rfl c2_164 rfl rfl rfl d2_used_78 (Nat.le_of_ble_eq_true rfl) (Nat.le_of_ble_eq_true rfl) rfl rfl ?_
      refine k_go 99 [38] T2_used_ok (fun K hK => ?_)
      refine k_eq (nI_add _ _) ?_
      refine k_eq (z := nI (i + 1)) (nI_add i 1) ?_
      refine hK _ ?_
      exact ih (i + 1) _ (by omega) (by omega) (by omega) r hr2
def usN (f : Nat → Nat) (a : Nat → Nat → Nat) (c p q : Nat) : Nat := usS a c p q (f 4) 0 0
theorem m2_used_ok (I : IvA f a) {c p q : Nat} (hc : c < 6) (hpq : p ≤ q) (hq : q ≤ f 0) : k_Met Y2_used [.ref 0, .int (nI c), .int (nI p), .int (nI q)] (hX f a G B o) (.inl (some (.int (nI (usN f a c p q)))), hX f a G B o, 0, 0) := by
  have h0 := I.2.2.2.2.2.2.2.1
  refine k_intro (by decide +kernel) rfl rfl rfl ?_
  refine k_go 99 [] T2_used_ok (fun K hK => ?_)
  refine hK _ ?_
  refine k_callV (Y' := Y2_needChannel) (as := [.int (nI c)]) (st := []) (m2_needChannel_ok (inR_nI hc (by omega))) rfl c2_146 rfl rfl rfl d2_used_2 (Nat.le_of_ble_eq_true rfl) (Nat.le_of_ble_eq_true rfl) rfl rfl ?_
  refine k_go 99 [38] T2_used_ok (fun K hK => ?_)
  refine z_lt (a := p) (by omega) ?_
  refine b_gt (a := q) (b := f 0) (by omega) (by omega) (fun h => absurd h (by omega)) (fun _ => ?_)
  refine b_ge (a := q) (b := p) (by omega) (by omega) (fun _ => ?_) (fun h => absurd h (by omega))
  refine hK _ ?_
  exact m2_used_loop I hc (by omega) (by omega) (f 4) 0 0 (by omega) (by omega) (by omega) _ rfl
end QP
end
section
theorem insA_row (w : Nat) : ∀ (p : Nat) (a : Nat → Nat → Nat) (k : Nat), k ≠ 16 → (insA w p a).1 k = a k := by
  intro p
  induction p with
  | zero => intro a k _; rfl
  | succ p ih =>
    intro a k hk
    unfold insA
    split
    · rw [ih _ k hk]
      unfold up2
      rw [if_neg hk]
    · rfl
theorem insA_60 (w : Nat) : ∀ (p : Nat) (a : Nat → Nat → Nat), (∀ j, a 16 j < 60) → ∀ j, (insA w p a).1 16 j < 60 := by
  intro p
  induction p with
  | zero => intro a h j; exact h j
  | succ p ih =>
    intro a h j
    unfold insA
    split
    · refine ih _ (fun j => ?_) j
      show up1 (a 16) (p + 1) (a 16 p) j < 60
      unfold up1
      split
      · exact h p
      · exact h j
    · exact h j
theorem insA_le (w : Nat) : ∀ (p : Nat) (a : Nat → Nat → Nat), (insA w p a).2 ≤ p := by
  intro p
  induction p with
  | zero => intro a; exact Nat.le_refl _
  | succ p ih =>
    intro a
    unfold insA
    split
    · exact Nat.le_succ_of_le (ih _)
    · exact Nat.le_refl _
theorem insA_c (w c : Nat) : ∀ (p : Nat) (a : Nat → Nat → Nat), p ≤ c → (∀ j, j ≤ c → j ≠ p → a 16 j < c) → ∀ j, j ≤ c → j ≠ (insA w p a).2 → (insA w p a).1 16 j < c := by
  intro p
  induction p with
  | zero => intro a _ h j h1 h2; exact h j h1 h2
  | succ p ih =>
    intro a hp h j h1 h2
    unfold insA at h2 ⊢
    split at h2
    · next hc =>
      rw [if_pos hc]
      refine ih _ (by omega) (fun i hi hne => ?_) j h1 h2
      show up1 (a 16) (p + 1) (a 16 p) i < c
      unfold up1
      split
      · exact h p (by omega) (by omega)
      · next h5 => exact h i hi h5
    · next hc =>
      rw [if_neg hc]
      exact h j h1 h2
theorem up1_lt {g : Nat → Nat} {k v n : Nat} (h : ∀ j, g j < n) (hv : v < n) : ∀ j, up1 g k v j < n := fun j => by
  unfold up1; split
  · exact hv
  · exact h j
section TL
variable {f : Nat → Nat} {a : Nat → Nat → Nat} {G : Nat → Int32} {B : Nat → Nat → Int32} {o : Nat → Int64} {x y z w : Int32}
theorem IvA_add (I : IvA f a) {u c s n r : Nat} (h4 : f 4 < 60) (hu : u < 20) (hc : c < 6) (hs : s < f 0) (hn : n < 100) (hr : r < 10) : IvA (up1 f 4 (f 4 + 1)) (addA f a u c s n r) := by
  have h0 := I.2.2.2.2.2.2.2.1
  have e : ∀ k, k ≠ 16 → (insA s (f 4) a).1 k = a k := insA_row s (f 4) a
  have h60 := insA_60 s (f 4) a I.2.1
  have hle := insA_le s (f 4) a
  have hcc := insA_c s (f 4) (f 4) a (Nat.le_refl _) (fun j h1 h2 => I.2.2.2.2.2.2.1 j (by omega))
  have hB : Bd (insA s (f 4) a).1 := by
    intro k j hk
    by_cases h : k = 16
    · subst h; have := h60 j; omega
    · rw [e k h]; exact I.1 k j hk
  refine ⟨Bd_up2 (Bd_up2 (Bd_up2 (Bd_up2 (Bd_up2 (Bd_up2 hB (by omega)) (by omega)) (by omega)) (by omega)) (by omega)) (by omega), ?_, ?_, ?_, ?_, ?_, ?_, h0, I.2.2.2.2.2.2.2.2.1, ?_, ?_, ?_, I.2.2.2.2.2.2.2.2.2.2.2.2.1, I.2.2.2.2.2.2.2.2.2.2.2.2.2.1, ?_, ?_, ?_⟩
  · exact up1_lt h60 h4
  · show ∀ j, up1 ((insA s (f 4) a).1 9) (f 4) c j < 6
    rw [e 9 (by decide)]
    exact up1_lt I.2.2.1 hc
  · show ∀ j, (insA s (f 4) a).1 18 j < 6
    rw [e 18 (by decide)]
    exact I.2.2.2.1
  · show ∀ j, (insA s (f 4) a).1 19 j = NONE ∨ (insA s (f 4) a).1 19 j < 60
    rw [e 19 (by decide)]
    exact I.2.2.2.2.1
  · show ∀ j, j < f 4 + 1 → up1 ((insA s (f 4) a).1 10) (f 4) s j < f 0
    rw [e 10 (by decide)]
    intro j hj
    unfold up1
    split
    · exact hs
    · exact I.2.2.2.2.2.1 j (by omega)
  · show ∀ j, j < f 4 + 1 → up1 ((insA s (f 4) a).1 16) (insA s (f 4) a).2 (f 4) j < f 4 + 1
    intro j hj
    unfold up1
    split
    · omega
    · next h => have := hcc j (by omega) h; omega
  · show f 4 + 1 ≤ 60
    omega
  · show ∀ j, up1 ((insA s (f 4) a).1 8) (f 4) u j < 20
    rw [e 8 (by decide)]
    exact up1_lt I.2.2.2.2.2.2.2.2.2.2.1 hu
  · show ∀ j, up1 ((insA s (f 4) a).1 11) (f 4) n j < 100
    rw [e 11 (by decide)]
    exact up1_lt I.2.2.2.2.2.2.2.2.2.2.2.1 hn
  · show ∀ j, (insA s (f 4) a).1 3 j < 6
    rw [e 3 (by decide)]
    exact I.2.2.2.2.2.2.2.2.2.2.2.2.2.2.1
  · show ∀ j, (insA s (f 4) a).1 7 j < 6
    rw [e 7 (by decide)]
    exact I.2.2.2.2.2.2.2.2.2.2.2.2.2.2.2.1
  · show ∀ j, (insA s (f 4) a).1 17 j < 2
    rw [e 17 (by decide)]
    exact I.2.2.2.2.2.2.2.2.2.2.2.2.2.2.2.2
/-- one more message told: the state behind it -/
def telA (f : Nat → Nat) (a : Nat → Nat → Nat) (u s n r : Nat) : Nat → Nat → Nat := plan0 (up1 f 4 (f 4 + 1)) (addA f a u (a 3 u) s n r)
theorem m2_tell (I : IvA f a) {u s n r : Nat} (h4 : f 4 < 60) (hu : u < 20) (hs : s < f 0) (hn : n < 100) (hr : r < 10) : k_Met Y2_tell [.ref 0, .int (nI u), .int (nI s), .int (nI n), .int (nI r)] (hX f a G B o) (.inl (some (.int (nI (f 4)))), hX (up1 f 4 (f 4 + 1)) (telA f a u s n r) G B o, 0, 0) := by
  have h0 := I.2.2.2.2.2.2.2.1
  have h3 := I.2.2.2.2.2.2.2.2.2.2.2.2.2.2.1 u
  refine k_intro (by decide +kernel) rfl rfl rfl ?_
  refine k_go 99 [] T2_tell_ok (fun K hK => ?_)
  refine k_at (j := u) hu ?_
  refine hK _ ?_
  refine k_callV (Y' := Y0_add) (as := [.int (nI u), .int (nI (a 3 u)), .int (nI s), .int (nI n), .int (nI r)]) (st := []) (m0_add I.1 I.2.1 h4 (by omega)) rfl c2_211 rfl rfl rfl d2_tell_18 (Nat.le_of_ble_eq_true rfl) (Nat.le_of_ble_eq_true rfl) rfl rfl ?_
  refine k_go 99 [] T2_tell_ok (fun K hK => ?_)
  refine hK _ ?_
  refine k_callV (Y' := Y2_planAll) (as := []) (st := []) (m2_planAll (IvA_add I h4 hu h3 hs hn hr)) rfl c2_90 rfl rfl rfl d2_tell_24 (Nat.le_of_ble_eq_true rfl) (Nat.le_of_ble_eq_true rfl) rfl rfl ?_
  refine k_go 99 [] T2_tell_ok (fun K hK => ?_)
  refine hK _ ?_
  exact k_ireturn d2_tell_29 rfl rfl rfl rfl (Nat.le_of_ble_eq_true rfl) (Nat.le_of_ble_eq_true rfl)
theorem m2_speak_unk (h : ¬ inR x (f 2)) : k_Met Y2_speak [.ref 0, .int x, .int y, .int z, .int w] (hX f a G B o) (.inr "java/lang/IllegalArgumentException", hX f a G B o, 1, 6) := by
  refine k_intro (by decide +kernel) rfl rfl rfl ?_
  refine k_go 99 [] T2_speak_ok (fun K hK => ?_)
  refine hK _ ?_
  exact k_callVX (Y' := Y2_needUnit) (as := [.int x]) (st := []) (m2_needUnit_bad h) rfl c2_62 rfl rfl rfl d2_speak_2 (Nat.le_of_ble_eq_true rfl) (Nat.le_of_ble_eq_true rfl) rfl rfl rfl
theorem m2_speak_bad (h : inR x (f 2)) (h2 : ¬ ((inR y (f 0) ∧ inR w 10) ∧ inR z 100)) : k_Met Y2_speak [.ref 0, .int x, .int y, .int z, .int w] (hX f a G B o) (.inr "java/lang/IndexOutOfBoundsException", hX f a G B o, 1, 6) := by
  refine k_intro (by decide +kernel) rfl rfl rfl ?_
  refine k_go 99 [] T2_speak_ok (fun K hK => ?_)
  refine hK _ ?_
  refine k_callV (Y' := Y2_needUnit) (as := [.int x]) (st := []) (m2_needUnit_ok h) rfl c2_62 rfl rfl rfl d2_speak_2 (Nat.le_of_ble_eq_true rfl) (Nat.le_of_ble_eq_true rfl) rfl rfl ?_
  refine k_go 99 [] T2_speak_ok (fun K hK => ?_)
  refine hK _ ?_
  by_cases hb : inR y (f 0) ∧ inR w 10
  · refine k_callV (Y' := Y2_needBegin) (as := [.int y, .int w]) (st := []) (m2_needBegin_ok hb.1 hb.2) rfl c2_98 rfl rfl rfl d2_speak_9 (Nat.le_of_ble_eq_true rfl) (Nat.le_of_ble_eq_true rfl) rfl rfl ?_
    refine k_go 99 [] T2_speak_ok (fun K hK => ?_)
    refine And.intro (fun _ => ?_) (fun q1 => ?_)
    · refine hK _ ?_
      exact k_throw (E := "java/lang/IndexOutOfBoundsException") (st := []) rfl kt_101 rfl d2_speak_22 d2_speak_25 d2_speak_26 d2_speak_28 d2_speak_31 (by decide) (Nat.le_of_ble_eq_true rfl) rfl rfl (Nat.le_of_ble_eq_true rfl) (Nat.le_of_ble_eq_true rfl)
    · refine And.intro (fun q2 => absurd ⟨hb, q1, (le_suc (n := 99) (by omega)).mp q2⟩ h2) (fun _ => ?_)
      refine hK _ ?_
      exact k_throw (E := "java/lang/IndexOutOfBoundsException") (st := []) rfl kt_101 rfl d2_speak_22 d2_speak_25 d2_speak_26 d2_speak_28 d2_speak_31 (by decide) (Nat.le_of_ble_eq_true rfl) rfl rfl (Nat.le_of_ble_eq_true rfl) (Nat.le_of_ble_eq_true rfl)
  · exact k_callVX (Y' := Y2_needBegin) (as := [.int y, .int w]) (st := []) (m2_needBegin_bad hb) rfl c2_98 rfl rfl rfl d2_speak_9 (Nat.le_of_ble_eq_true rfl) (Nat.le_of_ble_eq_true rfl) rfl rfl rfl
theorem m2_speak_has (I : IvA f a) {u s n r : Nat} (hu : u < f 2) (hs : s < f 0) (hn : n < 100) (hr : r < 10) (h : hasB f a u s) : k_Met Y2_speak [.ref 0, .int (nI u), .int (nI s), .int (nI n), .int (nI r)] (hX f a G B o) (.inr "java/lang/IllegalStateException", hX f a G B o, 1, 6) := by
  have h0 := I.2.2.2.2.2.2.2.1
  have h2 := I.2.2.2.2.2.2.2.2.2.2.2.2.1
  have h4 := I.2.2.2.2.2.2.2.2.2.1
  refine k_intro (by decide +kernel) rfl rfl rfl ?_
  refine k_go 99 [] T2_speak_ok (fun K hK => ?_)
  refine hK _ ?_
  refine k_callV (Y' := Y2_needUnit) (as := [.int (nI u)]) (st := []) (m2_needUnit_ok (inR_nI hu (by omega))) rfl c2_62 rfl rfl rfl d2_speak_2 (Nat.le_of_ble_eq_true rfl) (Nat.le_of_ble_eq_true rfl) rfl rfl ?_
  refine k_go 99 [] T2_speak_ok (fun K hK => ?_)
  refine hK _ ?_
  refine k_callV (Y' := Y2_needBegin) (as := [.int (nI s), .int (nI r)]) (st := []) (m2_needBegin_ok (inR_nI hs (by omega)) (inR_nI hr (by omega))) rfl c2_98 rfl rfl rfl d2_speak_9 (Nat.le_of_ble_eq_true rfl) (Nat.le_of_ble_eq_true rfl) rfl rfl ?_
  refine k_go 99 [] T2_speak_ok (fun K hK => ?_)
  refine z_lt (a := n) (by omega) ?_
  refine b_le (a := n) (b := 99) (by omega) (by omega) (fun _ => ?_) (fun q => absurd hn (by omega))
  refine hK _ ?_
  exact k_callVX (Y' := Y2_needFreeBegin) (as := [.int (nI u), .int (nI s)]) (st := []) (m2_needFreeBegin_bad I.1 h4 (by omega) (by omega) h) rfl c2_103 rfl rfl rfl d2_speak_35 (Nat.le_of_ble_eq_true rfl) (Nat.le_of_ble_eq_true rfl) rfl rfl rfl
theorem m2_speak_full (I : IvA f a) {u s n r : Nat} (hu : u < f 2) (hs : s < f 0) (hn : n < 100) (hr : r < 10) (h : ¬ hasB f a u s) (h60 : 60 ≤ f 4) : k_Met Y2_speak [.ref 0, .int (nI u), .int (nI s), .int (nI n), .int (nI r)] (hX f a G B o) (.inr "java/lang/UnsupportedOperationException", hX f a G B o, 1, 6) := by
  have h0 := I.2.2.2.2.2.2.2.1
  have h2 := I.2.2.2.2.2.2.2.2.2.2.2.2.1
  have h4 := I.2.2.2.2.2.2.2.2.2.1
  refine k_intro (by decide +kernel) rfl rfl rfl ?_
  refine k_go 99 [] T2_speak_ok (fun K hK => ?_)
  refine hK _ ?_
  refine k_callV (Y' := Y2_needUnit) (as := [.int (nI u)]) (st := []) (m2_needUnit_ok (inR_nI hu (by omega))) rfl c2_62 rfl rfl rfl d2_speak_2 (Nat.le_of_ble_eq_true rfl) (Nat.le_of_ble_eq_true rfl) rfl rfl ?_
  refine k_go 99 [] T2_speak_ok (fun K hK => ?_)
  refine hK _ ?_
  refine k_callV (Y' := Y2_needBegin) (as := [.int (nI s), .int (nI r)]) (st := []) (m2_needBegin_ok (inR_nI hs (by omega)) (inR_nI hr (by omega))) rfl c2_98 rfl rfl rfl d2_speak_9 (Nat.le_of_ble_eq_true rfl) (Nat.le_of_ble_eq_true rfl) rfl rfl ?_
  refine k_go 99 [] T2_speak_ok (fun K hK => ?_)
  refine z_lt (a := n) (by omega) ?_
  refine b_le (a := n) (b := 99) (by omega) (by omega) (fun _ => ?_) (fun q => absurd hn (by omega))
  refine hK _ ?_
  refine k_callV (Y' := Y2_needFreeBegin) (as := [.int (nI u), .int (nI s)]) (st := []) (m2_needFreeBegin_ok I.1 h4 (by omega) (by omega) h) rfl c2_103 rfl rfl rfl d2_speak_35 (Nat.le_of_ble_eq_true rfl) (Nat.le_of_ble_eq_true rfl) rfl rfl ?_
  refine k_go 99 [] T2_speak_ok (fun K hK => ?_)
  refine hK _ ?_
  exact k_callVX (Y' := Y2_needRoomForMessage) (as := []) (st := []) (m2_needRoom_bad (by omega) h60) rfl c2_106 rfl rfl rfl d2_speak_39 (Nat.le_of_ble_eq_true rfl) (Nat.le_of_ble_eq_true rfl) rfl rfl rfl
theorem m2_speak_ok (I : IvA f a) {u s n r : Nat} (hu : u < f 2) (hs : s < f 0) (hn : n < 100) (hr : r < 10) (h : ¬ hasB f a u s) (h60 : f 4 < 60) : k_Met Y2_speak [.ref 0, .int (nI u), .int (nI s), .int (nI n), .int (nI r)] (hX f a G B o) (.inl (some (.int (nI (f 4)))), hX (up1 f 4 (f 4 + 1)) (telA f a u s n r) G B o, 0, 0) := by
  have h0 := I.2.2.2.2.2.2.2.1
  have h2 := I.2.2.2.2.2.2.2.2.2.2.2.2.1
  have h4 := I.2.2.2.2.2.2.2.2.2.1
  refine k_intro (by decide +kernel) rfl rfl rfl ?_
  refine k_go 99 [] T2_speak_ok (fun K hK => ?_)
  refine hK _ ?_
  refine k_callV (Y' := Y2_needUnit) (as := [.int (nI u)]) (st := []) (m2_needUnit_ok (inR_nI hu (by omega))) rfl c2_62 rfl rfl rfl d2_speak_2 (Nat.le_of_ble_eq_true rfl) (Nat.le_of_ble_eq_true rfl) rfl rfl ?_
  refine k_go 99 [] T2_speak_ok (fun K hK => ?_)
  refine hK _ ?_
  refine k_callV (Y' := Y2_needBegin) (as := [.int (nI s), .int (nI r)]) (st := []) (m2_needBegin_ok (inR_nI hs (by omega)) (inR_nI hr (by omega))) rfl c2_98 rfl rfl rfl d2_speak_9 (Nat.le_of_ble_eq_true rfl) (Nat.le_of_ble_eq_true rfl) rfl rfl ?_
  refine k_go 99 [] T2_speak_ok (fun K hK => ?_)
  refine z_lt (a := n) (by omega) ?_
  refine b_le (a := n) (b := 99) (by omega) (by omega) (fun _ => ?_) (fun q => absurd hn (by omega))
  refine hK _ ?_
  refine k_callV (Y' := Y2_needFreeBegin) (as := [.int (nI u), .int (nI s)]) (st := []) (m2_needFreeBegin_ok I.1 h4 (by omega) (by omega) h) rfl c2_103 rfl rfl rfl d2_speak_35 (Nat.le_of_ble_eq_true rfl) (Nat.le_of_ble_eq_true rfl) rfl rfl ?_
  refine k_go 99 [] T2_speak_ok (fun K hK => ?_)
  refine hK _ ?_
  refine k_callV (Y' := Y2_needRoomForMessage) (as := []) (st := []) (m2_needRoom_ok h60) rfl c2_106 rfl rfl rfl d2_speak_39 (Nat.le_of_ble_eq_true rfl) (Nat.le_of_ble_eq_true rfl) rfl rfl ?_
  refine k_go 99 [] T2_speak_ok (fun K hK => ?_)
  refine hK _ ?_
  refine k_callV (Y' := Y2_tell) (as := [.int (nI u), .int (nI s), .int (nI n), .int (nI r)]) (st := []) (m2_tell I h60 (by omega) hs hn hr) rfl c2_109 rfl rfl rfl d2_speak_48 (Nat.le_of_ble_eq_true rfl) (Nat.le_of_ble_eq_true rfl) rfl rfl ?_
  exact k_ireturn d2_speak_51 rfl rfl rfl rfl (Nat.le_of_ble_eq_true rfl) (Nat.le_of_ble_eq_true rfl)
theorem m2_relay_unk (h : ¬ (inR x (f 2) ∧ inR y (f 4))) : k_Met Y2_relay [.ref 0, .int x, .int y, .int z, .int w] (hX f a G B o) (.inr "java/lang/IllegalArgumentException", hX f a G B o, 1, 6) := by
  refine k_intro (by decide +kernel) rfl rfl rfl ?_
  refine k_go 99 [] T2_relay_ok (fun K hK => ?_)
  refine hK _ ?_
  by_cases hb : inR x (f 2)
  · refine k_callV (Y' := Y2_needUnit) (as := [.int x]) (st := []) (m2_needUnit_ok hb) rfl c2_62 rfl rfl rfl d2_relay_2 (Nat.le_of_ble_eq_true rfl) (Nat.le_of_ble_eq_true rfl) rfl rfl ?_
    refine k_go 99 [] T2_relay_ok (fun K hK => ?_)
    refine hK _ ?_
    exact k_callVX (Y' := Y2_needMessage) (as := [.int y]) (st := []) (m2_needMessage_bad (fun q => h ⟨hb, q⟩)) rfl c2_113 rfl rfl rfl d2_relay_7 (Nat.le_of_ble_eq_true rfl) (Nat.le_of_ble_eq_true rfl) rfl rfl rfl
  · exact k_callVX (Y' := Y2_needUnit) (as := [.int x]) (st := []) (m2_needUnit_bad hb) rfl c2_62 rfl rfl rfl d2_relay_2 (Nat.le_of_ble_eq_true rfl) (Nat.le_of_ble_eq_true rfl) rfl rfl rfl
theorem m2_relay_bad (h : inR x (f 2) ∧ inR y (f 4)) (h2 : ¬ (inR z (f 0) ∧ inR w 10)) : k_Met Y2_relay [.ref 0, .int x, .int y, .int z, .int w] (hX f a G B o) (.inr "java/lang/IndexOutOfBoundsException", hX f a G B o, 1, 6) := by
  refine k_intro (by decide +kernel) rfl rfl rfl ?_
  refine k_go 99 [] T2_relay_ok (fun K hK => ?_)
  refine hK _ ?_
  refine k_callV (Y' := Y2_needUnit) (as := [.int x]) (st := []) (m2_needUnit_ok h.1) rfl c2_62 rfl rfl rfl d2_relay_2 (Nat.le_of_ble_eq_true rfl) (Nat.le_of_ble_eq_true rfl) rfl rfl ?_
  refine k_go 99 [] T2_relay_ok (fun K hK => ?_)
  refine hK _ ?_
  refine k_callV (Y' := Y2_needMessage) (as := [.int y]) (st := []) (m2_needMessage_ok h.2) rfl c2_113 rfl rfl rfl d2_relay_7 (Nat.le_of_ble_eq_true rfl) (Nat.le_of_ble_eq_true rfl) rfl rfl ?_
  refine k_go 99 [] T2_relay_ok (fun K hK => ?_)
  refine hK _ ?_
  exact k_callVX (Y' := Y2_needBegin) (as := [.int z, .int w]) (st := []) (m2_needBegin_bad h2) rfl c2_98 rfl rfl rfl d2_relay_14 (Nat.le_of_ble_eq_true rfl) (Nat.le_of_ble_eq_true rfl) rfl rfl rfl
theorem m2_relay_has (I : IvA f a) {u q s r : Nat} (hu : u < f 2) (hq : q < f 4) (hs : s < f 0) (hr : r < 10) (h : hasB f a u s) : k_Met Y2_relay [.ref 0, .int (nI u), .int (nI q), .int (nI s), .int (nI r)] (hX f a G B o) (.inr "java/lang/IllegalStateException", hX f a G B o, 1, 6) := by
  have h0 := I.2.2.2.2.2.2.2.1
  have h2 := I.2.2.2.2.2.2.2.2.2.2.2.2.1
  have h4 := I.2.2.2.2.2.2.2.2.2.1
  have h15 := I.1 15 q (by omega)
  refine k_intro (by decide +kernel) rfl rfl rfl ?_
  refine k_go 99 [] T2_relay_ok (fun K hK => ?_)
  refine hK _ ?_
  refine k_callV (Y' := Y2_needUnit) (as := [.int (nI u)]) (st := []) (m2_needUnit_ok (inR_nI hu (by omega))) rfl c2_62 rfl rfl rfl d2_relay_2 (Nat.le_of_ble_eq_true rfl) (Nat.le_of_ble_eq_true rfl) rfl rfl ?_
  refine k_go 99 [] T2_relay_ok (fun K hK => ?_)
  refine hK _ ?_
  refine k_callV (Y' := Y2_needMessage) (as := [.int (nI q)]) (st := []) (m2_needMessage_ok (inR_nI hq (by omega))) rfl c2_113 rfl rfl rfl d2_relay_7 (Nat.le_of_ble_eq_true rfl) (Nat.le_of_ble_eq_true rfl) rfl rfl ?_
  refine k_go 99 [] T2_relay_ok (fun K hK => ?_)
  refine hK _ ?_
  refine k_callV (Y' := Y2_needBegin) (as := [.int (nI s), .int (nI r)]) (st := []) (m2_needBegin_ok (inR_nI hs (by omega)) (inR_nI hr (by omega))) rfl c2_98 rfl rfl rfl d2_relay_14 (Nat.le_of_ble_eq_true rfl) (Nat.le_of_ble_eq_true rfl) rfl rfl ?_
  refine k_go 99 [] T2_relay_ok (fun K hK => ?_)
  refine hK _ ?_
  exact k_callVX (Y' := Y2_needFreeBegin) (as := [.int (nI u), .int (nI s)]) (st := []) (m2_needFreeBegin_bad I.1 h4 (by omega) (by omega) h) rfl c2_103 rfl rfl rfl d2_relay_20 (Nat.le_of_ble_eq_true rfl) (Nat.le_of_ble_eq_true rfl) rfl rfl rfl
theorem m2_relay_not (I : IvA f a) {u q s r : Nat} (hu : u < f 2) (hq : q < f 4) (hs : s < f 0) (hr : r < 10) (h : ¬ hasB f a u s) (hh : ¬ (a 15 q = 0 ∧ haB f a u q = true)) : k_Met Y2_relay [.ref 0, .int (nI u), .int (nI q), .int (nI s), .int (nI r)] (hX f a G B o) (.inr "java/lang/IllegalStateException", hX f a G B o, 1, 6) := by
  have h0 := I.2.2.2.2.2.2.2.1
  have h2 := I.2.2.2.2.2.2.2.2.2.2.2.2.1
  have h4 := I.2.2.2.2.2.2.2.2.2.1
  have h15 := I.1 15 q (by omega)
  refine k_intro (by decide +kernel) rfl rfl rfl ?_
  refine k_go 99 [] T2_relay_ok (fun K hK => ?_)
  refine hK _ ?_
  refine k_callV (Y' := Y2_needUnit) (as := [.int (nI u)]) (st := []) (m2_needUnit_ok (inR_nI hu (by omega))) rfl c2_62 rfl rfl rfl d2_relay_2 (Nat.le_of_ble_eq_true rfl) (Nat.le_of_ble_eq_true rfl) rfl rfl ?_
  refine k_go 99 [] T2_relay_ok (fun K hK => ?_)
  refine hK _ ?_
  refine k_callV (Y' := Y2_needMessage) (as := [.int (nI q)]) (st := []) (m2_needMessage_ok (inR_nI hq (by omega))) rfl c2_113 rfl rfl rfl d2_relay_7 (Nat.le_of_ble_eq_true rfl) (Nat.le_of_ble_eq_true rfl) rfl rfl ?_
  refine k_go 99 [] T2_relay_ok (fun K hK => ?_)
  refine hK _ ?_
  refine k_callV (Y' := Y2_needBegin) (as := [.int (nI s), .int (nI r)]) (st := []) (m2_needBegin_ok (inR_nI hs (by omega)) (inR_nI hr (by omega))) rfl c2_98 rfl rfl rfl d2_relay_14 (Nat.le_of_ble_eq_true rfl) (Nat.le_of_ble_eq_true rfl) rfl rfl ?_
  refine k_go 99 [] T2_relay_ok (fun K hK => ?_)
  refine hK _ ?_
  refine k_callV (Y' := Y2_needFreeBegin) (as := [.int (nI u), .int (nI s)]) (st := []) (m2_needFreeBegin_ok I.1 h4 (by omega) (by omega) h) rfl c2_103 rfl rfl rfl d2_relay_20 (Nat.le_of_ble_eq_true rfl) (Nat.le_of_ble_eq_true rfl) rfl rfl ?_
  refine k_go 99 [] T2_relay_ok (fun K hK => ?_)
  refine k_at (j := q) (by omega) ?_
  refine z_ne (a := a 15 q) (by omega) (fun _ => ?_) (fun e1 => ?_)
  · refine hK _ ?_
    exact k_throw (E := "java/lang/IllegalStateException") (st := []) rfl kt_124 rfl d2_relay_44 d2_relay_47 d2_relay_48 d2_relay_50 d2_relay_53 (by decide) (Nat.le_of_ble_eq_true rfl) rfl rfl (Nat.le_of_ble_eq_true rfl) (Nat.le_of_ble_eq_true rfl)
  · refine hK _ ?_
    refine k_callV (Y' := Y2_heardAllSlots) (as := [.int (nI u), .int (nI q)]) (st := []) (m2_heard I (by omega) (by omega)) rfl c2_119 rfl rfl rfl d2_relay_38 (Nat.le_of_ble_eq_true rfl) (Nat.le_of_ble_eq_true rfl) rfl rfl ?_
    refine k_go 99 [] T2_relay_ok (fun K hK => ?_)
    refine q_ne (fun e2 => absurd ⟨e1, e2⟩ hh) (fun _ => ?_)
    refine hK _ ?_
    exact k_throw (E := "java/lang/IllegalStateException") (st := []) rfl kt_124 rfl d2_relay_44 d2_relay_47 d2_relay_48 d2_relay_50 d2_relay_53 (by decide) (Nat.le_of_ble_eq_true rfl) rfl rfl (Nat.le_of_ble_eq_true rfl) (Nat.le_of_ble_eq_true rfl)
theorem m2_relay_full (I : IvA f a) {u q s r : Nat} (hu : u < f 2) (hq : q < f 4) (hs : s < f 0) (hr : r < 10) (h : ¬ hasB f a u s) (hh : a 15 q = 0 ∧ haB f a u q = true) (h60 : 60 ≤ f 4) : k_Met Y2_relay [.ref 0, .int (nI u), .int (nI q), .int (nI s), .int (nI r)] (hX f a G B o) (.inr "java/lang/UnsupportedOperationException", hX f a G B o, 1, 6) := by
  have h0 := I.2.2.2.2.2.2.2.1
  have h2 := I.2.2.2.2.2.2.2.2.2.2.2.2.1
  have h4 := I.2.2.2.2.2.2.2.2.2.1
  have h15 := I.1 15 q (by omega)
  refine k_intro (by decide +kernel) rfl rfl rfl ?_
  refine k_go 99 [] T2_relay_ok (fun K hK => ?_)
  refine hK _ ?_
  refine k_callV (Y' := Y2_needUnit) (as := [.int (nI u)]) (st := []) (m2_needUnit_ok (inR_nI hu (by omega))) rfl c2_62 rfl rfl rfl d2_relay_2 (Nat.le_of_ble_eq_true rfl) (Nat.le_of_ble_eq_true rfl) rfl rfl ?_
  refine k_go 99 [] T2_relay_ok (fun K hK => ?_)
  refine hK _ ?_
  refine k_callV (Y' := Y2_needMessage) (as := [.int (nI q)]) (st := []) (m2_needMessage_ok (inR_nI hq (by omega))) rfl c2_113 rfl rfl rfl d2_relay_7 (Nat.le_of_ble_eq_true rfl) (Nat.le_of_ble_eq_true rfl) rfl rfl ?_
  refine k_go 99 [] T2_relay_ok (fun K hK => ?_)
  refine hK _ ?_
  refine k_callV (Y' := Y2_needBegin) (as := [.int (nI s), .int (nI r)]) (st := []) (m2_needBegin_ok (inR_nI hs (by omega)) (inR_nI hr (by omega))) rfl c2_98 rfl rfl rfl d2_relay_14 (Nat.le_of_ble_eq_true rfl) (Nat.le_of_ble_eq_true rfl) rfl rfl ?_
  refine k_go 99 [] T2_relay_ok (fun K hK => ?_)
  refine hK _ ?_
  refine k_callV (Y' := Y2_needFreeBegin) (as := [.int (nI u), .int (nI s)]) (st := []) (m2_needFreeBegin_ok I.1 h4 (by omega) (by omega) h) rfl c2_103 rfl rfl rfl d2_relay_20 (Nat.le_of_ble_eq_true rfl) (Nat.le_of_ble_eq_true rfl) rfl rfl ?_
  refine k_go 99 [] T2_relay_ok (fun K hK => ?_)
  refine k_at (j := q) (by omega) ?_
  refine z_ne (a := a 15 q) (by omega) (fun e => absurd hh.1 (by omega)) (fun _ => ?_)
  refine hK _ ?_
  refine k_callV (Y' := Y2_heardAllSlots) (as := [.int (nI u), .int (nI q)]) (st := []) (m2_heard I (by omega) (by omega)) rfl c2_119 rfl rfl rfl d2_relay_38 (Nat.le_of_ble_eq_true rfl) (Nat.le_of_ble_eq_true rfl) rfl rfl ?_
  refine k_go 99 [] T2_relay_ok (fun K hK => ?_)
  refine q_ne (fun _ => ?_) (fun e => by rw [hh.2] at e; cases e)
  refine hK _ ?_
  exact k_callVX (Y' := Y2_needRoomForMessage) (as := []) (st := []) (m2_needRoom_bad (by omega) h60) rfl c2_106 rfl rfl rfl d2_relay_55 (Nat.le_of_ble_eq_true rfl) (Nat.le_of_ble_eq_true rfl) rfl rfl rfl
theorem m2_relay_ok (I : IvA f a) {u q s r : Nat} (hu : u < f 2) (hq : q < f 4) (hs : s < f 0) (hr : r < 10) (h : ¬ hasB f a u s) (hh : a 15 q = 0 ∧ haB f a u q = true) (h60 : f 4 < 60) : k_Met Y2_relay [.ref 0, .int (nI u), .int (nI q), .int (nI s), .int (nI r)] (hX f a G B o) (.inl (some (.int (nI (f 4)))), hX (up1 f 4 (f 4 + 1)) (telA f a u s (a 11 q) r) G B o, 0, 0) := by
  have h0 := I.2.2.2.2.2.2.2.1
  have h2 := I.2.2.2.2.2.2.2.2.2.2.2.2.1
  have h4 := I.2.2.2.2.2.2.2.2.2.1
  have h15 := I.1 15 q (by omega)
  refine k_intro (by decide +kernel) rfl rfl rfl ?_
  refine k_go 99 [] T2_relay_ok (fun K hK => ?_)
  refine hK _ ?_
  refine k_callV (Y' := Y2_needUnit) (as := [.int (nI u)]) (st := []) (m2_needUnit_ok (inR_nI hu (by omega))) rfl c2_62 rfl rfl rfl d2_relay_2 (Nat.le_of_ble_eq_true rfl) (Nat.le_of_ble_eq_true rfl) rfl rfl ?_
  refine k_go 99 [] T2_relay_ok (fun K hK => ?_)
  refine hK _ ?_
  refine k_callV (Y' := Y2_needMessage) (as := [.int (nI q)]) (st := []) (m2_needMessage_ok (inR_nI hq (by omega))) rfl c2_113 rfl rfl rfl d2_relay_7 (Nat.le_of_ble_eq_true rfl) (Nat.le_of_ble_eq_true rfl) rfl rfl ?_
  refine k_go 99 [] T2_relay_ok (fun K hK => ?_)
  refine hK _ ?_
  refine k_callV (Y' := Y2_needBegin) (as := [.int (nI s), .int (nI r)]) (st := []) (m2_needBegin_ok (inR_nI hs (by omega)) (inR_nI hr (by omega))) rfl c2_98 rfl rfl rfl d2_relay_14 (Nat.le_of_ble_eq_true rfl) (Nat.le_of_ble_eq_true rfl) rfl rfl ?_
  refine k_go 99 [] T2_relay_ok (fun K hK => ?_)
  refine hK _ ?_
  refine k_callV (Y' := Y2_needFreeBegin) (as := [.int (nI u), .int (nI s)]) (st := []) (m2_needFreeBegin_ok I.1 h4 (by omega) (by omega) h) rfl c2_103 rfl rfl rfl d2_relay_20 (Nat.le_of_ble_eq_true rfl) (Nat.le_of_ble_eq_true rfl) rfl rfl ?_
  refine k_go 99 [] T2_relay_ok (fun K hK => ?_)
  refine k_at (j := q) (by omega) ?_
  refine z_ne (a := a 15 q) (by omega) (fun e => absurd hh.1 (by omega)) (fun _ => ?_)
  refine hK _ ?_
  refine k_callV (Y' := Y2_heardAllSlots) (as := [.int (nI u), .int (nI q)]) (st := []) (m2_heard I (by omega) (by omega)) rfl c2_119 rfl rfl rfl d2_relay_38 (Nat.le_of_ble_eq_true rfl) (Nat.le_of_ble_eq_true rfl) rfl rfl ?_
  refine k_go 99 [] T2_relay_ok (fun K hK => ?_)
  refine q_ne (fun _ => ?_) (fun e => by rw [hh.2] at e; cases e)
  refine hK _ ?_
  refine k_callV (Y' := Y2_needRoomForMessage) (as := []) (st := []) (m2_needRoom_ok h60) rfl c2_106 rfl rfl rfl d2_relay_55 (Nat.le_of_ble_eq_true rfl) (Nat.le_of_ble_eq_true rfl) rfl rfl ?_
  refine k_go 99 [] T2_relay_ok (fun K hK => ?_)
  refine k_at (j := q) (by omega) ?_
  refine hK _ ?_
  refine k_callV (Y' := Y2_tell) (as := [.int (nI u), .int (nI s), .int (nI (a 11 q)), .int (nI r)]) (st := []) (m2_tell I h60 (by omega) hs (I.2.2.2.2.2.2.2.2.2.2.2.1 q) hr) rfl c2_109 rfl rfl rfl d2_relay_72 (Nat.le_of_ble_eq_true rfl) (Nat.le_of_ble_eq_true rfl) rfl rfl ?_
  exact k_ireturn d2_relay_75 rfl rfl rfl rfl (Nat.le_of_ble_eq_true rfl) (Nat.le_of_ble_eq_true rfl)
end TL
end
section
abbrev hY (g : Nat → Nat) (b : Nat → Nat → Nat) (F : Nat → Int32) (A : Nat → Nat → Int32) (o : Nat → Int64) : List k_O := hA F A (cF g) (cA b) o
theorem hY_eq {F : Nat → Int32} {A : Nat → Nat → Int32} {G G' : Nat → Int32} {B B' : Nat → Nat → Int32} {o : Nat → Int64} (h1 : G = G') (h2 : B = B') : hA F A G B o = hA F A G' B' o := by rw [h1, h2]
theorem and_nI : ∀ k, k < 16 → ∀ c, c < 17 → nI k &&& nI c = nI (k &&& c) := by decide +kernel
def gbit (kn rg st ro : Bool) : Nat := if kn = false then 1 else if rg = false then 2 else if st = false then 4 else if ro = false then 8 else 0
def gl (k bit : Nat) : Nat → Nat → Nat → Nat
  | 0, _, t => t
  | n + 1, c, t => if bit < c then t else gl k bit n (2 * c) (if 0 < k &&& c then t + 1 else t)
def gth (k bit : Nat) : Nat := gl k bit 5 1 0
theorem in_suc {x : Int32} {n : Nat} (hn : n + 1 < 2 ^ 31) : (¬ x < 0 ∧ ¬ nI n < x) ↔ inR x (n + 1) := by
  rw [lt_suc hn]
theorem in_pre {x : Int32} {n : Nat} (hn : n < 2 ^ 31) : (¬ x < 0 ∧ ¬ nI n - nI 1 < x) ↔ inR x n := by
  cases n with
  | zero =>
    constructor
    · intro h
      exfalso
      obtain ⟨h1, h2⟩ := h
      have e : nI 0 - nI 1 = -1 := by decide
      rw [e] at h2
      rw [Int32.lt_iff_toInt_lt] at h1 h2
      have e1 : (0 : Int32).toInt = 0 := rfl
      have e2 : (-1 : Int32).toInt = -1 := rfl
      rw [e1] at h1; rw [e2] at h2
      omega
    · intro h
      exact absurd h.2 (by rw [nI_0]; exact h.1)
  | succ n =>
    rw [show nI (n + 1) - nI 1 = nI n from nI_pred n]
    exact in_suc hn
section MD
variable {g : Nat → Nat} {b : Nat → Nat → Nat} {F : Nat → Int32} {A : Nat → Nat → Int32} {o : Nat → Int64} {x y z w : Int32}
theorem m3_thrown  : k_Met Y3_thrown [.ref 24] (hY g b F A o) (.inl (some (.int (nI (g 0)))), hY g b F A o, 0, 0) := by
  refine k_intro (by decide +kernel) rfl rfl rfl ?_
  refine k_go 99 [] T3_thrown_ok (fun K hK => ?_)
  refine hK _ ?_
  exact k_ireturn d3_thrown_4 rfl rfl rfl rfl (Nat.le_of_ble_eq_true rfl) (Nat.le_of_ble_eq_true rfl)
theorem m3_in  : k_Met Y3_in [.int x, .int y, .int z] (hY g b F A o) (.inl (some (.int (bB (decide (¬ x < y ∧ ¬ z < x))))), hY g b F A o, 0, 0) := by
  refine k_intro (by decide +kernel) rfl rfl rfl ?_
  refine k_go 99 [] T3_in_ok (fun K hK => ?_)
  refine And.intro (fun h => ?_) (fun h => ?_)
  · refine hK _ ?_
    exact k_ireturn d3_in_15 rfl rfl (rbB (b := false) (decide_eq_false (fun q => q.1 h))) rfl (Nat.le_of_ble_eq_true rfl) (Nat.le_of_ble_eq_true rfl)
  · refine And.intro (fun h2 => ?_) (fun h2 => ?_)
    · refine hK _ ?_
      exact k_ireturn d3_in_15 rfl rfl (rbB (b := false) (decide_eq_false (fun q => q.2 h2))) rfl (Nat.le_of_ble_eq_true rfl) (Nat.le_of_ble_eq_true rfl)
    · refine hK _ ?_
      exact k_ireturn d3_in_15 rfl rfl (rbB (b := true) (decide_eq_true ⟨h, h2⟩)) rfl (Nat.le_of_ble_eq_true rfl) (Nat.le_of_ble_eq_true rfl)
theorem m3_inR {n : Nat} (hn : n + 1 < 2 ^ 31) : k_Met Y3_in [.int x, .int (nI 0), .int (nI n)] (hY g b F A o) (.inl (some (.int (bB (decide (inR x (n + 1)))))), hY g b F A o, 0, 0) := by
  have h := m3_in (g := g) (b := b) (F := F) (A := A) (o := o) (x := x) (y := nI 0) (z := nI n)
  have e : decide (¬ x < nI 0 ∧ ¬ nI n < x) = decide (inR x (n + 1)) := decide_eq_decide.mpr (by rw [nI_0]; exact in_suc hn)
  rw [e] at h
  exact h
theorem m3_isPoint  : k_Met Y3_isPoint [.int x, .int y] (hY g b F A o) (.inl (some (.int (bB (decide (inR x 10000) && decide (inR y 10000))))), hY g b F A o, 0, 0) := by
  refine k_intro (by decide +kernel) rfl rfl rfl ?_
  refine k_go 99 [] T3_isPoint_ok (fun K hK => ?_)
  refine hK _ ?_
  refine k_callS (Y' := Y3_in) (as := [.int x, .int (nI 0), .int (nI 9999)]) (st := []) (m3_inR (n := 9999) (by omega)) rfl c3_72 rfl rfl d3_isPoint_5 (Nat.le_of_ble_eq_true rfl) (Nat.le_of_ble_eq_true rfl) rfl rfl ?_
  refine k_go 99 [] T3_isPoint_ok (fun K hK => ?_)
  refine q_eq (fun h => ?_) (fun h => ?_)
  · refine hK _ ?_
    exact k_ireturn d3_isPoint_27 rfl rfl (rbB (b := false) (by rw [h]; rfl)) rfl (Nat.le_of_ble_eq_true rfl) (Nat.le_of_ble_eq_true rfl)
  · refine hK _ ?_
    refine k_callS (Y' := Y3_in) (as := [.int y, .int (nI 0), .int (nI 9999)]) (st := []) (m3_inR (n := 9999) (by omega)) rfl c3_72 rfl rfl d3_isPoint_16 (Nat.le_of_ble_eq_true rfl) (Nat.le_of_ble_eq_true rfl) rfl rfl ?_
    refine k_go 99 [] T3_isPoint_ok (fun K hK => ?_)
    refine q_eq (fun h2 => ?_) (fun h2 => ?_)
    · refine hK _ ?_
      exact k_ireturn d3_isPoint_27 rfl rfl (rbB (b := false) (by rw [h, h2]; rfl)) rfl (Nat.le_of_ble_eq_true rfl) (Nat.le_of_ble_eq_true rfl)
    · refine hK _ ?_
      exact k_ireturn d3_isPoint_27 rfl rfl (rbB (b := true) (by rw [h, h2]; rfl)) rfl (Nat.le_of_ble_eq_true rfl) (Nat.le_of_ble_eq_true rfl)
theorem m3_isChannel  : k_Met Y3_isChannel [.int x] (hY g b F A o) (.inl (some (.int (bB (decide (inR x 6))))), hY g b F A o, 0, 0) := by
  refine k_intro (by decide +kernel) rfl rfl rfl ?_
  refine k_go 99 [] T3_isChannel_ok (fun K hK => ?_)
  refine hK _ ?_
  refine k_callS (Y' := Y3_in) (as := [.int x, .int (nI 0), .int (nI 5)]) (st := []) (m3_inR (n := 5) (by omega)) rfl c3_72 rfl rfl d3_isChannel_3 (Nat.le_of_ble_eq_true rfl) (Nat.le_of_ble_eq_true rfl) rfl rfl ?_
  exact k_ireturn d3_isChannel_6 rfl (bB_nar _) rfl rfl (Nat.le_of_ble_eq_true rfl) (Nat.le_of_ble_eq_true rfl)
theorem m3_isUnit (hf : g 3 < 2 ^ 31) : k_Met Y3_isUnit [.ref 24, .int x] (hY g b F A o) (.inl (some (.int (bB (decide (inR x (g 3)))))), hY g b F A o, 0, 0) := by
  have h := m3_in (g := g) (b := b) (F := F) (A := A) (o := o) (x := x) (y := nI 0) (z := nI (g 3) - nI 1)
  have e : decide (¬ x < nI 0 ∧ ¬ nI (g 3) - nI 1 < x) = decide (inR x (g 3)) := decide_eq_decide.mpr (by rw [nI_0]; exact in_pre hf)
  rw [e] at h
  refine k_intro (by decide +kernel) rfl rfl rfl ?_
  refine k_go 99 [] T3_isUnit_ok (fun K hK => ?_)
  refine k_eq rfl ?_
  refine hK _ ?_
  refine k_callS (Y' := Y3_in) (as := [.int x, .int (nI 0), .int (nI (g 3) - nI 1)]) (st := []) (h) rfl c3_72 rfl rfl d3_isUnit_8 (Nat.le_of_ble_eq_true rfl) (Nat.le_of_ble_eq_true rfl) rfl rfl ?_
  exact k_ireturn d3_isUnit_11 rfl (bB_nar _) rfl rfl (Nat.le_of_ble_eq_true rfl) (Nat.le_of_ble_eq_true rfl)
theorem m3_isMessage (hf : g 5 < 2 ^ 31) : k_Met Y3_isMessage [.ref 24, .int x] (hY g b F A o) (.inl (some (.int (bB (decide (inR x (g 5)))))), hY g b F A o, 0, 0) := by
  have h := m3_in (g := g) (b := b) (F := F) (A := A) (o := o) (x := x) (y := nI 0) (z := nI (g 5) - nI 1)
  have e : decide (¬ x < nI 0 ∧ ¬ nI (g 5) - nI 1 < x) = decide (inR x (g 5)) := decide_eq_decide.mpr (by rw [nI_0]; exact in_pre hf)
  rw [e] at h
  refine k_intro (by decide +kernel) rfl rfl rfl ?_
  refine k_go 99 [] T3_isMessage_ok (fun K hK => ?_)
  refine k_eq rfl ?_
  refine hK _ ?_
  refine k_callS (Y' := Y3_in) (as := [.int x, .int (nI 0), .int (nI (g 5) - nI 1)]) (st := []) (h) rfl c3_72 rfl rfl d3_isMessage_8 (Nat.le_of_ble_eq_true rfl) (Nat.le_of_ble_eq_true rfl) rfl rfl ?_
  exact k_ireturn d3_isMessage_11 rfl (bB_nar _) rfl rfl (Nat.le_of_ble_eq_true rfl) (Nat.le_of_ble_eq_true rfl)
theorem m3_isSlot (hf : g 1 < 2 ^ 31) : k_Met Y3_isSlot [.ref 24, .int x] (hY g b F A o) (.inl (some (.int (bB (decide (inR x (g 1)))))), hY g b F A o, 0, 0) := by
  have h := m3_in (g := g) (b := b) (F := F) (A := A) (o := o) (x := x) (y := nI 0) (z := nI (g 1) - nI 1)
  have e : decide (¬ x < nI 0 ∧ ¬ nI (g 1) - nI 1 < x) = decide (inR x (g 1)) := decide_eq_decide.mpr (by rw [nI_0]; exact in_pre hf)
  rw [e] at h
  refine k_intro (by decide +kernel) rfl rfl rfl ?_
  refine k_go 99 [] T3_isSlot_ok (fun K hK => ?_)
  refine k_eq rfl ?_
  refine hK _ ?_
  refine k_callS (Y' := Y3_in) (as := [.int x, .int (nI 0), .int (nI (g 1) - nI 1)]) (st := []) (h) rfl c3_72 rfl rfl d3_isSlot_8 (Nat.le_of_ble_eq_true rfl) (Nat.le_of_ble_eq_true rfl) rfl rfl ?_
  exact k_ireturn d3_isSlot_11 rfl (bB_nar _) rfl rfl (Nat.le_of_ble_eq_true rfl) (Nat.le_of_ble_eq_true rfl)
theorem m3_goes_loop {k bit : Nat} (hk : k < 16) (hbit : bit < 16) {v1 v2 v3 v4 : Int32} : ∀ (n c t : Nat) (g : Nat → Nat), g 0 = t → c * 2 ^ n = 32 → t + n ≤ 5 → t + n ≤ 10 → ∀ (r : Nat), r = gl k bit n c t →
    k_W Y3_goes none (.inl (some (.int (bB (decide (bit = 0))))), hY (up1 g 0 r) b F A o, 0, 0) (46, [(7, .int (nI c)), (6, .int (nI bit)), (0, .ref 24), (1, .int (nI k)), (2, .int v1), (3, .int v2), (4, .int v3), (5, .int v4)], [], hY g b F A o, 0, 0) := by
  have fin : ∀ (c : Nat) (g : Nat → Nat) (r : Nat), g 0 = r → k_W Y3_goes none (.inl (some (.int (bB (decide (bit = 0))))), hY (up1 g 0 r) b F A o, 0, 0) (79, [(7, .int (nI c)), (6, .int (nI bit)), (0, .ref 24), (1, .int (nI k)), (2, .int v1), (3, .int v2), (4, .int v3), (5, .int v4)], [], hY g b F A o, 0, 0) := by
    intro c g r e
    have e9 : up1 g 0 r = g := by
      funext j
      unfold up1
      split
      · next h => rw [h, e]
      · rfl
    rw [e9]
    refine k_go 99 [] T3_goes_ok (fun K hK => ?_)
    refine z_ne (a := bit) (by omega) (fun h => ?_) (fun h => ?_)
    · refine hK _ ?_
      exact k_ireturn d3_goes_89 rfl rfl (rbB (b := false) (decide_eq_false (by omega))) rfl (Nat.le_of_ble_eq_true rfl) (Nat.le_of_ble_eq_true rfl)
    · refine hK _ ?_
      exact k_ireturn d3_goes_89 rfl rfl (rbB (b := true) (decide_eq_true h)) rfl (Nat.le_of_ble_eq_true rfl) (Nat.le_of_ble_eq_true rfl)
  intro n
  induction n with
  | zero =>
    intro c t g e hc ht htn r hr
    have hc : c = 32 := by omega
    subst hc
    refine k_go 99 [46, 79] T3_goes_ok (fun K hK => ?_)
    refine b_gt (a := 32) (b := bit) (by omega) (by omega) (fun h => ?_) (fun h => absurd h (by omega))
    refine hK _ ?_
    exact fin 32 g r (e.trans hr.symm)
  | succ n ih =>
    intro c t g e hc ht htn r hr
    have hr2 : r = if bit < c then t else gl k bit n (2 * c) (if 0 < k &&& c then t + 1 else t) := hr
    have hc2 : 2 * c * 2 ^ n = 32 := by rw [← hc, Nat.pow_succ, Nat.mul_comm 2 c, Nat.mul_assoc, Nat.mul_comm 2 (2 ^ n)]
    have hpos : 0 < 2 ^ n := Nat.two_pow_pos n
    have hc17 : c < 17 := by
      have h1 : 2 * c ≤ 2 * c * 2 ^ n := Nat.le_mul_of_pos_right _ hpos
      omega
    refine k_go 99 [46, 79] T3_goes_ok (fun K hK => ?_)
    refine b_gt (a := c) (b := bit) (by omega) (by omega) (fun h => ?_) (fun h => ?_)
    · rw [if_pos h] at hr2
      refine hK _ ?_
      exact fin c g r (e.trans hr2.symm)
    · rw [if_neg (by omega)] at hr2
      have hand : k &&& c < 2 ^ 31 := Nat.lt_of_le_of_lt Nat.and_le_left (by omega)
      refine k_eq (z := nI (k &&& c)) (and_nI k hk c hc17) ?_
      refine z_le (a := k &&& c) hand (fun h2 => ?_) (fun h2 => ?_)
      · rw [if_neg (by omega)] at hr2
        refine k_eq (z := nI (2 * c)) (pk_mul 2 c) ?_
        refine hK _ ?_
        exact ih (2 * c) t g e hc2 (by omega) (by omega) r hr2
      · rw [if_pos h2] at hr2
        refine k_eq (z := nI (g 0 + 1)) (nI_add _ 1) ?_
        refine k_eq (z := nI (2 * c)) (pk_mul 2 c) ?_
        refine hK _ ?_
        refine k_heq (hY_eq (cF_up' (f := g) (k := 0) (v := g 0 + 1) rfl) rfl) ?_
        have e2 : up1 (up1 g 0 (g 0 + 1)) 0 r = up1 g 0 r := by
          funext j; unfold up1; split <;> rfl
        have := ih (2 * c) (t + 1) (up1 g 0 (g 0 + 1)) (by show g 0 + 1 = t + 1; omega) hc2 (by omega) (by omega) r hr2
        rw [e2] at this
        exact this
theorem m3_goes {k : Nat} (hk : k < 16) (kn rg st ro : Bool) : k_Met Y3_goes [.ref 24, .int (nI k), .int (bB kn), .int (bB rg), .int (bB st), .int (bB ro)] (hY g b F A o) (.inl (some (.int (bB (kn && rg && st && ro)))), hY (up1 g 0 (gth k (gbit kn rg st ro))) b F A o, 0, 0) := by
  have main : ∀ (bit : Nat), bit < 16 → gbit kn rg st ro = bit → (kn && rg && st && ro) = decide (bit = 0) → k_W Y3_goes none (.inl (some (.int (bB (kn && rg && st && ro)))), hY (up1 g 0 (gth k (gbit kn rg st ro))) b F A o, 0, 0) (36, [(0, .ref 24), (1, .int (nI k)), (2, .int (bB kn)), (3, .int (bB rg)), (4, .int (bB st)), (5, .int (bB ro))], [.int (nI bit)], hY g b F A o, 0, 0) := by
    intro bit hb e1 e2
    rw [e1, e2]
    refine k_go 99 [46] T3_goes_ok (fun K hK => ?_)
    refine hK _ ?_
    refine k_heq (hY_eq (cF_up' (f := g) (k := 0) (v := 0) rfl) rfl) ?_
    have e3 : up1 (up1 g 0 0) 0 (gth k bit) = up1 g 0 (gth k bit) := by
      funext j; unfold up1; split <;> rfl
    have := m3_goes_loop (b := b) (F := F) (A := A) (o := o) hk hb (v1 := bB kn) (v2 := bB rg) (v3 := bB st) (v4 := bB ro) 5 1 0 (up1 g 0 0) rfl (by decide) (by omega) (by omega) (gth k bit) rfl
    rw [e3] at this
    exact this
  refine k_intro (by decide +kernel) rfl rfl rfl ?_
  generalize ((.inl (some (.int (bB (kn && rg && st && ro)))), hY (up1 g 0 (gth k (gbit kn rg st ro))) b F A o, 0, 0) : k_G) = G9 at main ⊢
  refine k_go 99 [36] T3_goes_ok (fun K hK => ?_)
  refine q_ne (fun h1 => ?_) (fun h1 => ?_)
  · refine q_ne (fun h2 => ?_) (fun h2 => ?_)
    · refine q_ne (fun h3 => ?_) (fun h3 => ?_)
      · refine q_ne (fun h4 => ?_) (fun h4 => ?_)
        · exact hK _ (main 0 (by omega) (by rw [h1, h2, h3, h4]; rfl) (by rw [h1, h2, h3, h4]; rfl))
        · exact hK _ (main 8 (by omega) (by rw [h1, h2, h3, h4]; rfl) (by rw [h1, h2, h3, h4]; rfl))
      · exact hK _ (main 4 (by omega) (by rw [h1, h2, h3]; rfl) (by rw [h1, h2, h3]; rfl))
    · exact hK _ (main 2 (by omega) (by rw [h1, h2]; rfl) (by rw [h1, h2]; rfl))
  · exact hK _ (main 1 (by omega) (by rw [h1]; rfl) (by rw [h1]; rfl))
end MD
end
section
section MB
variable {g : Nat → Nat} {b : Nat → Nat → Nat} {F : Nat → Int32} {A : Nat → Nat → Int32} {o : Nat → Int64} {x y z w : Int32}
theorem m3_day_big (h : nI 1000 < x) : k_Met Y3_day [.ref 24, .int x] (hY g b F A o) (.inl none, hY (up1 g 0 1) b F A o, 0, 0) := by
  refine k_intro (by decide +kernel) rfl rfl rfl ?_
  refine k_go 99 [] T3_day_ok (fun K hK => ?_)
  refine And.intro (fun _ => ?_) (fun q => absurd h q)
  refine And.intro (fun _ => ?_) (fun _ => ?_)
  · refine hK _ ?_
    refine k_callV (Y' := Y3_goes) (as := [.int (nI 3), .int (bB false), .int (bB false), .int (bB true), .int (bB true)]) (st := []) (m3_goes (k := 3) (by omega) false false true true) rfl c3_85 rfl rfl rfl d3_day_25 (Nat.le_of_ble_eq_true rfl) (Nat.le_of_ble_eq_true rfl) rfl rfl ?_
    refine k_go 99 [] T3_day_ok (fun K hK => ?_)
    refine q_ne (fun e => absurd e (by decide)) (fun _ => ?_)
    refine hK _ ?_
    exact k_return d3_day_31 rfl rfl rfl (Nat.le_of_ble_eq_true rfl) (Nat.le_of_ble_eq_true rfl)
  · refine hK _ ?_
    refine k_callV (Y' := Y3_goes) (as := [.int (nI 3), .int (bB false), .int (bB true), .int (bB true), .int (bB true)]) (st := []) (m3_goes (k := 3) (by omega) false true true true) rfl c3_85 rfl rfl rfl d3_day_25 (Nat.le_of_ble_eq_true rfl) (Nat.le_of_ble_eq_true rfl) rfl rfl ?_
    refine k_go 99 [] T3_day_ok (fun K hK => ?_)
    refine q_ne (fun e => absurd e (by decide)) (fun _ => ?_)
    refine hK _ ?_
    exact k_return d3_day_31 rfl rfl rfl (Nat.le_of_ble_eq_true rfl) (Nat.le_of_ble_eq_true rfl)
theorem m3_day_neg (h : ¬ nI 1000 < x) (h2 : x < 0) : k_Met Y3_day [.ref 24, .int x] (hY g b F A o) (.inl none, hY (up1 g 0 2) b F A o, 0, 0) := by
  refine k_intro (by decide +kernel) rfl rfl rfl ?_
  refine k_go 99 [] T3_day_ok (fun K hK => ?_)
  refine And.intro (fun q => absurd q h) (fun _ => ?_)
  refine And.intro (fun _ => ?_) (fun q => absurd h2 q)
  refine hK _ ?_
  refine k_callV (Y' := Y3_goes) (as := [.int (nI 3), .int (bB true), .int (bB false), .int (bB true), .int (bB true)]) (st := []) (m3_goes (k := 3) (by omega) true false true true) rfl c3_85 rfl rfl rfl d3_day_25 (Nat.le_of_ble_eq_true rfl) (Nat.le_of_ble_eq_true rfl) rfl rfl ?_
  refine k_go 99 [] T3_day_ok (fun K hK => ?_)
  refine q_ne (fun e => absurd e (by decide)) (fun _ => ?_)
  refine hK _ ?_
  exact k_return d3_day_31 rfl rfl rfl (Nat.le_of_ble_eq_true rfl) (Nat.le_of_ble_eq_true rfl)
def dyG (g : Nat → Nat) (n : Nat) : Nat → Nat := up1 (up1 (up1 (up1 (up1 (up1 g 0 0) 1 n) 2 0) 3 0) 4 0) 5 0
def dyB (b : Nat → Nat → Nat) : Nat → Nat → Nat := rowA (rowA b 0 (flR (b 0) (fun c => c) 6)) 14 (flR (b 14) (fun _ => 0) 1000)
theorem m3_day_2 : ∀ (n i : Nat), 1000 - i < n → i ≤ 1000 → ∀ (v : Int32),
    k_W Y3_day none (.inl none, hY g (rowA b 14 (flR (b 14) (fun _ => 0) 1000)) F A o, 0, 0) (80, [(2, .int (nI i)), (0, .ref 24), (1, .int v)], [], hY g (rowA b 14 (flR (b 14) (fun _ => 0) i)) F A o, 0, 0) := by
  intro n
  induction n with
  | zero => intro i h; omega
  | succ n ih =>
    intro i hn hi v
    refine k_go 99 [80] T3_day_ok (fun K hK => ?_)
    refine b_ge (a := i) (b := 1000) (by omega) (by omega) (fun h => ?_) (fun h => ?_)
    · have e : i = 1000 := by omega
      subst e
      refine hK _ ?_
      exact k_return d3_day_100 rfl rfl rfl (Nat.le_refl _) (Nat.le_refl _)
    · refine And.intro (Or.inl rfl) ?_
      refine k_at (j := i) (by omega) ?_
      refine k_eq (z := nI (i + 1)) (nI_add i 1) ?_
      refine hK _ ?_
      refine k_heq (hY_eq rfl ((cA_up (rowA b 14 (flR (b 14) (fun _ => 0) i)) 14 i 0).trans (congrArg cA ((up2_row b 14 i 0 _).trans (congrArg (rowA b 14) (flR_s (b 14) (fun _ => 0) i)))))) ?_
      exact ih (i + 1) (by omega) (by omega) v
theorem m3_day_1 : ∀ (n i : Nat), 6 - i < n → i ≤ 6 → ∀ (v : Int32),
    k_W Y3_day none (.inl none, hY g (dyB b) F A o, 0, 0) (59, [(2, .int (nI i)), (0, .ref 24), (1, .int v)], [], hY g (rowA b 0 (flR (b 0) (fun c => c) i)) F A o, 0, 0) := by
  intro n
  induction n with
  | zero => intro i h; omega
  | succ n ih =>
    intro i hn hi v
    refine k_go 99 [59, 80] T3_day_ok (fun K hK => ?_)
    refine b_ge (a := i) (b := 6) (by omega) (by omega) (fun h => ?_) (fun h => ?_)
    · have e : i = 6 := by omega
      subst e
      refine hK _ ?_
      have := m3_day_2 (g := g) (b := rowA b 0 (flR (b 0) (fun c => c) 6)) (F := F) (A := A) (o := o) 1001 0 (by omega) (by omega) v
      rw [flR_0, rowA_self] at this
      exact this
    · refine k_at (j := i) (by omega) ?_
      refine k_eq (z := nI (i + 1)) (nI_add i 1) ?_
      refine hK _ ?_
      refine k_heq (hY_eq rfl ((cA_up (rowA b 0 (flR (b 0) (fun c => c) i)) 0 i i).trans (congrArg cA ((up2_row b 0 i i _).trans (congrArg (rowA b 0) (flR_s (b 0) (fun c => c) i)))))) ?_
      exact ih (i + 1) (by omega) (by omega) v
theorem m3_day_ok {n : Nat} (hn : n ≤ 1000) : k_Met Y3_day [.ref 24, .int (nI n)] (hY g b F A o) (.inl none, hY (dyG g n) (dyB b) F A o, 0, 0) := by
  refine k_intro (by decide +kernel) rfl rfl rfl ?_
  refine k_go 99 [] T3_day_ok (fun K hK => ?_)
  refine b_gt (a := n) (b := 1000) (by omega) (by omega) (fun h => absurd h (by omega)) (fun _ => ?_)
  refine z_lt (a := n) (by omega) ?_
  refine hK _ ?_
  refine k_callV (Y' := Y3_goes) (as := [.int (nI 3), .int (bB true), .int (bB true), .int (bB true), .int (bB true)]) (st := []) (m3_goes (k := 3) (by omega) true true true true) rfl c3_85 rfl rfl rfl d3_day_25 (Nat.le_of_ble_eq_true rfl) (Nat.le_of_ble_eq_true rfl) rfl rfl ?_
  refine k_go 99 [59] T3_day_ok (fun K hK => ?_)
  refine q_ne (fun _ => ?_) (fun e => absurd e (by decide))
  refine hK _ ?_
  refine k_heq (hY_eq (cF_up' (v := 0) (k := 5) (cF_up' (v := 0) (k := 4) (cF_up' (v := 0) (k := 3) (cF_up' (v := 0) (k := 2) (cF_up' (v := n) (k := 1) (f := up1 g 0 0) rfl))))) rfl) ?_
  have := m3_day_1 (g := dyG g n) (b := b) (F := F) (A := A) (o := o) 7 0 (by omega) (by omega) (nI n)
  rw [flR_0, rowA_self] at this
  exact this
theorem m3_unit_bad (hf : g 3 < 10000) (h : ¬ (inR x 10000 ∧ inR y 10000 ∧ inR z 10000 ∧ inR w 6)) : k_Met Y3_unit [.ref 24, .int x, .int y, .int z, .int w] (hY g b F A o) (.inl (some (.int 0)), hY (up1 g 0 1) b F A o, 0, 0) := by
  have tail : k_W Y3_unit none (.inl (some (.int 0)), hY (up1 g 0 1) b F A o, 0, 0) (36, [(0, .ref 24), (1, .int x), (2, .int y), (3, .int z), (4, .int w)], [.int (bB false), .int (nI 1), .int (nI 10), .ref 24], hY g b F A o, 0, 0) := by
    refine k_go 99 [] T3_unit_ok (fun K hK => ?_)
    refine b_ge (a := g 3) (b := 20) (by omega) (by omega) (fun _ => ?_) (fun _ => ?_)
    · refine hK _ ?_
      refine k_callV (Y' := Y3_goes) (as := [.int (nI 10), .int (bB true), .int (bB false), .int (bB true), .int (bB false)]) (st := []) (m3_goes (k := 10) (by omega) true false true false) rfl c3_85 rfl rfl rfl d3_unit_51 (Nat.le_of_ble_eq_true rfl) (Nat.le_of_ble_eq_true rfl) rfl rfl ?_
      refine k_go 99 [] T3_unit_ok (fun K hK => ?_)
      refine q_ne (fun e => absurd e (by decide)) (fun _ => ?_)
      refine hK _ ?_
      exact k_ireturn d3_unit_58 rfl rfl rfl rfl (Nat.le_of_ble_eq_true rfl) (Nat.le_of_ble_eq_true rfl)
    · refine hK _ ?_
      refine k_callV (Y' := Y3_goes) (as := [.int (nI 10), .int (bB true), .int (bB false), .int (bB true), .int (bB true)]) (st := []) (m3_goes (k := 10) (by omega) true false true true) rfl c3_85 rfl rfl rfl d3_unit_51 (Nat.le_of_ble_eq_true rfl) (Nat.le_of_ble_eq_true rfl) rfl rfl ?_
      refine k_go 99 [] T3_unit_ok (fun K hK => ?_)
      refine q_ne (fun e => absurd e (by decide)) (fun _ => ?_)
      refine hK _ ?_
      exact k_ireturn d3_unit_58 rfl rfl rfl rfl (Nat.le_of_ble_eq_true rfl) (Nat.le_of_ble_eq_true rfl)
  refine k_intro (by decide +kernel) rfl rfl rfl ?_
  refine k_go 99 [36] T3_unit_ok (fun K hK => ?_)
  refine hK _ ?_
  refine k_callS (Y' := Y3_isPoint) (as := [.int x, .int y]) (st := [.int (nI 1), .int (nI 10), .ref 24]) (m3_isPoint) rfl c3_95 rfl rfl d3_unit_6 (Nat.le_of_ble_eq_true rfl) (Nat.le_of_ble_eq_true rfl) rfl rfl ?_
  refine k_go 99 [36] T3_unit_ok (fun K hK => ?_)
  refine q_eq (fun _ => hK _ tail) (fun h1 => ?_)
  refine hK _ ?_
  refine k_callS (Y' := Y3_in) (as := [.int z, .int (nI 0), .int (nI 9999)]) (st := [.int (nI 1), .int (nI 10), .ref 24]) (m3_inR (n := 9999) (by omega)) rfl c3_72 rfl rfl d3_unit_17 (Nat.le_of_ble_eq_true rfl) (Nat.le_of_ble_eq_true rfl) rfl rfl ?_
  refine k_go 99 [36] T3_unit_ok (fun K hK => ?_)
  refine q_eq (fun _ => hK _ tail) (fun h2 => ?_)
  refine hK _ ?_
  refine k_callS (Y' := Y3_isChannel) (as := [.int w]) (st := [.int (nI 1), .int (nI 10), .ref 24]) (m3_isChannel) rfl c3_99 rfl rfl d3_unit_25 (Nat.le_of_ble_eq_true rfl) (Nat.le_of_ble_eq_true rfl) rfl rfl ?_
  refine k_go 99 [36] T3_unit_ok (fun K hK => ?_)
  refine q_eq (fun _ => hK _ tail) (fun h3 => ?_)
  exfalso
  simp only [Bool.and_eq_true, decide_eq_true_eq] at h1 h2 h3
  exact h ⟨h1.1, h1.2, h2, h3⟩
theorem m3_unit_full (hf : g 3 < 10000) (h : inR x 10000 ∧ inR y 10000 ∧ inR z 10000 ∧ inR w 6) (h5 : 20 ≤ g 3) : k_Met Y3_unit [.ref 24, .int x, .int y, .int z, .int w] (hY g b F A o) (.inl (some (.int 0)), hY (up1 g 0 2) b F A o, 0, 0) := by
  refine k_intro (by decide +kernel) rfl rfl rfl ?_
  refine k_go 99 [36] T3_unit_ok (fun K hK => ?_)
  refine hK _ ?_
  refine k_callS (Y' := Y3_isPoint) (as := [.int x, .int y]) (st := [.int (nI 1), .int (nI 10), .ref 24]) (m3_isPoint) rfl c3_95 rfl rfl d3_unit_6 (Nat.le_of_ble_eq_true rfl) (Nat.le_of_ble_eq_true rfl) rfl rfl ?_
  refine k_go 99 [36] T3_unit_ok (fun K hK => ?_)
  refine q_eq (fun e => by rw [decide_eq_true h.1, decide_eq_true h.2.1] at e; cases e) (fun _ => ?_)
  refine hK _ ?_
  refine k_callS (Y' := Y3_in) (as := [.int z, .int (nI 0), .int (nI 9999)]) (st := [.int (nI 1), .int (nI 10), .ref 24]) (m3_inR (n := 9999) (by omega)) rfl c3_72 rfl rfl d3_unit_17 (Nat.le_of_ble_eq_true rfl) (Nat.le_of_ble_eq_true rfl) rfl rfl ?_
  refine k_go 99 [36] T3_unit_ok (fun K hK => ?_)
  refine q_eq (fun e => by rw [decide_eq_true h.2.2.1] at e; cases e) (fun _ => ?_)
  refine hK _ ?_
  refine k_callS (Y' := Y3_isChannel) (as := [.int w]) (st := [.int (nI 1), .int (nI 10), .ref 24]) (m3_isChannel) rfl c3_99 rfl rfl d3_unit_25 (Nat.le_of_ble_eq_true rfl) (Nat.le_of_ble_eq_true rfl) rfl rfl ?_
  refine k_go 99 [36] T3_unit_ok (fun K hK => ?_)
  refine q_eq (fun e => by rw [decide_eq_true h.2.2.2] at e; cases e) (fun _ => ?_)
  refine hK _ ?_
  refine k_go 99 [] T3_unit_ok (fun K hK => ?_)
  refine b_ge (a := g 3) (b := 20) (by omega) (by omega) (fun _ => ?_) (fun q => absurd h5 (by omega))
  refine hK _ ?_
  refine k_callV (Y' := Y3_goes) (as := [.int (nI 10), .int (bB true), .int (bB true), .int (bB true), .int (bB false)]) (st := []) (m3_goes (k := 10) (by omega) true true true false) rfl c3_85 rfl rfl rfl d3_unit_51 (Nat.le_of_ble_eq_true rfl) (Nat.le_of_ble_eq_true rfl) rfl rfl ?_
  refine k_go 99 [] T3_unit_ok (fun K hK => ?_)
  refine q_ne (fun e => absurd e (by decide)) (fun _ => ?_)
  refine hK _ ?_
  exact k_ireturn d3_unit_58 rfl rfl rfl rfl (Nat.le_of_ble_eq_true rfl) (Nat.le_of_ble_eq_true rfl)
def adunit (b : Nat → Nat → Nat) (k xx yy r c : Nat) : Nat → Nat → Nat := up2 (up2 (up2 (up2 b 1 k xx) 2 k yy) 3 k r) 4 k c
theorem m3_unit_ok {xx yy r c : Nat} (h1 : xx < 10000) (h2 : yy < 10000) (h3 : r < 10000) (h4 : c < 6) (h5 : g 3 < 20) : k_Met Y3_unit [.ref 24, .int (nI xx), .int (nI yy), .int (nI r), .int (nI c)] (hY g b F A o) (.inl (some (.int (nI (g 3)))), hY (up1 (up1 g 0 0) 3 (g 3 + 1)) (adunit b (g 3) xx yy r c) F A o, 0, 0) := by
  refine k_intro (by decide +kernel) rfl rfl rfl ?_
  refine k_go 99 [36] T3_unit_ok (fun K hK => ?_)
  refine hK _ ?_
  refine k_callS (Y' := Y3_isPoint) (as := [.int (nI xx), .int (nI yy)]) (st := [.int (nI 1), .int (nI 10), .ref 24]) (m3_isPoint) rfl c3_95 rfl rfl d3_unit_6 (Nat.le_of_ble_eq_true rfl) (Nat.le_of_ble_eq_true rfl) rfl rfl ?_
  refine k_go 99 [36] T3_unit_ok (fun K hK => ?_)
  refine q_eq (fun e => by rw [decide_eq_true (inR_nI h1 (by omega)), decide_eq_true (inR_nI h2 (by omega))] at e; cases e) (fun _ => ?_)
  refine hK _ ?_
  refine k_callS (Y' := Y3_in) (as := [.int (nI r), .int (nI 0), .int (nI 9999)]) (st := [.int (nI 1), .int (nI 10), .ref 24]) (m3_inR (n := 9999) (by omega)) rfl c3_72 rfl rfl d3_unit_17 (Nat.le_of_ble_eq_true rfl) (Nat.le_of_ble_eq_true rfl) rfl rfl ?_
  refine k_go 99 [36] T3_unit_ok (fun K hK => ?_)
  refine q_eq (fun e => by rw [decide_eq_true (inR_nI h3 (by omega))] at e; cases e) (fun _ => ?_)
  refine hK _ ?_
  refine k_callS (Y' := Y3_isChannel) (as := [.int (nI c)]) (st := [.int (nI 1), .int (nI 10), .ref 24]) (m3_isChannel) rfl c3_99 rfl rfl d3_unit_25 (Nat.le_of_ble_eq_true rfl) (Nat.le_of_ble_eq_true rfl) rfl rfl ?_
  refine k_go 99 [36] T3_unit_ok (fun K hK => ?_)
  refine q_eq (fun e => by rw [decide_eq_true (inR_nI h4 (by omega))] at e; cases e) (fun _ => ?_)
  refine hK _ ?_
  refine k_go 99 [] T3_unit_ok (fun K hK => ?_)
  refine b_ge (a := g 3) (b := 20) (by omega) (by omega) (fun q => absurd h5 (by omega)) (fun _ => ?_)
  refine hK _ ?_
  refine k_callV (Y' := Y3_goes) (as := [.int (nI 10), .int (bB true), .int (bB true), .int (bB true), .int (bB true)]) (st := []) (m3_goes (k := 10) (by omega) true true true true) rfl c3_85 rfl rfl rfl d3_unit_51 (Nat.le_of_ble_eq_true rfl) (Nat.le_of_ble_eq_true rfl) rfl rfl ?_
  refine k_go 99 [] T3_unit_ok (fun K hK => ?_)
  refine q_ne (fun _ => ?_) (fun e => absurd e (by decide))
  refine k_at (j := g 3) h5 ?_
  refine k_at (j := g 3) h5 ?_
  refine k_at (j := g 3) h5 ?_
  refine k_at (j := g 3) h5 ?_
  refine k_eq (z := nI (g 3 + 1)) (nI_add _ 1) ?_
  refine k_eq (z := nI (g 3)) (nI_pred _) ?_
  refine hK _ ?_
  exact k_ireturn d3_unit_116 rfl rfl rfl (hY_eq (cF_up' (f := up1 g 0 0) rfl) (cA_up' (cA_up' (cA_up' (cA_up' (a := b) rfl rfl) rfl) rfl) rfl)).symm (Nat.le_of_ble_eq_true rfl) (Nat.le_of_ble_eq_true rfl)
theorem m3_repeater_bad (hf : g 4 < 10000) (h : ¬ (inR x 10000 ∧ inR y 10000 ∧ inR z 10000 ∧ inR w 6)) : k_Met Y3_repeater [.ref 24, .int x, .int y, .int z, .int w] (hY g b F A o) (.inl (some (.int 0)), hY (up1 g 0 1) b F A o, 0, 0) := by
  have tail : k_W Y3_repeater none (.inl (some (.int 0)), hY (up1 g 0 1) b F A o, 0, 0) (36, [(0, .ref 24), (1, .int x), (2, .int y), (3, .int z), (4, .int w)], [.int (bB false), .int (nI 1), .int (nI 10), .ref 24], hY g b F A o, 0, 0) := by
    refine k_go 99 [] T3_repeater_ok (fun K hK => ?_)
    refine b_ge (a := g 4) (b := 8) (by omega) (by omega) (fun _ => ?_) (fun _ => ?_)
    · refine hK _ ?_
      refine k_callV (Y' := Y3_goes) (as := [.int (nI 10), .int (bB true), .int (bB false), .int (bB true), .int (bB false)]) (st := []) (m3_goes (k := 10) (by omega) true false true false) rfl c3_85 rfl rfl rfl d3_repeater_51 (Nat.le_of_ble_eq_true rfl) (Nat.le_of_ble_eq_true rfl) rfl rfl ?_
      refine k_go 99 [] T3_repeater_ok (fun K hK => ?_)
      refine q_ne (fun e => absurd e (by decide)) (fun _ => ?_)
      refine hK _ ?_
      exact k_ireturn d3_repeater_58 rfl rfl rfl rfl (Nat.le_of_ble_eq_true rfl) (Nat.le_of_ble_eq_true rfl)
    · refine hK _ ?_
      refine k_callV (Y' := Y3_goes) (as := [.int (nI 10), .int (bB true), .int (bB false), .int (bB true), .int (bB true)]) (st := []) (m3_goes (k := 10) (by omega) true false true true) rfl c3_85 rfl rfl rfl d3_repeater_51 (Nat.le_of_ble_eq_true rfl) (Nat.le_of_ble_eq_true rfl) rfl rfl ?_
      refine k_go 99 [] T3_repeater_ok (fun K hK => ?_)
      refine q_ne (fun e => absurd e (by decide)) (fun _ => ?_)
      refine hK _ ?_
      exact k_ireturn d3_repeater_58 rfl rfl rfl rfl (Nat.le_of_ble_eq_true rfl) (Nat.le_of_ble_eq_true rfl)
  refine k_intro (by decide +kernel) rfl rfl rfl ?_
  refine k_go 99 [36] T3_repeater_ok (fun K hK => ?_)
  refine hK _ ?_
  refine k_callS (Y' := Y3_isPoint) (as := [.int x, .int y]) (st := [.int (nI 1), .int (nI 10), .ref 24]) (m3_isPoint) rfl c3_95 rfl rfl d3_repeater_6 (Nat.le_of_ble_eq_true rfl) (Nat.le_of_ble_eq_true rfl) rfl rfl ?_
  refine k_go 99 [36] T3_repeater_ok (fun K hK => ?_)
  refine q_eq (fun _ => hK _ tail) (fun h1 => ?_)
  refine hK _ ?_
  refine k_callS (Y' := Y3_in) (as := [.int z, .int (nI 0), .int (nI 9999)]) (st := [.int (nI 1), .int (nI 10), .ref 24]) (m3_inR (n := 9999) (by omega)) rfl c3_72 rfl rfl d3_repeater_17 (Nat.le_of_ble_eq_true rfl) (Nat.le_of_ble_eq_true rfl) rfl rfl ?_
  refine k_go 99 [36] T3_repeater_ok (fun K hK => ?_)
  refine q_eq (fun _ => hK _ tail) (fun h2 => ?_)
  refine hK _ ?_
  refine k_callS (Y' := Y3_isChannel) (as := [.int w]) (st := [.int (nI 1), .int (nI 10), .ref 24]) (m3_isChannel) rfl c3_99 rfl rfl d3_repeater_25 (Nat.le_of_ble_eq_true rfl) (Nat.le_of_ble_eq_true rfl) rfl rfl ?_
  refine k_go 99 [36] T3_repeater_ok (fun K hK => ?_)
  refine q_eq (fun _ => hK _ tail) (fun h3 => ?_)
  exfalso
  simp only [Bool.and_eq_true, decide_eq_true_eq] at h1 h2 h3
  exact h ⟨h1.1, h1.2, h2, h3⟩
theorem m3_repeater_full (hf : g 4 < 10000) (h : inR x 10000 ∧ inR y 10000 ∧ inR z 10000 ∧ inR w 6) (h5 : 8 ≤ g 4) : k_Met Y3_repeater [.ref 24, .int x, .int y, .int z, .int w] (hY g b F A o) (.inl (some (.int 0)), hY (up1 g 0 2) b F A o, 0, 0) := by
  refine k_intro (by decide +kernel) rfl rfl rfl ?_
  refine k_go 99 [36] T3_repeater_ok (fun K hK => ?_)
  refine hK _ ?_
  refine k_callS (Y' := Y3_isPoint) (as := [.int x, .int y]) (st := [.int (nI 1), .int (nI 10), .ref 24]) (m3_isPoint) rfl c3_95 rfl rfl d3_repeater_6 (Nat.le_of_ble_eq_true rfl) (Nat.le_of_ble_eq_true rfl) rfl rfl ?_
  refine k_go 99 [36] T3_repeater_ok (fun K hK => ?_)
  refine q_eq (fun e => by rw [decide_eq_true h.1, decide_eq_true h.2.1] at e; cases e) (fun _ => ?_)
  refine hK _ ?_
  refine k_callS (Y' := Y3_in) (as := [.int z, .int (nI 0), .int (nI 9999)]) (st := [.int (nI 1), .int (nI 10), .ref 24]) (m3_inR (n := 9999) (by omega)) rfl c3_72 rfl rfl d3_repeater_17 (Nat.le_of_ble_eq_true rfl) (Nat.le_of_ble_eq_true rfl) rfl rfl ?_
  refine k_go 99 [36] T3_repeater_ok (fun K hK => ?_)
  refine q_eq (fun e => by rw [decide_eq_true h.2.2.1] at e; cases e) (fun _ => ?_)
  refine hK _ ?_
  refine k_callS (Y' := Y3_isChannel) (as := [.int w]) (st := [.int (nI 1), .int (nI 10), .ref 24]) (m3_isChannel) rfl c3_99 rfl rfl d3_repeater_25 (Nat.le_of_ble_eq_true rfl) (Nat.le_of_ble_eq_true rfl) rfl rfl ?_
  refine k_go 99 [36] T3_repeater_ok (fun K hK => ?_)
  refine q_eq (fun e => by rw [decide_eq_true h.2.2.2] at e; cases e) (fun _ => ?_)
  refine hK _ ?_
  refine k_go 99 [] T3_repeater_ok (fun K hK => ?_)
  refine b_ge (a := g 4) (b := 8) (by omega) (by omega) (fun _ => ?_) (fun q => absurd h5 (by omega))
  refine hK _ ?_
  refine k_callV (Y' := Y3_goes) (as := [.int (nI 10), .int (bB true), .int (bB true), .int (bB true), .int (bB false)]) (st := []) (m3_goes (k := 10) (by omega) true true true false) rfl c3_85 rfl rfl rfl d3_repeater_51 (Nat.le_of_ble_eq_true rfl) (Nat.le_of_ble_eq_true rfl) rfl rfl ?_
  refine k_go 99 [] T3_repeater_ok (fun K hK => ?_)
  refine q_ne (fun e => absurd e (by decide)) (fun _ => ?_)
  refine hK _ ?_
  exact k_ireturn d3_repeater_58 rfl rfl rfl rfl (Nat.le_of_ble_eq_true rfl) (Nat.le_of_ble_eq_true rfl)
def adrepeater (b : Nat → Nat → Nat) (k xx yy r c : Nat) : Nat → Nat → Nat := up2 (up2 (up2 (up2 b 5 k xx) 6 k yy) 7 k r) 8 k c
theorem m3_repeater_ok {xx yy r c : Nat} (h1 : xx < 10000) (h2 : yy < 10000) (h3 : r < 10000) (h4 : c < 6) (h5 : g 4 < 8) : k_Met Y3_repeater [.ref 24, .int (nI xx), .int (nI yy), .int (nI r), .int (nI c)] (hY g b F A o) (.inl (some (.int (nI (g 4)))), hY (up1 (up1 g 0 0) 4 (g 4 + 1)) (adrepeater b (g 4) xx yy r c) F A o, 0, 0) := by
  refine k_intro (by decide +kernel) rfl rfl rfl ?_
  refine k_go 99 [36] T3_repeater_ok (fun K hK => ?_)
  refine hK _ ?_
  refine k_callS (Y' := Y3_isPoint) (as := [.int (nI xx), .int (nI yy)]) (st := [.int (nI 1), .int (nI 10), .ref 24]) (m3_isPoint) rfl c3_95 rfl rfl d3_repeater_6 (Nat.le_of_ble_eq_true rfl) (Nat.le_of_ble_eq_true rfl) rfl rfl ?_
  refine k_go 99 [36] T3_repeater_ok (fun K hK => ?_)
  refine q_eq (fun e => by rw [decide_eq_true (inR_nI h1 (by omega)), decide_eq_true (inR_nI h2 (by omega))] at e; cases e) (fun _ => ?_)
  refine hK _ ?_
  refine k_callS (Y' := Y3_in) (as := [.int (nI r), .int (nI 0), .int (nI 9999)]) (st := [.int (nI 1), .int (nI 10), .ref 24]) (m3_inR (n := 9999) (by omega)) rfl c3_72 rfl rfl d3_repeater_17 (Nat.le_of_ble_eq_true rfl) (Nat.le_of_ble_eq_true rfl) rfl rfl ?_
  refine k_go 99 [36] T3_repeater_ok (fun K hK => ?_)
  refine q_eq (fun e => by rw [decide_eq_true (inR_nI h3 (by omega))] at e; cases e) (fun _ => ?_)
  refine hK _ ?_
  refine k_callS (Y' := Y3_isChannel) (as := [.int (nI c)]) (st := [.int (nI 1), .int (nI 10), .ref 24]) (m3_isChannel) rfl c3_99 rfl rfl d3_repeater_25 (Nat.le_of_ble_eq_true rfl) (Nat.le_of_ble_eq_true rfl) rfl rfl ?_
  refine k_go 99 [36] T3_repeater_ok (fun K hK => ?_)
  refine q_eq (fun e => by rw [decide_eq_true (inR_nI h4 (by omega))] at e; cases e) (fun _ => ?_)
  refine hK _ ?_
  refine k_go 99 [] T3_repeater_ok (fun K hK => ?_)
  refine b_ge (a := g 4) (b := 8) (by omega) (by omega) (fun q => absurd h5 (by omega)) (fun _ => ?_)
  refine hK _ ?_
  refine k_callV (Y' := Y3_goes) (as := [.int (nI 10), .int (bB true), .int (bB true), .int (bB true), .int (bB true)]) (st := []) (m3_goes (k := 10) (by omega) true true true true) rfl c3_85 rfl rfl rfl d3_repeater_51 (Nat.le_of_ble_eq_true rfl) (Nat.le_of_ble_eq_true rfl) rfl rfl ?_
  refine k_go 99 [] T3_repeater_ok (fun K hK => ?_)
  refine q_ne (fun _ => ?_) (fun e => absurd e (by decide))
  refine k_at (j := g 4) h5 ?_
  refine k_at (j := g 4) h5 ?_
  refine k_at (j := g 4) h5 ?_
  refine k_at (j := g 4) h5 ?_
  refine k_eq (z := nI (g 4 + 1)) (nI_add _ 1) ?_
  refine k_eq (z := nI (g 4)) (nI_pred _) ?_
  refine hK _ ?_
  exact k_ireturn d3_repeater_116 rfl rfl rfl (hY_eq (cF_up' (f := up1 g 0 0) rfl) (cA_up' (cA_up' (cA_up' (cA_up' (a := b) rfl rfl) rfl) rfl) rfl)).symm (Nat.le_of_ble_eq_true rfl) (Nat.le_of_ble_eq_true rfl)
end MB
end
section
section MC
variable {g : Nat → Nat} {b : Nat → Nat → Nat} {F : Nat → Int32} {A : Nat → Nat → Int32} {o : Nat → Int64} {x y z w : Int32}
theorem m3_go_unk (hf : g 3 < 2 ^ 31) (h : ¬ inR x (g 3)) : k_Met Y3_go [.ref 24, .int x, .int y, .int z, .int w] (hY g b F A o) (.inl none, hY (up1 g 0 1) b F A o, 0, 0) := by
  have tail : ∀ rg : Bool, k_W Y3_go none (.inl none, hY (up1 g 0 1) b F A o, 0, 0) (28, [(0, .ref 24), (1, .int x), (2, .int y), (3, .int z), (4, .int w)], [.int (bB rg), .int (bB false), .int (nI 3), .ref 24], hY g b F A o, 0, 0) := by
    intro rg
    refine k_go 99 [] T3_go_ok (fun K hK => ?_)
    refine hK _ ?_
    refine k_callV (Y' := Y3_goes) (as := [.int (nI 3), .int (bB false), .int (bB rg), .int (bB true), .int (bB true)]) (st := []) (m3_goes (k := 3) (by omega) false rg true true) rfl c3_85 rfl rfl rfl d3_go_30 (Nat.le_of_ble_eq_true rfl) (Nat.le_of_ble_eq_true rfl) rfl rfl ?_
    refine k_go 99 [] T3_go_ok (fun K hK => ?_)
    refine q_ne (fun e => absurd e (by simp)) (fun _ => ?_)
    refine hK _ ?_
    exact k_return d3_go_36 rfl rfl rfl (Nat.le_of_ble_eq_true rfl) (Nat.le_of_ble_eq_true rfl)
  refine k_intro (by decide +kernel) rfl rfl rfl ?_
  refine k_go 99 [28] T3_go_ok (fun K hK => ?_)
  refine hK _ ?_
  refine k_callV (Y' := Y3_isUnit) (as := [.int x]) (st := [.int (nI 3), .ref 24]) (m3_isUnit hf) rfl c3_103 rfl rfl rfl d3_go_4 (Nat.le_of_ble_eq_true rfl) (Nat.le_of_ble_eq_true rfl) rfl rfl ?_
  rw [decide_eq_false h]
  refine k_go 99 [28] T3_go_ok (fun K hK => ?_)
  refine hK _ ?_
  refine k_callS (Y' := Y3_isPoint) (as := [.int y, .int z]) (st := [.int (bB false), .int (nI 3), .ref 24]) (m3_isPoint) rfl c3_95 rfl rfl d3_go_9 (Nat.le_of_ble_eq_true rfl) (Nat.le_of_ble_eq_true rfl) rfl rfl ?_
  refine k_go 99 [28] T3_go_ok (fun K hK => ?_)
  refine q_eq (fun _ => hK _ (tail false)) (fun h1 => ?_)
  refine hK _ ?_
  refine k_callS (Y' := Y3_isChannel) (as := [.int w]) (st := [.int (bB false), .int (nI 3), .ref 24]) (m3_isChannel) rfl c3_99 rfl rfl d3_go_17 (Nat.le_of_ble_eq_true rfl) (Nat.le_of_ble_eq_true rfl) rfl rfl ?_
  refine k_go 99 [28] T3_go_ok (fun K hK => ?_)
  refine q_eq (fun _ => hK _ (tail false)) (fun _ => hK _ (tail true))
theorem m3_go_bad (hf : g 3 < 2 ^ 31) (h0 : inR x (g 3)) (h : ¬ (inR y 10000 ∧ inR z 10000 ∧ inR w 6)) : k_Met Y3_go [.ref 24, .int x, .int y, .int z, .int w] (hY g b F A o) (.inl none, hY (up1 g 0 2) b F A o, 0, 0) := by
  have tail : k_W Y3_go none (.inl none, hY (up1 g 0 2) b F A o, 0, 0) (28, [(0, .ref 24), (1, .int x), (2, .int y), (3, .int z), (4, .int w)], [.int (bB false), .int (bB true), .int (nI 3), .ref 24], hY g b F A o, 0, 0) := by
    refine k_go 99 [] T3_go_ok (fun K hK => ?_)
    refine hK _ ?_
    refine k_callV (Y' := Y3_goes) (as := [.int (nI 3), .int (bB true), .int (bB false), .int (bB true), .int (bB true)]) (st := []) (m3_goes (k := 3) (by omega) true false true true) rfl c3_85 rfl rfl rfl d3_go_30 (Nat.le_of_ble_eq_true rfl) (Nat.le_of_ble_eq_true rfl) rfl rfl ?_
    refine k_go 99 [] T3_go_ok (fun K hK => ?_)
    refine q_ne (fun e => absurd e (by decide)) (fun _ => ?_)
    refine hK _ ?_
    exact k_return d3_go_36 rfl rfl rfl (Nat.le_of_ble_eq_true rfl) (Nat.le_of_ble_eq_true rfl)
  refine k_intro (by decide +kernel) rfl rfl rfl ?_
  refine k_go 99 [28] T3_go_ok (fun K hK => ?_)
  refine hK _ ?_
  refine k_callV (Y' := Y3_isUnit) (as := [.int x]) (st := [.int (nI 3), .ref 24]) (m3_isUnit hf) rfl c3_103 rfl rfl rfl d3_go_4 (Nat.le_of_ble_eq_true rfl) (Nat.le_of_ble_eq_true rfl) rfl rfl ?_
  rw [decide_eq_true h0]
  refine k_go 99 [28] T3_go_ok (fun K hK => ?_)
  refine hK _ ?_
  refine k_callS (Y' := Y3_isPoint) (as := [.int y, .int z]) (st := [.int (bB true), .int (nI 3), .ref 24]) (m3_isPoint) rfl c3_95 rfl rfl d3_go_9 (Nat.le_of_ble_eq_true rfl) (Nat.le_of_ble_eq_true rfl) rfl rfl ?_
  refine k_go 99 [28] T3_go_ok (fun K hK => ?_)
  refine q_eq (fun _ => hK _ tail) (fun h1 => ?_)
  refine hK _ ?_
  refine k_callS (Y' := Y3_isChannel) (as := [.int w]) (st := [.int (bB true), .int (nI 3), .ref 24]) (m3_isChannel) rfl c3_99 rfl rfl d3_go_17 (Nat.le_of_ble_eq_true rfl) (Nat.le_of_ble_eq_true rfl) rfl rfl ?_
  refine k_go 99 [28] T3_go_ok (fun K hK => ?_)
  refine q_eq (fun _ => hK _ tail) (fun h2 => ?_)
  exfalso
  simp only [Bool.and_eq_true, decide_eq_true_eq] at h1 h2
  exact h ⟨h1.1, h1.2, h2⟩
def goB (b : Nat → Nat → Nat) (u xx yy c : Nat) : Nat → Nat → Nat := up2 (up2 (up2 b 1 u xx) 2 u yy) 4 u c
theorem m3_go_ok (hf : g 3 ≤ 20) {u xx yy c : Nat} (hu : u < g 3) (h1 : xx < 10000) (h2 : yy < 10000) (h4 : c < 6) : k_Met Y3_go [.ref 24, .int (nI u), .int (nI xx), .int (nI yy), .int (nI c)] (hY g b F A o) (.inl none, hY (up1 g 0 0) (goB b u xx yy c) F A o, 0, 0) := by
  refine k_intro (by decide +kernel) rfl rfl rfl ?_
  refine k_go 99 [28] T3_go_ok (fun K hK => ?_)
  refine hK _ ?_
  refine k_callV (Y' := Y3_isUnit) (as := [.int (nI u)]) (st := [.int (nI 3), .ref 24]) (m3_isUnit (by omega)) rfl c3_103 rfl rfl rfl d3_go_4 (Nat.le_of_ble_eq_true rfl) (Nat.le_of_ble_eq_true rfl) rfl rfl ?_
  rw [decide_eq_true (inR_nI hu (by omega))]
  refine k_go 99 [28] T3_go_ok (fun K hK => ?_)
  refine hK _ ?_
  refine k_callS (Y' := Y3_isPoint) (as := [.int (nI xx), .int (nI yy)]) (st := [.int (bB true), .int (nI 3), .ref 24]) (m3_isPoint) rfl c3_95 rfl rfl d3_go_9 (Nat.le_of_ble_eq_true rfl) (Nat.le_of_ble_eq_true rfl) rfl rfl ?_
  refine k_go 99 [28] T3_go_ok (fun K hK => ?_)
  refine q_eq (fun e => by rw [decide_eq_true (inR_nI h1 (by omega)), decide_eq_true (inR_nI h2 (by omega))] at e; cases e) (fun _ => ?_)
  refine hK _ ?_
  refine k_callS (Y' := Y3_isChannel) (as := [.int (nI c)]) (st := [.int (bB true), .int (nI 3), .ref 24]) (m3_isChannel) rfl c3_99 rfl rfl d3_go_17 (Nat.le_of_ble_eq_true rfl) (Nat.le_of_ble_eq_true rfl) rfl rfl ?_
  refine k_go 99 [28] T3_go_ok (fun K hK => ?_)
  refine q_eq (fun e => by rw [decide_eq_true (inR_nI h4 (by omega))] at e; cases e) (fun _ => ?_)
  refine hK _ ?_
  refine k_go 99 [] T3_go_ok (fun K hK => ?_)
  refine hK _ ?_
  refine k_callV (Y' := Y3_goes) (as := [.int (nI 3), .int (bB true), .int (bB true), .int (bB true), .int (bB true)]) (st := []) (m3_goes (k := 3) (by omega) true true true true) rfl c3_85 rfl rfl rfl d3_go_30 (Nat.le_of_ble_eq_true rfl) (Nat.le_of_ble_eq_true rfl) rfl rfl ?_
  refine k_go 99 [] T3_go_ok (fun K hK => ?_)
  refine q_ne (fun _ => ?_) (fun e => absurd e (by decide))
  refine k_at (j := u) (by omega) ?_
  refine k_at (j := u) (by omega) ?_
  refine k_at (j := u) (by omega) ?_
  refine hK _ ?_
  exact k_return d3_go_59 rfl rfl (hY_eq rfl (cA_up' (cA_up' (cA_up' (a := b) rfl rfl) rfl) rfl)).symm (Nat.le_of_ble_eq_true rfl) (Nat.le_of_ble_eq_true rfl)
theorem m3_limit_bad (h : ¬ inR x 1001) : k_Met Y3_limit [.ref 24, .int x] (hY g b F A o) (.inl none, hY (up1 g 0 1) b F A o, 0, 0) := by
  refine k_intro (by decide +kernel) rfl rfl rfl ?_
  refine k_go 99 [] T3_limit_ok (fun K hK => ?_)
  refine hK _ ?_
  refine k_callS (Y' := Y3_in) (as := [.int x, .int (nI 0), .int (nI 1000)]) (st := [.int (nI 1), .int (nI 2), .ref 24]) (m3_inR (n := 1000) (by omega)) rfl c3_72 rfl rfl d3_limit_8 (Nat.le_of_ble_eq_true rfl) (Nat.le_of_ble_eq_true rfl) rfl rfl ?_
  rw [decide_eq_false h]
  refine k_go 99 [] T3_limit_ok (fun K hK => ?_)
  refine hK _ ?_
  refine k_callV (Y' := Y3_goes) (as := [.int (nI 2), .int (bB true), .int (bB false), .int (bB true), .int (bB true)]) (st := []) (m3_goes (k := 2) (by omega) true false true true) rfl c3_85 rfl rfl rfl d3_limit_13 (Nat.le_of_ble_eq_true rfl) (Nat.le_of_ble_eq_true rfl) rfl rfl ?_
  refine k_go 99 [] T3_limit_ok (fun K hK => ?_)
  refine q_eq (fun _ => ?_) (fun e => absurd e (by decide))
  refine hK _ ?_
  exact k_return d3_limit_24 rfl rfl rfl (Nat.le_of_ble_eq_true rfl) (Nat.le_of_ble_eq_true rfl)
theorem m3_limit_ok {n : Nat} (hn : n ≤ 1000) : k_Met Y3_limit [.ref 24, .int (nI n)] (hY g b F A o) (.inl none, hY (up1 (up1 g 0 0) 2 n) b F A o, 0, 0) := by
  refine k_intro (by decide +kernel) rfl rfl rfl ?_
  refine k_go 99 [] T3_limit_ok (fun K hK => ?_)
  refine hK _ ?_
  refine k_callS (Y' := Y3_in) (as := [.int (nI n), .int (nI 0), .int (nI 1000)]) (st := [.int (nI 1), .int (nI 2), .ref 24]) (m3_inR (n := 1000) (by omega)) rfl c3_72 rfl rfl d3_limit_8 (Nat.le_of_ble_eq_true rfl) (Nat.le_of_ble_eq_true rfl) rfl rfl ?_
  rw [decide_eq_true (inR_nI (n := 1001) (by omega) (by omega))]
  refine k_go 99 [] T3_limit_ok (fun K hK => ?_)
  refine hK _ ?_
  refine k_callV (Y' := Y3_goes) (as := [.int (nI 2), .int (bB true), .int (bB true), .int (bB true), .int (bB true)]) (st := []) (m3_goes (k := 2) (by omega) true true true true) rfl c3_85 rfl rfl rfl d3_limit_13 (Nat.le_of_ble_eq_true rfl) (Nat.le_of_ble_eq_true rfl) rfl rfl ?_
  refine k_go 99 [] T3_limit_ok (fun K hK => ?_)
  refine q_eq (fun e => absurd e (by decide)) (fun _ => ?_)
  refine hK _ ?_
  exact k_return d3_limit_24 rfl rfl (hY_eq (cF_up' (f := up1 g 0 0) rfl) rfl).symm (Nat.le_of_ble_eq_true rfl) (Nat.le_of_ble_eq_true rfl)
theorem m3_lose_bad (hf : g 1 < 2 ^ 31) (h : ¬ inR x (g 1)) : k_Met Y3_lose [.ref 24, .int x] (hY g b F A o) (.inl (some (.int 0)), hY (up1 g 0 1) b F A o, 0, 0) := by
  refine k_intro (by decide +kernel) rfl rfl rfl ?_
  refine k_go 99 [] T3_lose_ok (fun K hK => ?_)
  refine hK _ ?_
  refine k_callV (Y' := Y3_isSlot) (as := [.int x]) (st := [.int (nI 1), .int (nI 2), .ref 24]) (m3_isSlot hf) rfl c3_106 rfl rfl rfl d3_lose_5 (Nat.le_of_ble_eq_true rfl) (Nat.le_of_ble_eq_true rfl) rfl rfl ?_
  rw [decide_eq_false h]
  refine k_go 99 [] T3_lose_ok (fun K hK => ?_)
  refine hK _ ?_
  refine k_callV (Y' := Y3_goes) (as := [.int (nI 2), .int (bB true), .int (bB false), .int (bB true), .int (bB true)]) (st := []) (m3_goes (k := 2) (by omega) true false true true) rfl c3_85 rfl rfl rfl d3_lose_10 (Nat.le_of_ble_eq_true rfl) (Nat.le_of_ble_eq_true rfl) rfl rfl ?_
  refine k_go 99 [] T3_lose_ok (fun K hK => ?_)
  refine q_ne (fun e => absurd e (by decide)) (fun _ => ?_)
  refine hK _ ?_
  exact k_ireturn d3_lose_17 rfl rfl rfl rfl (Nat.le_of_ble_eq_true rfl) (Nat.le_of_ble_eq_true rfl)
theorem m3_lose_ok (hf : g 1 ≤ 1000) {s : Nat} (hs : s < g 1) (h14 : b 14 s < 2) : k_Met Y3_lose [.ref 24, .int (nI s)] (hY g b F A o) (.inl (some (.int (nI (1 - b 14 s)))), hY (up1 g 0 0) (up2 b 14 s (1 - b 14 s)) F A o, 0, 0) := by
  refine k_intro (by decide +kernel) rfl rfl rfl ?_
  refine k_go 99 [] T3_lose_ok (fun K hK => ?_)
  refine hK _ ?_
  refine k_callV (Y' := Y3_isSlot) (as := [.int (nI s)]) (st := [.int (nI 1), .int (nI 2), .ref 24]) (m3_isSlot (by omega)) rfl c3_106 rfl rfl rfl d3_lose_5 (Nat.le_of_ble_eq_true rfl) (Nat.le_of_ble_eq_true rfl) rfl rfl ?_
  rw [decide_eq_true (inR_nI hs (by omega))]
  refine k_go 99 [] T3_lose_ok (fun K hK => ?_)
  refine hK _ ?_
  refine k_callV (Y' := Y3_goes) (as := [.int (nI 2), .int (bB true), .int (bB true), .int (bB true), .int (bB true)]) (st := []) (m3_goes (k := 2) (by omega) true true true true) rfl c3_85 rfl rfl rfl d3_lose_10 (Nat.le_of_ble_eq_true rfl) (Nat.le_of_ble_eq_true rfl) rfl rfl ?_
  refine k_go 99 [] T3_lose_ok (fun K hK => ?_)
  refine q_ne (fun _ => ?_) (fun e => absurd e (by decide))
  refine k_at (j := s) (by omega) ?_
  refine z_ne (a := b 14 s) (by omega) (fun h => ?_) (fun h => ?_)
  · have e : 1 - b 14 s = 0 := by omega
    rw [e] at hK
    refine And.intro (Or.inl rfl) ?_
    refine k_at (j := s) (by omega) ?_
    refine k_at (j := s) (by omega) ?_
    refine hK _ ?_
    refine k_heq (hY_eq rfl (cA_up b 14 s 0)) ?_
    have e2 : (upd (cA b 14) s (nI 0)) s = nI 0 := by unfold upd; rw [if_pos rfl]
    refine k_vs (v' := .int (nI 0)) (congrArg Value.int e2) ?_
    exact k_ireturn d3_lose_44 rfl rfl rfl rfl (Nat.le_of_ble_eq_true rfl) (Nat.le_of_ble_eq_true rfl)
  · have e : 1 - b 14 s = 1 := by omega
    rw [e] at hK
    refine And.intro (Or.inr rfl) ?_
    refine k_at (j := s) (by omega) ?_
    refine k_at (j := s) (by omega) ?_
    refine hK _ ?_
    refine k_heq (hY_eq rfl (cA_up b 14 s 1)) ?_
    have e2 : (upd (cA b 14) s (nI 1)) s = nI 1 := by unfold upd; rw [if_pos rfl]
    refine k_vs (v' := .int (nI 1)) (congrArg Value.int e2) ?_
    exact k_ireturn d3_lose_44 rfl rfl rfl rfl (Nat.le_of_ble_eq_true rfl) (Nat.le_of_ble_eq_true rfl)
theorem m3_patch_bad (h : ¬ (inR x 6 ∧ inR y 6)) : k_Met Y3_patch [.ref 24, .int x, .int y] (hY g b F A o) (.inl (some (.int 0)), hY (up1 g 0 1) b F A o, 0, 0) := by
  have tail : k_W Y3_patch none (.inl (some (.int 0)), hY (up1 g 0 1) b F A o, 0, 0) (22, [(0, .ref 24), (1, .int x), (2, .int y)], [.int (bB false), .int (nI 1), .int (nI 2), .ref 24], hY g b F A o, 0, 0) := by
    refine k_go 99 [] T3_patch_ok (fun K hK => ?_)
    refine hK _ ?_
    refine k_callV (Y' := Y3_goes) (as := [.int (nI 2), .int (bB true), .int (bB false), .int (bB true), .int (bB true)]) (st := []) (m3_goes (k := 2) (by omega) true false true true) rfl c3_85 rfl rfl rfl d3_patch_24 (Nat.le_of_ble_eq_true rfl) (Nat.le_of_ble_eq_true rfl) rfl rfl ?_
    refine k_go 99 [] T3_patch_ok (fun K hK => ?_)
    refine q_eq (fun _ => ?_) (fun e => absurd e (by decide))
    refine hK _ ?_
    exact k_ireturn d3_patch_46 rfl rfl rfl rfl (Nat.le_of_ble_eq_true rfl) (Nat.le_of_ble_eq_true rfl)
  refine k_intro (by decide +kernel) rfl rfl rfl ?_
  refine k_go 99 [22] T3_patch_ok (fun K hK => ?_)
  refine hK _ ?_
  refine k_callS (Y' := Y3_isChannel) (as := [.int x]) (st := [.int (nI 1), .int (nI 2), .ref 24]) (m3_isChannel) rfl c3_99 rfl rfl d3_patch_4 (Nat.le_of_ble_eq_true rfl) (Nat.le_of_ble_eq_true rfl) rfl rfl ?_
  refine k_go 99 [22] T3_patch_ok (fun K hK => ?_)
  refine q_eq (fun _ => hK _ tail) (fun h1 => ?_)
  refine hK _ ?_
  refine k_callS (Y' := Y3_isChannel) (as := [.int y]) (st := [.int (nI 1), .int (nI 2), .ref 24]) (m3_isChannel) rfl c3_99 rfl rfl d3_patch_11 (Nat.le_of_ble_eq_true rfl) (Nat.le_of_ble_eq_true rfl) rfl rfl ?_
  refine k_go 99 [22] T3_patch_ok (fun K hK => ?_)
  refine q_eq (fun _ => hK _ tail) (fun h2 => ?_)
  exfalso
  exact h ⟨of_decide_eq_true h1, of_decide_eq_true h2⟩
theorem m3_patch_no (hb : ∀ j, b 0 j < 6) {p q : Nat} (hp : p < 6) (hq : q < 6) (h : b 0 p = b 0 q) : k_Met Y3_patch [.ref 24, .int (nI p), .int (nI q)] (hY g b F A o) (.inl (some (.int 0)), hY (up1 g 0 0) b F A o, 0, 0) := by
  have h1 := hb p
  have h2 := hb q
  refine k_intro (by decide +kernel) rfl rfl rfl ?_
  refine k_go 99 [22] T3_patch_ok (fun K hK => ?_)
  refine hK _ ?_
  refine k_callS (Y' := Y3_isChannel) (as := [.int (nI p)]) (st := [.int (nI 1), .int (nI 2), .ref 24]) (m3_isChannel) rfl c3_99 rfl rfl d3_patch_4 (Nat.le_of_ble_eq_true rfl) (Nat.le_of_ble_eq_true rfl) rfl rfl ?_
  refine k_go 99 [22] T3_patch_ok (fun K hK => ?_)
  refine q_eq (fun e => by rw [decide_eq_true (inR_nI hp (by omega))] at e; cases e) (fun _ => ?_)
  refine hK _ ?_
  refine k_callS (Y' := Y3_isChannel) (as := [.int (nI q)]) (st := [.int (nI 1), .int (nI 2), .ref 24]) (m3_isChannel) rfl c3_99 rfl rfl d3_patch_11 (Nat.le_of_ble_eq_true rfl) (Nat.le_of_ble_eq_true rfl) rfl rfl ?_
  refine k_go 99 [22] T3_patch_ok (fun K hK => ?_)
  refine q_eq (fun e => by rw [decide_eq_true (inR_nI hq (by omega))] at e; cases e) (fun _ => ?_)
  refine hK _ ?_
  refine k_go 99 [] T3_patch_ok (fun K hK => ?_)
  refine hK _ ?_
  refine k_callV (Y' := Y3_goes) (as := [.int (nI 2), .int (bB true), .int (bB true), .int (bB true), .int (bB true)]) (st := []) (m3_goes (k := 2) (by omega) true true true true) rfl c3_85 rfl rfl rfl d3_patch_24 (Nat.le_of_ble_eq_true rfl) (Nat.le_of_ble_eq_true rfl) rfl rfl ?_
  refine k_go 99 [57] T3_patch_ok (fun K hK => ?_)
  refine q_eq (fun e => absurd e (by decide)) (fun _ => ?_)
  refine k_at (j := p) hp ?_
  refine k_at (j := q) hq ?_
  refine b_ne (a := b 0 p) (b := b 0 q) (by omega) (by omega) (fun t => absurd h t) (fun _ => ?_)
  refine hK _ ?_
  exact k_ireturn d3_patch_46 rfl rfl rfl rfl (Nat.le_of_ble_eq_true rfl) (Nat.le_of_ble_eq_true rfl)
theorem m3_patch_loop (hb : ∀ j, b 0 j < 6) {p q : Nat} (hp : p < 6) (hq : q < 6) (hne : b 0 p ≠ b 0 q) : ∀ (n i : Nat), 6 - i < n → i ≤ 6 →
    k_W Y3_patch none (.inl (some (.int 1)), hY g (rowA b 0 (jnR (b 0) (b 0 p) (b 0 q) 6)) F A o, 0, 0) (57, [(4, .int (nI i)), (3, .int (nI (b 0 q))), (0, .ref 24), (1, .int (nI p)), (2, .int (nI q))], [], hY g (rowA b 0 (jnR (b 0) (b 0 p) (b 0 q) i)) F A o, 0, 0) := by
  have h2 := hb q
  intro n
  induction n with
  | zero => intro i h; omega
  | succ n ih =>
    intro i hn hi
    refine k_go 99 [57] T3_patch_ok (fun K hK => ?_)
    refine b_ge (a := i) (b := 6) (by omega) (by omega) (fun h => ?_) (fun h => ?_)
    · have e : i = 6 := by omega
      subst e
      refine hK _ ?_
      exact k_ireturn d3_patch_95 rfl rfl rfl rfl (Nat.le_of_ble_eq_true rfl) (Nat.le_of_ble_eq_true rfl)
    · refine k_at (j := i) (by omega) ?_
      have h1 := hb i
      have e1 : jnR (b 0) (b 0 p) (b 0 q) i i = b 0 i := by unfold jnR; rw [if_neg (by omega)]
      refine b_ne (a := jnR (b 0) (b 0 p) (b 0 q) i i) (b := b 0 q) (by rw [e1]; omega) (by omega) (fun h3 => ?_) (fun h3 => ?_)
      · rw [e1] at h3
        refine k_eq (z := nI (i + 1)) (nI_add i 1) ?_
        refine hK _ ?_
        have e2 := jnR_ne (kept := b 0 p) h3
        have := ih (i + 1) (by omega) (by omega)
        rw [← e2] at this
        exact this
      · rw [e1] at h3
        refine k_at (j := p) hp ?_
        refine k_at (j := i) (by omega) ?_
        refine k_eq (z := nI (i + 1)) (nI_add i 1) ?_
        refine hK _ ?_
        have e5 : jnR (b 0) (b 0 p) (b 0 q) i p = b 0 p := by unfold jnR; rw [if_neg (fun t => hne t.2)]
        refine k_heq (hY_eq rfl ((congrArg (fun v => upA (cA (rowA b 0 (jnR (b 0) (b 0 p) (b 0 q) i))) 0 (upd (cA (rowA b 0 (jnR (b 0) (b 0 p) (b 0 q) i)) 0) i (nI v))) e5).trans ((cA_up (rowA b 0 (jnR (b 0) (b 0 p) (b 0 q) i)) 0 i (b 0 p)).trans (congrArg cA ((up2_row b 0 i (b 0 p) _).trans (congrArg (rowA b 0) (jnR_eq h3))))))) ?_
        exact ih (i + 1) (by omega) (by omega)
theorem m3_patch_ok (hb : ∀ j, b 0 j < 6) {p q : Nat} (hp : p < 6) (hq : q < 6) (h : b 0 p ≠ b 0 q) : k_Met Y3_patch [.ref 24, .int (nI p), .int (nI q)] (hY g b F A o) (.inl (some (.int 1)), hY (up1 g 0 0) (rowA b 0 (jnR (b 0) (b 0 p) (b 0 q) 6)) F A o, 0, 0) := by
  have h1 := hb p
  have h2 := hb q
  refine k_intro (by decide +kernel) rfl rfl rfl ?_
  refine k_go 99 [22] T3_patch_ok (fun K hK => ?_)
  refine hK _ ?_
  refine k_callS (Y' := Y3_isChannel) (as := [.int (nI p)]) (st := [.int (nI 1), .int (nI 2), .ref 24]) (m3_isChannel) rfl c3_99 rfl rfl d3_patch_4 (Nat.le_of_ble_eq_true rfl) (Nat.le_of_ble_eq_true rfl) rfl rfl ?_
  refine k_go 99 [22] T3_patch_ok (fun K hK => ?_)
  refine q_eq (fun e => by rw [decide_eq_true (inR_nI hp (by omega))] at e; cases e) (fun _ => ?_)
  refine hK _ ?_
  refine k_callS (Y' := Y3_isChannel) (as := [.int (nI q)]) (st := [.int (nI 1), .int (nI 2), .ref 24]) (m3_isChannel) rfl c3_99 rfl rfl d3_patch_11 (Nat.le_of_ble_eq_true rfl) (Nat.le_of_ble_eq_true rfl) rfl rfl ?_
  refine k_go 99 [22] T3_patch_ok (fun K hK => ?_)
  refine q_eq (fun e => by rw [decide_eq_true (inR_nI hq (by omega))] at e; cases e) (fun _ => ?_)
  refine hK _ ?_
  refine k_go 99 [] T3_patch_ok (fun K hK => ?_)
  refine hK _ ?_
  refine k_callV (Y' := Y3_goes) (as := [.int (nI 2), .int (bB true), .int (bB true), .int (bB true), .int (bB true)]) (st := []) (m3_goes (k := 2) (by omega) true true true true) rfl c3_85 rfl rfl rfl d3_patch_24 (Nat.le_of_ble_eq_true rfl) (Nat.le_of_ble_eq_true rfl) rfl rfl ?_
  refine k_go 99 [57] T3_patch_ok (fun K hK => ?_)
  refine q_eq (fun e => absurd e (by decide)) (fun _ => ?_)
  refine k_at (j := p) hp ?_
  refine k_at (j := q) hq ?_
  refine b_ne (a := b 0 p) (b := b 0 q) (by omega) (by omega) (fun _ => ?_) (fun t => absurd t h)
  refine k_at (j := q) hq ?_
  refine hK _ ?_
  have := m3_patch_loop (g := up1 g 0 0) (F := F) (A := A) (o := o) hb hp hq h 7 0 (by omega) (by omega)
  rw [jnR_0, rowA_self] at this
  exact this
end MC
end
section
def bgP (b : Nat → Nat → Nat) (u s : Int32) (m : Nat) : Bool := decide (nI (b 9 m) = u) && decide (nI (b 10 m) = s)
def bgB (g : Nat → Nat) (b : Nat → Nat → Nat) (u s : Int32) : Bool := exB (bgP b u s) (g 5) 0
def mst (g : Nat → Nat) (b : Nat → Nat → Nat) (m : Nat) : Nat := if 0 < g 2 ∧ g 2 < max 1 (b 11 m) then g 2 else max 1 (b 11 m)
def eof (g : Nat → Nat) (b : Nat → Nat → Nat) (m : Nat) : Nat := if mst g b m < b 11 m then 2 else 0
/-- what every state of the reference keeps -/
def IvM (g : Nat → Nat) (b : Nat → Nat → Nat) : Prop :=
  (∀ j, b 0 j < 6) ∧ (∀ j, b 4 j < 6) ∧ (∀ j, b 8 j < 6) ∧ (∀ j, b 9 j < 20) ∧ (∀ j, b 10 j < 10000) ∧ (∀ j, b 11 j < 100) ∧ (∀ j, b 12 j < 10) ∧ (∀ j, b 13 j < 6) ∧ (∀ j, b 14 j < 2) ∧ (∀ j, b 15 j = NONE ∨ b 15 j < 60) ∧ (∀ j, b 16 j < 10000) ∧ (∀ j, b 17 j < 10) ∧ g 1 ≤ 1000 ∧ g 2 ≤ 1000 ∧ g 3 ≤ 20 ∧ g 4 ≤ 8 ∧ g 5 ≤ 60
theorem n_lt {x : Nat} {P Q : Prop} (hx : x = NONE ∨ x < 60) (f : x = NONE → P) (h : x < 60 → Q) : (k_cnd .lt (nI x) 0 → P) ∧ (k_cnf .lt (nI x) 0 → Q) := by
  rcases hx with h1 | h1
  · refine ⟨fun _ => f h1, fun q => ?_⟩
    exfalso
    apply q
    rw [h1, ← neg1]
    decide
  · exact z_lt (by omega) (h h1)
theorem n_ge {x : Nat} {P Q : Prop} (hx : x = NONE ∨ x < 60) (f : x < 60 → P) (h : x = NONE → Q) : (k_cnd .ge (nI x) 0 → P) ∧ (k_cnf .ge (nI x) 0 → Q) := by
  rcases hx with h1 | h1
  · refine ⟨fun q => ?_, fun _ => h h1⟩
    exfalso
    have q2 : (0 : Int32) ≤ nI x := q
    rw [h1, ← neg1] at q2
    exact absurd q2 (by decide)
  · exact z_ge (by omega) (f h1)
section ME5
variable {g : Nat → Nat} {b : Nat → Nat → Nat} {F : Nat → Int32} {A : Nat → Nat → Int32} {o : Nat → Int64} {x y z w v : Int32}
theorem m3_isNear : k_Met Y3_isNear [.int x, .int y, .int z, .int w, .int v] (hY g b F A o) (.inl (some (.int (bB (decide ((x - z) * (x - z) + (y - w) * (y - w) ≤ v * v))))), hY g b F A o, 0, 0) := by
  refine k_intro (by decide +kernel) rfl rfl rfl ?_
  refine k_go 99 [] T3_isNear_ok (fun K hK => ?_)
  refine k_eq rfl ?_
  refine k_eq rfl ?_
  refine k_eq rfl ?_
  refine k_eq rfl ?_
  refine k_eq rfl ?_
  refine k_eq rfl ?_
  refine k_eq rfl ?_
  refine k_eq rfl ?_
  refine And.intro (fun h => ?_) (fun h => ?_)
  · refine hK _ ?_
    exact k_ireturn d3_isNear_28 rfl rfl (rbB (b := false) (decide_eq_false (Int32.not_le.mpr h))) rfl (Nat.le_of_ble_eq_true rfl) (Nat.le_of_ble_eq_true rfl)
  · refine hK _ ?_
    exact k_ireturn d3_isNear_28 rfl rfl (rbB (b := true) (decide_eq_true (Int32.not_lt.mp h))) rfl (Nat.le_of_ble_eq_true rfl) (Nat.le_of_ble_eq_true rfl)
theorem m3_begins_loop (h5 : g 5 ≤ 60) : ∀ (n i : Nat), g 5 - i = n → i ≤ g 5 → ∀ (r : Bool), r = exB (bgP b x y) n i →
    k_W Y3_begins none (.inl (some (.int (bB r))), hY g b F A o, 0, 0) (2, [(3, .int (nI i)), (0, .ref 24), (1, .int x), (2, .int y)], [], hY g b F A o, 0, 0) := by
  intro n
  induction n with
  | zero =>
    intro i hn hi r hr
    refine k_go 99 [2] T3_begins_ok (fun K hK => ?_)
    refine b_ge (a := i) (b := g 5) (by omega) (by omega) (fun h => ?_) (fun h => absurd h (by omega))
    refine hK _ ?_
    exact k_ireturn d3_begins_39 rfl rfl (rbB (b := false) hr) rfl (Nat.le_of_ble_eq_true rfl) (Nat.le_of_ble_eq_true rfl)
  | succ n ih =>
    intro i hn hi r hr
    have hr2 : r = (bgP b x y i || exB (bgP b x y) n (i + 1)) := hr
    have next : bgP b x y i = false → r = exB (bgP b x y) n (i + 1) := fun e => by rw [hr2, e, Bool.false_or]
    refine k_go 99 [2] T3_begins_ok (fun K hK => ?_)
    refine b_ge (a := i) (b := g 5) (by omega) (by omega) (fun h => absurd h (by omega)) (fun h => ?_)
    refine k_at (j := i) (by omega) ?_
    refine And.intro (fun h1 => ?_) (fun h1 => ?_)
    · have h1 : ¬ nI (b 9 i) = x := h1
      refine k_eq (z := nI (i + 1)) (nI_add i 1) ?_
      refine hK _ ?_
      exact ih (i + 1) (by omega) (by omega) r (next (by unfold bgP; rw [decide_eq_false h1]; rfl))
    · have h1 : nI (b 9 i) = x := h1
      refine k_at (j := i) (by omega) ?_
      refine And.intro (fun h2 => ?_) (fun h2 => ?_)
      · have h2 : ¬ nI (b 10 i) = y := h2
        refine k_eq (z := nI (i + 1)) (nI_add i 1) ?_
        refine hK _ ?_
        exact ih (i + 1) (by omega) (by omega) r (next (by unfold bgP; rw [decide_eq_false h2]; simp))
      · have h2 : nI (b 10 i) = y := h2
        refine hK _ ?_
        have e : bgP b x y i = true := by unfold bgP; rw [decide_eq_true h1, decide_eq_true h2]; rfl
        exact k_ireturn d3_begins_31 rfl rfl (rbB (b := true) (by rw [hr2, e]; rfl)) rfl (Nat.le_of_ble_eq_true rfl) (Nat.le_of_ble_eq_true rfl)
theorem m3_begins (h5 : g 5 ≤ 60) : k_Met Y3_begins [.ref 24, .int x, .int y] (hY g b F A o) (.inl (some (.int (bB (bgB g b x y)))), hY g b F A o, 0, 0) := by
  refine k_intro (by decide +kernel) rfl rfl rfl ?_
  refine k_go 99 [2] T3_begins_ok (fun K hK => ?_)
  refine hK _ ?_
  exact m3_begins_loop h5 (g 5) 0 (by omega) (by omega) _ rfl
def adB (g : Nat → Nat) (b : Nat → Nat → Nat) (u s n r : Nat) : Nat → Nat → Nat := up2 (up2 (up2 (up2 (up2 b 9 (g 5) u) 10 (g 5) s) 11 (g 5) n) 12 (g 5) r) 13 (g 5) (b 4 u)
theorem m3_add {u s n r : Nat} (hu : u < 20) (h5 : g 5 < 60) : k_Met Y3_add [.ref 24, .int (nI u), .int (nI s), .int (nI n), .int (nI r)] (hY g b F A o) (.inl (some (.int (nI (g 5)))), hY (up1 g 5 (g 5 + 1)) (adB g b u s n r) F A o, 0, 0) := by
  refine k_intro (by decide +kernel) rfl rfl rfl ?_
  refine k_go 99 [] T3_add_ok (fun K hK => ?_)
  refine k_at h5 ?_
  refine k_at h5 ?_
  refine k_at h5 ?_
  refine k_at h5 ?_
  refine k_at (j := u) hu ?_
  refine k_at h5 ?_
  refine k_eq (z := nI (g 5 + 1)) (nI_add _ 1) ?_
  refine k_eq (z := nI (g 5)) (nI_pred _) ?_
  refine hK _ ?_
  exact k_ireturn d3_add_72 rfl rfl rfl (hY_eq (cF_up' (f := g) rfl) (cA_up' (cA_up' (cA_up' (cA_up' (cA_up' (a := b) rfl rfl) rfl) rfl) rfl) rfl)).symm (Nat.le_of_ble_eq_true rfl) (Nat.le_of_ble_eq_true rfl)
theorem m3_most (I : IvM g b) {m : Nat} (hm : m < 60) : k_Met Y3_most [.ref 24, .int (nI m)] (hY g b F A o) (.inl (some (.int (nI (mst g b m)))), hY g b F A o, 0, 0) := by
  have h11 := I.2.2.2.2.2.1 m
  have h2 := I.2.2.2.2.2.2.2.2.2.2.2.2.2.1
  have tail : ∀ n : Nat, n = max 1 (b 11 m) → k_W Y3_most none (.inl (some (.int (nI (mst g b m)))), hY g b F A o, 0, 0) (19, [(0, .ref 24), (1, .int (nI m))], [.int (nI n)], hY g b F A o, 0, 0) := by
    intro n hn
    have e0 : ¬ (0 < g 2 ∧ g 2 < max 1 (b 11 m)) → mst g b m = n := fun h => by rw [hn]; exact if_neg h
    have e1 : 0 < g 2 ∧ g 2 < max 1 (b 11 m) → mst g b m = g 2 := fun h => if_pos h
    generalize mst g b m = r at e0 e1
    refine k_go 99 [] T3_most_ok (fun K hK => ?_)
    refine z_le (a := g 2) (by omega) (fun h => ?_) (fun h => ?_)
    · refine hK _ ?_
      exact k_ireturn d3_most_43 rfl rfl (rnN (e0 (by omega))) rfl (Nat.le_of_ble_eq_true rfl) (Nat.le_of_ble_eq_true rfl)
    · refine b_ge (a := g 2) (b := n) (by omega) (by omega) (fun h3 => ?_) (fun h3 => ?_)
      · refine hK _ ?_
        exact k_ireturn d3_most_43 rfl rfl (rnN (e0 (by omega))) rfl (Nat.le_of_ble_eq_true rfl) (Nat.le_of_ble_eq_true rfl)
      · refine hK _ ?_
        exact k_ireturn d3_most_43 rfl rfl (rnN (e1 (by omega))) rfl (Nat.le_of_ble_eq_true rfl) (Nat.le_of_ble_eq_true rfl)
  refine k_intro (by decide +kernel) rfl rfl rfl ?_
  refine k_go 99 [19] T3_most_ok (fun K hK => ?_)
  refine k_at hm ?_
  refine z_le (a := b 11 m) (by omega) (fun h => ?_) (fun h => ?_)
  · refine hK _ ?_
    exact tail 1 (by omega)
  · refine k_at hm ?_
    refine hK _ ?_
    exact tail (b 11 m) (by omega)
theorem mst_lt (I : IvM g b) (m : Nat) : mst g b m < 10000 := by
  have h11 := I.2.2.2.2.2.1 m
  have h2 := I.2.2.2.2.2.2.2.2.2.2.2.2.2.1
  unfold mst
  split <;> omega
theorem m3_endOf (I : IvM g b) {m : Nat} (hm : m < 60) : k_Met Y3_endOf [.ref 24, .int (nI m)] (hY g b F A o) (.inl (some (.int (nI (eof g b m)))), hY g b F A o, 0, 0) := by
  have h11 := I.2.2.2.2.2.1 m
  have h1 := mst_lt I m
  refine k_intro (by decide +kernel) rfl rfl rfl ?_
  refine k_go 99 [] T3_endOf_ok (fun K hK => ?_)
  refine hK _ ?_
  refine k_callV (Y' := Y3_most) (as := [.int (nI m)]) (st := []) (m3_most I hm) rfl c3_122 rfl rfl rfl d3_endOf_2 (Nat.le_of_ble_eq_true rfl) (Nat.le_of_ble_eq_true rfl) rfl rfl ?_
  refine k_go 99 [] T3_endOf_ok (fun K hK => ?_)
  refine k_at hm ?_
  refine b_ge (a := mst g b m) (b := b 11 m) (by omega) (by omega) (fun h => ?_) (fun h => ?_)
  · refine hK _ ?_
    exact k_ireturn d3_endOf_19 rfl rfl (rnN (b := 0) (by unfold eof; rw [if_neg (by omega)])) rfl (Nat.le_of_ble_eq_true rfl) (Nat.le_of_ble_eq_true rfl)
  · refine hK _ ?_
    exact k_ireturn d3_endOf_19 rfl rfl (rnN (b := 2) (by unfold eof; rw [if_pos h])) rfl (Nat.le_of_ble_eq_true rfl) (Nat.le_of_ble_eq_true rfl)
def rrP (b : Nat → Nat → Nat) (s u c r : Nat) : Bool := decide (b 0 (b 8 r) = c) && decide (nearI (b 1 s) (b 2 s) (b 5 r) (b 6 r) (b 3 s)) && decide (nearI (b 5 r) (b 6 r) (b 1 u) (b 2 u) (b 7 r))
def rrB (g : Nat → Nat) (b : Nat → Nat → Nat) (s u c : Nat) : Bool := decide (nearI (b 1 s) (b 2 s) (b 1 u) (b 2 u) (b 3 s)) || exB (rrP b s u c) (g 4) 0
theorem m3_reaches_loop (I : IvM g b) {s u c : Nat} (hs : s < 20) (hu : u < 20) (hc : c < 10000) : ∀ (n i : Nat), g 4 - i = n → i ≤ g 4 → ∀ (r : Bool), r = exB (rrP b s u c) n i →
    k_W Y3_reaches none (.inl (some (.int (bB r))), hY g b F A o, 0, 0) (41, [(4, .int (nI i)), (0, .ref 24), (1, .int (nI s)), (2, .int (nI u)), (3, .int (nI c))], [], hY g b F A o, 0, 0) := by
  have h4 := I.2.2.2.2.2.2.2.2.2.2.2.2.2.2.2.1
  intro n
  induction n with
  | zero =>
    intro i hn hi r hr
    refine k_go 99 [41] T3_reaches_ok (fun K hK => ?_)
    refine b_ge (a := i) (b := g 4) (by omega) (by omega) (fun h => ?_) (fun h => absurd h (by omega))
    refine hK _ ?_
    exact k_ireturn d3_reaches_155 rfl rfl (rbB (b := false) hr) rfl (Nat.le_of_ble_eq_true rfl) (Nat.le_of_ble_eq_true rfl)
  | succ n ih =>
    intro i hn hi r hr
    have hr2 : r = (rrP b s u c i || exB (rrP b s u c) n (i + 1)) := hr
    have h0 := I.1 (b 8 i)
    have next : rrP b s u c i = false → k_W Y3_reaches none (.inl (some (.int (bB r))), hY g b F A o, 0, 0) (148, [(4, .int (nI i)), (0, .ref 24), (1, .int (nI s)), (2, .int (nI u)), (3, .int (nI c))], [], hY g b F A o, 0, 0) := by
      intro e
      rw [e, Bool.false_or] at hr2
      refine k_go 99 [41] T3_reaches_ok (fun K hK => ?_)
      refine k_eq (z := nI (i + 1)) (nI_add i 1) ?_
      refine hK _ ?_
      exact ih (i + 1) (by omega) (by omega) r hr2
    refine k_go 99 [41, 148] T3_reaches_ok (fun K hK => ?_)
    refine b_ge (a := i) (b := g 4) (by omega) (by omega) (fun h => absurd h (by omega)) (fun h => ?_)
    refine k_at (j := i) (by omega) ?_
    refine k_at (j := b 8 i) (I.2.2.1 i) ?_
    refine b_ne (a := b 0 (b 8 i)) (b := c) (by omega) (by omega) (fun h1 => ?_) (fun h1 => ?_)
    · refine hK _ ?_
      exact next (by simp [rrP, h1])
    · refine k_at (j := s) hs ?_
      refine k_at (j := s) hs ?_
      refine k_at (j := i) (by omega) ?_
      refine k_at (j := i) (by omega) ?_
      refine k_at (j := s) hs ?_
      refine hK _ ?_
      refine k_callS (Y' := Y3_isNear) (as := [.int (nI (b 1 s)), .int (nI (b 2 s)), .int (nI (b 5 i)), .int (nI (b 6 i)), .int (nI (b 3 s))]) (st := []) (m3_isNear) rfl c3_133 rfl rfl d3_reaches_98 (Nat.le_of_ble_eq_true rfl) (Nat.le_of_ble_eq_true rfl) rfl rfl ?_
      refine k_go 99 [41, 148] T3_reaches_ok (fun K hK => ?_)
      refine q_ne (fun h2 => ?_) (fun h2 => ?_)
      · refine k_at (j := i) (by omega) ?_
        refine k_at (j := i) (by omega) ?_
        refine k_at (j := u) hu ?_
        refine k_at (j := u) hu ?_
        refine k_at (j := i) (by omega) ?_
        refine hK _ ?_
        refine k_callS (Y' := Y3_isNear) (as := [.int (nI (b 5 i)), .int (nI (b 6 i)), .int (nI (b 1 u)), .int (nI (b 2 u)), .int (nI (b 7 i))]) (st := []) (m3_isNear) rfl c3_133 rfl rfl d3_reaches_140 (Nat.le_of_ble_eq_true rfl) (Nat.le_of_ble_eq_true rfl) rfl rfl ?_
        refine k_go 99 [41, 148] T3_reaches_ok (fun K hK => ?_)
        refine q_eq (fun h5 => ?_) (fun h5 => ?_)
        · refine hK _ ?_
          exact next (by unfold rrP; rw [h5]; simp)
        · refine hK _ ?_
          have e : rrP b s u c i = true := by unfold rrP; rw [decide_eq_true h1, h2, h5]; rfl
          exact k_ireturn d3_reaches_147 rfl rfl (rbB (b := true) (by rw [hr2, e]; rfl)) rfl (Nat.le_of_ble_eq_true rfl) (Nat.le_of_ble_eq_true rfl)
      · refine hK _ ?_
        exact next (by unfold rrP; rw [h2]; simp)
theorem m3_reaches (I : IvM g b) {s u c : Nat} (hs : s < 20) (hu : u < 20) (hc : c < 10000) : k_Met Y3_reaches [.ref 24, .int (nI s), .int (nI u), .int (nI c)] (hY g b F A o) (.inl (some (.int (bB (rrB g b s u c)))), hY g b F A o, 0, 0) := by
  refine k_intro (by decide +kernel) rfl rfl rfl ?_
  refine k_go 99 [41] T3_reaches_ok (fun K hK => ?_)
  refine k_at (j := s) hs ?_
  refine k_at (j := s) hs ?_
  refine k_at (j := u) hu ?_
  refine k_at (j := u) hu ?_
  refine k_at (j := s) hs ?_
  refine hK _ ?_
  refine k_callS (Y' := Y3_isNear) (as := [.int (nI (b 1 s)), .int (nI (b 2 s)), .int (nI (b 1 u)), .int (nI (b 2 u)), .int (nI (b 3 s))]) (st := []) (m3_isNear) rfl c3_133 rfl rfl d3_reaches_30 (Nat.le_of_ble_eq_true rfl) (Nat.le_of_ble_eq_true rfl) rfl rfl ?_
  refine k_go 99 [41] T3_reaches_ok (fun K hK => ?_)
  refine q_eq (fun h => ?_) (fun h => ?_)
  · refine hK _ ?_
    exact m3_reaches_loop I hs hu hc (g 4) 0 (by omega) (by omega) _ (by unfold rrB; rw [h]; rfl)
  · refine hK _ ?_
    exact k_ireturn d3_reaches_37 rfl rfl (rbB (b := true) (by unfold rrB; rw [h]; rfl)) rfl (Nat.le_of_ble_eq_true rfl) (Nat.le_of_ble_eq_true rfl)
end ME5
end
section
abbrev k_T3 : Type := (Nat → Nat → Nat) × Nat × Bool
def cl1 (c s m : Nat) (q : k_T3) : k_T3 :=
  if q.1 0 (q.1 13 m) = c ∧ q.1 10 m = s then
    if q.2.1 = NONE ∨ q.1 12 q.2.1 < q.1 12 m then (up2 (up2 q.1 17 m 3) 18 m 0, m, true)
    else (up2 (up2 q.1 17 m 3) 18 m 0, q.2.1, if q.1 12 m = q.1 12 q.2.1 then false else q.2.2)
  else q
def clN (c s : Nat) : Nat → Nat → k_T3 → k_T3
  | 0, _, q => q
  | n + 1, m, q => clN c s n (m + 1) (cl1 c s m q)
theorem IvM_17 {g : Nat → Nat} {b : Nat → Nat → Nat} {m v : Nat} (I : IvM g b) (hv : v < 10) : IvM g (up2 b 17 m v) := ⟨I.1, I.2.1, I.2.2.1, I.2.2.2.1, I.2.2.2.2.1, I.2.2.2.2.2.1, I.2.2.2.2.2.2.1, I.2.2.2.2.2.2.2.1, I.2.2.2.2.2.2.2.2.1, I.2.2.2.2.2.2.2.2.2.1, I.2.2.2.2.2.2.2.2.2.2.1, up1_lt I.2.2.2.2.2.2.2.2.2.2.2.1 hv, I.2.2.2.2.2.2.2.2.2.2.2.2⟩
theorem IvM_18 {g : Nat → Nat} {b : Nat → Nat → Nat} {m v : Nat} (I : IvM g b) : IvM g (up2 b 18 m v) := I
theorem IvM_16 {g : Nat → Nat} {b : Nat → Nat → Nat} {m v : Nat} (I : IvM g b) (hv : v < 10000) : IvM g (up2 b 16 m v) := ⟨I.1, I.2.1, I.2.2.1, I.2.2.2.1, I.2.2.2.2.1, I.2.2.2.2.2.1, I.2.2.2.2.2.2.1, I.2.2.2.2.2.2.2.1, I.2.2.2.2.2.2.2.2.1, I.2.2.2.2.2.2.2.2.2.1, up1_lt I.2.2.2.2.2.2.2.2.2.2.1 hv, I.2.2.2.2.2.2.2.2.2.2.2⟩
theorem IvM_15 {g : Nat → Nat} {b : Nat → Nat → Nat} {m v : Nat} (I : IvM g b) (hv : v = NONE ∨ v < 60) : IvM g (up2 b 15 m v) := by
  refine ⟨I.1, I.2.1, I.2.2.1, I.2.2.2.1, I.2.2.2.2.1, I.2.2.2.2.2.1, I.2.2.2.2.2.2.1, I.2.2.2.2.2.2.2.1, I.2.2.2.2.2.2.2.2.1, fun t => ?_, I.2.2.2.2.2.2.2.2.2.2⟩
  show up1 (b 15) m v t = NONE ∨ up1 (b 15) m v t < 60
  unfold up1
  split
  · exact hv
  · exact I.2.2.2.2.2.2.2.2.2.1 t
theorem cl1_ok {g : Nat → Nat} {c s m : Nat} {q : k_T3} (I : IvM g q.1) (hm : m < 60) (hq : q.2.1 = NONE ∨ q.2.1 < 60) : IvM g (cl1 c s m q).1 ∧ ((cl1 c s m q).2.1 = NONE ∨ (cl1 c s m q).2.1 < 60) := by
  unfold cl1
  split
  · split
    · exact ⟨IvM_18 (IvM_17 I (by omega)), Or.inr hm⟩
    · exact ⟨IvM_18 (IvM_17 I (by omega)), hq⟩
  · exact ⟨I, hq⟩
theorem clN_ok {g : Nat → Nat} {c s : Nat} : ∀ (n m : Nat) (q : k_T3), IvM g q.1 → m + n ≤ 60 → (q.2.1 = NONE ∨ q.2.1 < 60) → IvM g (clN c s n m q).1 ∧ ((clN c s n m q).2.1 = NONE ∨ (clN c s n m q).2.1 < 60) := by
  intro n
  induction n with
  | zero => intro m q I _ hq; exact ⟨I, hq⟩
  | succ n ih =>
    intro m q I hm hq
    obtain ⟨h1, h2⟩ := cl1_ok (c := c) (s := s) (m := m) I (by omega) hq
    exact ih (m + 1) _ h1 (by omega) h2
/-- what a search ends with -/
def clC (q : k_T3) : Nat := if q.2.2 = true then q.2.1 else NONE
theorem rnC {h : List k_O} {mc ms : Nat} {q : k_T3} {r : Nat} (e : clC q = r) : ((.inl (some (.int (nI (clC q)))), h, mc, ms) : k_G).1 = .inl (some (.int (nI r))) := by rw [e]
section CL
variable {g : Nat → Nat} {b : Nat → Nat → Nat} {F : Nat → Int32} {A : Nat → Nat → Int32} {o : Nat → Int64} {x y z w v : Int32}
theorem m3_caller_loop (h5 : g 5 ≤ 60) {c s : Nat} (hc : c < 10000) (hs : s < 10000) : ∀ (n i : Nat) (b : Nat → Nat → Nat) (be : Nat) (one : Bool), g 5 - i = n → i ≤ g 5 → IvM g b → (be = NONE ∨ be < 60) → ∀ (r : k_T3), r = clN c s n i (b, be, one) →
    k_W Y3_caller none (.inl (some (.int (nI (clC r)))), hY g r.1 F A o, 0, 0) (8, [(5, .int (nI i)), (4, .int (bB one)), (3, .int (nI be)), (0, .ref 24), (1, .int (nI c)), (2, .int (nI s))], [], hY g b F A o, 0, 0) := by
  intro n
  induction n with
  | zero =>
    intro i b be one hn hi I hbe r hr
    have hr1 : r = (b, be, one) := hr
    have e0 : clC r = if one = true then be else NONE := by rw [hr1]; rfl
    have eb : r.1 = b := by rw [hr1]
    rw [eb, e0]
    refine k_go 99 [8] T3_caller_ok (fun K hK => ?_)
    refine b_ge (a := i) (b := g 5) (by omega) (by omega) (fun h => ?_) (fun h => absurd h (by omega))
    refine q_eq (fun h1 => ?_) (fun h1 => ?_)
    · refine hK _ ?_
      exact k_ireturn d3_caller_131 rfl rfl (by rw [h1, if_neg Bool.false_ne_true]; exact congrArg (fun v => Sum.inl (some (Value.int v))) neg1.symm) rfl (Nat.le_of_ble_eq_true rfl) (Nat.le_of_ble_eq_true rfl)
    · refine hK _ ?_
      exact k_ireturn d3_caller_131 rfl rfl (by rw [h1, if_pos rfl]) rfl (Nat.le_of_ble_eq_true rfl) (Nat.le_of_ble_eq_true rfl)
  | succ n ih =>
    intro i b be one hn hi I hbe r hr
    have hr1 : r = clN c s n (i + 1) (cl1 c s i (b, be, one)) := hr
    have h0 := I.1 (b 13 i)
    have h10 := I.2.2.2.2.1 i
    have h12 := I.2.2.2.2.2.2.1
    have no : ¬ (b 0 (b 13 i) = c ∧ b 10 i = s) → r = clN c s n (i + 1) (b, be, one) := fun h => by rw [hr1]; congr 1; exact if_neg h
    have yes : b 0 (b 13 i) = c ∧ b 10 i = s → r = clN c s n (i + 1) (if be = NONE ∨ b 12 be < b 12 i then (up2 (up2 b 17 i 3) 18 i 0, i, true) else (up2 (up2 b 17 i 3) 18 i 0, be, if b 12 i = b 12 be then false else one)) := fun h => by rw [hr1]; congr 1; exact if_pos h
    have I2 : IvM g (up2 (up2 b 17 i 3) 18 i 0) := IvM_18 (IvM_17 I (by omega))
    have go9 : ∀ (be9 : Nat) (one9 : Bool), (be9 = NONE ∨ be9 < 60) → r = clN c s n (i + 1) (up2 (up2 b 17 i 3) 18 i 0, be9, one9) → k_W Y3_caller none (.inl (some (.int (nI (clC r)))), hY g r.1 F A o, 0, 0) (8, [(5, .int (nI (i + 1))), (4, .int (bB one9)), (3, .int (nI be9)), (0, .ref 24), (1, .int (nI c)), (2, .int (nI s))], [], hY g (up2 (up2 b 17 i 3) 18 i 0) F A o, 0, 0) := fun be9 one9 h1 h2 => ih (i + 1) _ be9 one9 (by omega) (by omega) I2 h1 r h2
    have skip : ¬ (b 0 (b 13 i) = c ∧ b 10 i = s) → k_W Y3_caller none (.inl (some (.int (nI (clC r)))), hY g r.1 F A o, 0, 0) (8, [(5, .int (nI (i + 1))), (4, .int (bB one)), (3, .int (nI be)), (0, .ref 24), (1, .int (nI c)), (2, .int (nI s))], [], hY g b F A o, 0, 0) := fun h => ih (i + 1) b be one (by omega) (by omega) I hbe r (no h)
    generalize ((.inl (some (.int (nI (clC r)))), hY g r.1 F A o, 0, 0) : k_G) = G9 at go9 skip ⊢
    have eH : hA F A (cF g) (upA (upA (cA b) 17 (upd (cA b 17) i (nI 3))) 18 (upd (cA b 18) i (nI 0))) o = hY g (up2 (up2 b 17 i 3) 18 i 0) F A o := hY_eq rfl (cA_up' (cA_up' (a := b) rfl rfl) rfl)
    refine k_go 99 [8] T3_caller_ok (fun K hK => ?_)
    refine b_ge (a := i) (b := g 5) (by omega) (by omega) (fun h => absurd h (by omega)) (fun h => ?_)
    refine k_at (j := i) (by omega) ?_
    refine k_at (j := b 13 i) (I.2.2.2.2.2.2.2.1 i) ?_
    refine b_ne (a := b 0 (b 13 i)) (b := c) (by omega) (by omega) (fun h1 => ?_) (fun h1 => ?_)
    · refine k_eq (z := nI (i + 1)) (nI_add i 1) ?_
      exact hK _ (skip (fun q => h1 q.1))
    · refine k_at (j := i) (by omega) ?_
      refine b_eq (a := b 10 i) (b := s) (by omega) (by omega) (fun h2 => ?_) (fun h2 => ?_)
      · have hy := yes ⟨h1, h2⟩
        refine k_at (j := i) (by omega) ?_
        refine k_at (j := i) (by omega) ?_
        refine n_lt hbe (fun hb1 => ?_) (fun hb1 => ?_)
        · refine n_lt hbe (fun _ => ?_) (fun hb2 => absurd hb2 (by rw [hb1]; decide))
          refine k_eq (z := nI (i + 1)) (nI_add i 1) ?_
          refine hK _ (k_heq eH ?_)
          exact go9 i true (Or.inr (by omega)) (by rw [hy, if_pos (Or.inl hb1)])
        · have hbn : ¬ be = NONE := fun q => by rw [q] at hb1; exact absurd hb1 (by decide)
          have r1 := h12 i
          have r2 := h12 be
          refine k_at (j := i) (by omega) ?_
          refine k_at (j := be) hb1 ?_
          refine b_ne (a := b 12 i) (b := b 12 be) (by omega) (by omega) (fun h3 => ?_) (fun h3 => ?_)
          · refine n_lt hbe (fun q => absurd q hbn) (fun _ => ?_)
            refine k_at (j := i) (by omega) ?_
            refine k_at (j := be) hb1 ?_
            refine b_gt (a := b 12 i) (b := b 12 be) (by omega) (by omega) (fun h6 => ?_) (fun h6 => ?_)
            · refine k_eq (z := nI (i + 1)) (nI_add i 1) ?_
              refine hK _ (k_heq eH ?_)
              exact go9 i true (Or.inr (by omega)) (by rw [hy, if_pos (Or.inr h6)])
            · refine k_eq (z := nI (i + 1)) (nI_add i 1) ?_
              refine hK _ (k_heq eH ?_)
              exact go9 be one hbe (by rw [hy, if_neg (by rintro (q | q); exact hbn q; omega), if_neg h3])
          · refine n_lt hbe (fun q => absurd q hbn) (fun _ => ?_)
            refine k_at (j := i) (by omega) ?_
            refine k_at (j := be) hb1 ?_
            refine b_gt (a := b 12 i) (b := b 12 be) (by omega) (by omega) (fun h6 => absurd h6 (by omega)) (fun h6 => ?_)
            refine k_eq (z := nI (i + 1)) (nI_add i 1) ?_
            refine hK _ (k_heq eH ?_)
            exact go9 be false hbe (by rw [hy, if_neg (by rintro (q | q); exact hbn q; omega), if_pos h3])
      · refine k_eq (z := nI (i + 1)) (nI_add i 1) ?_
        exact hK _ (skip (fun q => h2 q.2))
def clr0 (g : Nat → Nat) (b : Nat → Nat → Nat) (c s : Nat) : k_T3 := clN c s (g 5) 0 (b, NONE, true)
theorem m3_caller (I : IvM g b) {c s : Nat} (hc : c < 10000) (hs : s < 10000) : k_Met Y3_caller [.ref 24, .int (nI c), .int (nI s)] (hY g b F A o) (.inl (some (.int (nI (clC (clr0 g b c s))))), hY g (clr0 g b c s).1 F A o, 0, 0) := by
  refine k_intro (by decide +kernel) rfl rfl rfl ?_
  refine k_go 99 [8] T3_caller_ok (fun K hK => ?_)
  refine hK _ ?_
  exact m3_caller_loop I.2.2.2.2.2.2.2.2.2.2.2.2.2.2.2.2 hc hs (g 5) 0 b NONE true (by omega) (by omega) I (Or.inl rfl) _ rfl
end CL
end
section
/-- behind the caller of a slot: who is on, who is next, whether it cuts -/
def stA (b : Nat → Nat → Nat) (on c : Nat) : (Nat → Nat → Nat) × Nat × Nat × Bool :=
  if c = NONE then (b, on, NONE, false)
  else if on = NONE then (b, c, NONE, false)
  else if b 12 on < b 12 c then (up2 b 17 c 4, on, c, true)
  else (b, on, NONE, false)
def ovB (g : Nat → Nat) (b : Nat → Nat → Nat) (on : Nat) : Bool := decide (b 18 on + 1 = mst g b on)
def stB (g : Nat → Nat) (b : Nat → Nat → Nat) (s on : Nat) (cuts : Bool) : (Nat → Nat → Nat) × Nat :=
  if on = NONE then (up2 b 15 s NONE, NONE)
  else (up2 (up2 (up2 (up2 b 15 s on) 18 on (b 18 on + 1)) 16 s (if b 11 on = 0 then 0 else b 18 on + 1)) 17 on (if ovB g b on = true then eof g b on else if s + 1 = g 1 then 4 else 1), if (ovB g b on || cuts) = true then NONE else on)
def d0s (g : Nat → Nat) (c s : Nat) (q : (Nat → Nat → Nat) × Nat × Nat) : (Nat → Nat → Nat) × Nat × Nat :=
  let on1 := if q.2.2 = NONE then q.2.1 else q.2.2
  let r := clr0 g q.1 c s
  let t := stA r.1 on1 (clC r)
  let z := stB g t.1 s t.2.1 t.2.2.2
  (z.1, z.2, t.2.2.1)
def d0N (g : Nat → Nat) (c : Nat) : Nat → Nat → (Nat → Nat → Nat) × Nat × Nat → (Nat → Nat → Nat) × Nat × Nat
  | 0, _, q => q
  | n + 1, s, q => d0N g c n (s + 1) (d0s g c s q)
def day0B (g : Nat → Nat) (b : Nat → Nat → Nat) (c : Nat) : Nat → Nat → Nat := (d0N g c (g 1) 0 (b, NONE, NONE)).1
abbrev okN (x : Nat) : Prop := x = NONE ∨ x < 60
theorem k_sub5 {Y : k_Y} {sc : k_Sc} {G : k_G} {pc : Nat} {ls : List (Nat × Value)} {st : List Value} {h : List k_O} {nc ns : Nat} {i1 i2 i3 i4 i5 : Nat} {v1 v2 v3 v4 v5 : Value} (e1 : k_lk ls i1 = some v1) (e2 : k_lk ls i2 = some v2) (e3 : k_lk ls i3 = some v3) (e4 : k_lk ls i4 = some v4) (e5 : k_lk ls i5 = some v5) (k : k_W Y sc G (pc, [(i1, v1), (i2, v2), (i3, v3), (i4, v4), (i5, v5)], st, h, nc, ns)) : k_W Y sc G (pc, ls, st, h, nc, ns) := by
  refine k_perm (fun q hq => ?_) k
  simp only [List.mem_cons, List.not_mem_nil, or_false] at hq
  rcases hq with rfl | rfl | rfl | rfl | rfl
  · exact k_lk_mem e1
  · exact k_lk_mem e2
  · exact k_lk_mem e3
  · exact k_lk_mem e4
  · exact k_lk_mem e5
theorem clN_18 {c s N : Nat} : ∀ (n m : Nat) (q : k_T3), (∀ j, q.1 18 j ≤ N) → ∀ j, (clN c s n m q).1 18 j ≤ N := by
  intro n
  induction n with
  | zero => intro m q h j; exact h j
  | succ n ih =>
    intro m q h j
    refine ih (m + 1) _ (fun j => ?_) j
    have e : ∀ j, up2 (up2 q.1 17 m 3) 18 m 0 18 j ≤ N := fun j => by
      show up1 (q.1 18) m 0 j ≤ N
      unfold up1
      split
      · omega
      · exact h j
    unfold cl1
    split
    · split
      · exact e j
      · exact e j
    · exact h j
section DZ
variable {g : Nat → Nat} {b : Nat → Nat → Nat} {F : Nat → Int32} {A : Nat → Nat → Int32} {o : Nat → Int64} {x y z w v : Int32}
theorem stA_ok {on c : Nat} (I : IvM g b) (ho : okN on) (hc : okN c) : IvM g (stA b on c).1 ∧ okN (stA b on c).2.1 ∧ okN (stA b on c).2.2.1 := by
  unfold stA
  split
  · exact ⟨I, ho, Or.inl rfl⟩
  · split
    · exact ⟨I, hc, Or.inl rfl⟩
    · split
      · exact ⟨IvM_17 I (by omega), ho, hc⟩
      · exact ⟨I, ho, Or.inl rfl⟩
theorem eof_lt (m : Nat) : eof g b m < 10 := by unfold eof; split <;> omega
theorem stB_ok {s on : Nat} {cuts : Bool} (I : IvM g b) (ho : okN on) (h18 : on ≠ NONE → b 18 on < 9999) : IvM g (stB g b s on cuts).1 ∧ okN (stB g b s on cuts).2 := by
  unfold stB
  split
  · exact ⟨IvM_15 I (Or.inl rfl), Or.inl rfl⟩
  · next h =>
    have h1 := h18 h
    refine ⟨IvM_17 (IvM_16 (IvM_18 (IvM_15 I ho)) (by split <;> omega)) ?_, ?_⟩
    · split
      · exact eof_lt on
      · split <;> omega
    · dsimp only
      split
      · exact Or.inl rfl
      · exact ho
/-- the second half of a slot -/
theorem m3_day0_B (I : IvM g b) {c s on nx u5 : Nat} {cuts : Bool} (hs : s < g 1) (ho : okN on) (h18 : on ≠ NONE → b 18 on < 9999) {G9 : k_G}
    (next : k_W Y3_day0 none G9 (7, [(4, .int (nI (s + 1))), (3, .int (nI nx)), (2, .int (nI (stB g b s on cuts).2)), (0, .ref 24), (1, .int (nI c))], [], hY g (stB g b s on cuts).1 F A o, 0, 0)) (ls : List (Nat × Value))
    (e6 : ls = [(6, .int (bB cuts)), (5, .int (nI u5)), (3, .int (nI nx)), (2, .int (nI on)), (4, .int (nI s)), (0, .ref 24), (1, .int (nI c))]) : k_W Y3_day0 none G9 (86, ls, [], hY g b F A o, 0, 0) := by
  subst e6
  have h1 := I.2.2.2.2.2.2.2.2.2.2.2.2.1
  refine k_go 99 [7, 137] T3_day0_ok (fun K hK => ?_)
  refine k_at (j := s) (by omega) ?_
  refine n_ge ho (fun hon => ?_) (fun hon => ?_)
  · have hne : ¬ on = NONE := fun q => by rw [q] at hon; exact absurd hon (by decide)
    have h9 := h18 hne
    have h11 := I.2.2.2.2.2.1 on
    have eS : stB g b s on cuts = (up2 (up2 (up2 (up2 b 15 s on) 18 on (b 18 on + 1)) 16 s (if b 11 on = 0 then 0 else b 18 on + 1)) 17 on (if ovB g b on = true then eof g b on else if s + 1 = g 1 then 4 else 1), if (ovB g b on || cuts) = true then NONE else on) := if_neg hne
    rw [eS] at next
    have I4 : IvM g (up2 (up2 (up2 b 15 s on) 18 on (b 18 on + 1)) 16 s (if b 11 on = 0 then 0 else b 18 on + 1)) := IvM_16 (IvM_18 (IvM_15 I ho)) (by split <;> omega)
    have em : mst g (up2 (up2 (up2 b 15 s on) 18 on (b 18 on + 1)) 16 s (if b 11 on = 0 then 0 else b 18 on + 1)) on = mst g b on := rfl
    have ee : eof g (up2 (up2 (up2 b 15 s on) 18 on (b 18 on + 1)) 16 s (if b 11 on = 0 then 0 else b 18 on + 1)) on = eof g b on := rfl
    have hmst := mst_lt I on
    have e18 : up1 (b 18) on (b 18 on + 1) on = b 18 on + 1 := by unfold up1; rw [if_pos rfl]
    have u18 : ∀ z : Int32, upd (cA b 18) on z on = z := fun z => by unfold upd; rw [if_pos rfl]
    -- the third part: from the words on
    have part3 : ∀ ls : List (Nat × Value), ls = [(6, .int (bB cuts)), (5, .int (nI u5)), (3, .int (nI nx)), (2, .int (nI on)), (4, .int (nI s)), (0, .ref 24), (1, .int (nI c))] → k_W Y3_day0 none G9 (137, ls, [], hY g (up2 (up2 (up2 b 15 s on) 18 on (b 18 on + 1)) 16 s (if b 11 on = 0 then 0 else b 18 on + 1)) F A o, 0, 0) := by
      intro ls els
      subst els
      generalize hB4 : up2 (up2 (up2 b 15 s on) 18 on (b 18 on + 1)) 16 s (if b 11 on = 0 then 0 else b 18 on + 1) = b4 at next I4 em ee ⊢
      have e4 : b4 18 on = b 18 on + 1 := by rw [← hB4]; exact e18
      have fin : ∀ (ov : Bool) (ev : Nat) (v7 : List (Nat × Value)), ov = ovB g b on → ev = (if ovB g b on = true then eof g b on else if s + 1 = g 1 then 4 else 1) → v7 = [(7, .int (bB ov)), (6, .int (bB cuts)), (5, .int (nI u5)), (3, .int (nI nx)), (2, .int (nI on)), (4, .int (nI s)), (0, .ref 24), (1, .int (nI c))] → k_W Y3_day0 none G9 (192, v7, [.int (nI ev), .int (nI on), .ref 42], hY g b4 F A o, 0, 0) := by
        intro ov ev v7 eo ee7 e7
        subst e7
        rw [← ee7, ← eo] at next
        refine k_go 99 [7] T3_day0_ok (fun K hK => ?_)
        refine k_at (j := on) hon ?_
        refine q_ne (fun h5 => ?_) (fun h5 => ?_)
        · refine k_eq (z := nI (s + 1)) (nI_add s 1) ?_
          refine hK _ (k_heq (hY_eq rfl (cA_up b4 17 on ev)) ?_)
          rw [h5, Bool.true_or, if_pos rfl] at next
          refine k_sub5 (i1 := 4) (i2 := 3) (i3 := 2) (i4 := 0) (i5 := 1) rfl rfl (congrArg (fun v => some (Value.int v)) neg1) rfl rfl ?_
          exact next
        · refine q_eq (fun h6 => ?_) (fun h6 => ?_)
          · refine k_eq (z := nI (s + 1)) (nI_add s 1) ?_
            refine hK _ (k_heq (hY_eq rfl (cA_up b4 17 on ev)) ?_)
            rw [h5, h6, if_neg (by decide)] at next
            refine k_sub5 (i1 := 4) (i2 := 3) (i3 := 2) (i4 := 0) (i5 := 1) rfl rfl rfl rfl rfl ?_
            exact next
          · refine k_eq (z := nI (s + 1)) (nI_add s 1) ?_
            refine hK _ (k_heq (hY_eq rfl (cA_up b4 17 on ev)) ?_)
            rw [h5, h6, if_pos (by decide)] at next
            refine k_sub5 (i1 := 4) (i2 := 3) (i3 := 2) (i4 := 0) (i5 := 1) rfl rfl (congrArg (fun v => some (Value.int v)) neg1) rfl rfl ?_
            exact next
      have mm : k_Met Y3_most [.ref 24, .int (nI on)] (hY g b4 F A o) (.inl (some (.int (nI (mst g b on)))), hY g b4 F A o, 0, 0) := by rw [← em]; exact m3_most I4 hon
      have me : k_Met Y3_endOf [.ref 24, .int (nI on)] (hY g b4 F A o) (.inl (some (.int (nI (eof g b on)))), hY g b4 F A o, 0, 0) := by rw [← ee]; exact m3_endOf I4 hon
      clear next
      refine k_go 99 [192] T3_day0_ok (fun K hK => ?_)
      refine k_at (j := on) hon ?_
      refine hK _ ?_
      refine k_callV (Y' := Y3_most) (as := [.int (nI on)]) (st := [.int (nI (b4 18 on))]) (mm) rfl c3_122 rfl rfl rfl d3_day0_145 (Nat.zero_le _) (Nat.zero_le _) rfl rfl ?_
      refine k_go 99 [192] T3_day0_ok (fun K hK => ?_)
      refine b_ne (a := b4 18 on) (b := mst g b on) (by omega) (by omega) (fun h5 => ?_) (fun h5 => ?_)
      · have ho : ovB g b on = false := decide_eq_false (by omega)
        refine q_eq (b := false) (fun _ => ?_) (fun q => by cases q)
        have hp : g 1 - 1 + 1 = g 1 := by omega
        refine k_eq (z := nI (g 1 - 1)) (pk_sub (a := g 1) (b := 1) (by omega)) ?_
        refine b_ne (a := s) (b := g 1 - 1) (by omega) (by omega) (fun h6 => ?_) (fun h6 => ?_)
        · exact hK _ (fin false 1 _ ho.symm (by rw [ho, if_neg (by decide), if_neg (by omega)]) rfl)
        · exact hK _ (fin false 4 _ ho.symm (by rw [ho, if_neg (by decide), if_pos (by omega)]) rfl)
      · have ho : ovB g b on = true := decide_eq_true (by omega)
        refine q_eq (b := true) (fun q => by cases q) (fun _ => ?_)
        refine hK _ ?_
        refine k_callV (Y' := Y3_endOf) (as := [.int (nI on)]) (st := [.int (nI on), .ref 42]) (me) rfl c3_130 rfl rfl rfl d3_day0_170 (Nat.zero_le _) (Nat.zero_le _) rfl rfl ?_
        refine k_go 99 [192] T3_day0_ok (fun K hK => ?_)
        exact hK _ (fin true _ _ ho.symm (by rw [ho, if_pos rfl]) rfl)
    clear next
    refine k_at (j := on) hon ?_
    refine k_eq (z := nI (b 18 on + 1)) (nI_add _ 1) ?_
    refine k_at (j := on) hon ?_
    refine k_at (j := on) hon ?_
    refine z_le (a := b 11 on) (by omega) (fun h5 => ?_) (fun h5 => ?_)
    · refine k_at (j := s) (by omega) ?_
      rw [if_pos h5] at part3
      exact hK _ (k_heq (hY_eq rfl (cA_up' (k := 16) (j := s) (v := 0) (cA_up' (k := 18) (j := on) (v := b 18 on + 1) (cA_up' (a := b) (k := 15) (j := s) (v := on) rfl rfl) rfl) rfl)) (part3 _ rfl))
    · rw [if_neg (by omega)] at part3
      refine k_at (j := on) hon ?_
      refine k_at (j := s) (by omega) ?_
      exact hK _ (k_heq (hY_eq rfl ((congrArg (fun v => upA (upA (upA (cA b) 15 (upd (cA b 15) s (nI on))) 18 (upd (cA b 18) on (nI (b 18 on + 1)))) 16 (upd (cA b 16) s v)) (u18 (nI (b 18 on + 1)))).trans (cA_up' (k := 16) (j := s) (v := b 18 on + 1) (cA_up' (k := 18) (j := on) (v := b 18 on + 1) (cA_up' (a := b) (k := 15) (j := s) (v := on) rfl rfl) rfl) rfl))) (part3 _ rfl))
  · have eS : stB g b s on cuts = (up2 b 15 s NONE, NONE) := if_pos hon
    rw [eS] at next
    refine k_eq (z := nI (s + 1)) (nI_add s 1) ?_
    refine hK _ (k_heq (hY_eq rfl ((congrArg (fun v => upA (cA b) 15 (upd (cA b 15) s (nI v))) hon).trans (cA_up b 15 s NONE))) ?_)
    refine k_sub5 (i1 := 4) (i2 := 3) (i3 := 2) (i4 := 0) (i5 := 1) rfl rfl (by rw [hon]; rfl) rfl rfl ?_
    exact next
end DZ
end
section
theorem k_sub7 {Y : k_Y} {sc : k_Sc} {G : k_G} {pc : Nat} {ls : List (Nat × Value)} {st : List Value} {h : List k_O} {nc ns : Nat} {i1 i2 i3 i4 i5 i6 i7 : Nat} {v1 v2 v3 v4 v5 v6 v7 : Value} (e1 : k_lk ls i1 = some v1) (e2 : k_lk ls i2 = some v2) (e3 : k_lk ls i3 = some v3) (e4 : k_lk ls i4 = some v4) (e5 : k_lk ls i5 = some v5) (e6 : k_lk ls i6 = some v6) (e7 : k_lk ls i7 = some v7) (k : k_W Y sc G (pc, [(i1, v1), (i2, v2), (i3, v3), (i4, v4), (i5, v5), (i6, v6), (i7, v7)], st, h, nc, ns)) : k_W Y sc G (pc, ls, st, h, nc, ns) := by
  refine k_perm (fun q hq => ?_) k
  simp only [List.mem_cons, List.not_mem_nil, or_false] at hq
  rcases hq with rfl | rfl | rfl | rfl | rfl | rfl | rfl
  · exact k_lk_mem e1
  · exact k_lk_mem e2
  · exact k_lk_mem e3
  · exact k_lk_mem e4
  · exact k_lk_mem e5
  · exact k_lk_mem e6
  · exact k_lk_mem e7
theorem stB_18 {g : Nat → Nat} {b : Nat → Nat → Nat} {s on N : Nat} {cuts : Bool} (h : ∀ j, b 18 j ≤ N) : ∀ j, (stB g b s on cuts).1 18 j ≤ N + 1 := by
  intro j
  unfold stB
  split
  · exact Nat.le_succ_of_le (h j)
  · show up1 (b 18) on (b 18 on + 1) j ≤ N + 1
    unfold up1
    split
    · have := h on; omega
    · exact Nat.le_succ_of_le (h j)
theorem some1 : some (Value.int (-1)) = some (Value.int (nI NONE)) := congrArg (fun v => some (Value.int v)) neg1
section DZ2
variable {g : Nat → Nat} {F : Nat → Int32} {A : Nat → Nat → Int32} {o : Nat → Int64}
theorem m3_day0_loop {c : Nat} (hc : c < 10000) : ∀ (n s : Nat) (b : Nat → Nat → Nat) (on nx : Nat), g 1 - s = n → s ≤ g 1 → IvM g b → okN on → okN nx → (∀ j, b 18 j ≤ 1000 + s) → ∀ (r : (Nat → Nat → Nat) × Nat × Nat), r = d0N g c n s (b, on, nx) →
    k_W Y3_day0 none (.inl none, hY g r.1 F A o, 0, 0) (7, [(4, .int (nI s)), (3, .int (nI nx)), (2, .int (nI on)), (0, .ref 24), (1, .int (nI c))], [], hY g b F A o, 0, 0) := by
  intro n
  induction n with
  | zero =>
    intro s b on nx hn hs I ho hx h18 r hr
    have h1 := I.2.2.2.2.2.2.2.2.2.2.2.2.1
    have hr1 : r = (b, on, nx) := hr
    have eb : r.1 = b := by rw [hr1]
    rw [eb]
    refine k_go 99 [7] T3_day0_ok (fun K hK => ?_)
    refine b_ge (a := s) (b := g 1) (by omega) (by omega) (fun h => ?_) (fun h => absurd h (by omega))
    refine hK _ ?_
    exact k_return d3_day0_211 rfl rfl rfl (Nat.le_of_ble_eq_true rfl) (Nat.le_of_ble_eq_true rfl)
  | succ n ih =>
    intro s b on nx hn hs I ho hx h18 r hr
    have h1 := I.2.2.2.2.2.2.2.2.2.2.2.2.1
    have h5 := I.2.2.2.2.2.2.2.2.2.2.2.2.2.2.2.2
    have hr1 : r = d0N g c n (s + 1) (d0s g c s (b, on, nx)) := hr
    have mid : ∀ (on1 : Nat) (v : Int32), on1 = (if nx = NONE then on else nx) → okN on1 → k_W Y3_day0 none (.inl none, hY g r.1 F A o, 0, 0) (22, [(4, .int (nI s)), (3, .int v), (2, .int (nI on1)), (0, .ref 24), (1, .int (nI c))], [], hY g b F A o, 0, 0) := by
      intro on1 v e1 hon1
      obtain ⟨I1, hc1⟩ := clN_ok (g := g) (c := c) (s := s) (g 5) 0 (b, NONE, true) I (by omega) (Or.inl rfl)
      have hcc : okN (clC (clr0 g b c s)) := by
        unfold clC
        split
        · exact hc1
        · exact Or.inl rfl
      have h181 := clN_18 (c := c) (s := s) (g 5) 0 (b, NONE, true) h18
      have step : ∀ (b2 : Nat → Nat → Nat) (on2 nx2 : Nat) (cuts : Bool), stA (clr0 g b c s).1 on1 (clC (clr0 g b c s)) = (b2, on2, nx2, cuts) → r = d0N g c n (s + 1) ((stB g b2 s on2 cuts).1, (stB g b2 s on2 cuts).2, nx2) := by
        intro b2 on2 nx2 cuts et
        rw [hr1]
        congr 1
        unfold d0s
        dsimp only
        rw [← e1, et]
      have I1 : IvM g (clr0 g b c s).1 := I1
      have h181 : ∀ j, (clr0 g b c s).1 18 j ≤ 1000 + s := h181
      have mcall : k_Met Y3_caller [.ref 24, .int (nI c), .int (nI s)] (hY g b F A o) (.inl (some (.int (nI (clC (clr0 g b c s))))), hY g (clr0 g b c s).1 F A o, 0, 0) := m3_caller I hc (by omega)
      generalize hq0 : clC (clr0 g b c s) = cc at hcc step mcall
      generalize hq1 : (clr0 g b c s).1 = b1 at I1 h181 step mcall
      have toB : ∀ (b2 : Nat → Nat → Nat) (on2 nx2 : Nat) (cuts : Bool), stA b1 on1 cc = (b2, on2, nx2, cuts) → IvM g b2 → okN on2 → okN nx2 → (∀ j, b2 18 j ≤ 1000 + s) → k_W Y3_day0 none (.inl none, hY g r.1 F A o, 0, 0) (86, [(6, .int (bB cuts)), (5, .int (nI cc)), (3, .int (nI nx2)), (2, .int (nI on2)), (4, .int (nI s)), (0, .ref 24), (1, .int (nI c))], [], hY g b2 F A o, 0, 0) := by
        intro b2 on2 nx2 cuts et I2 ho2 hn2 hb2
        have h9 : on2 ≠ NONE → b2 18 on2 < 9999 := fun _ => by have := hb2 on2; omega
        obtain ⟨I3, ho3⟩ := stB_ok (s := s) (cuts := cuts) I2 ho2 h9
        refine m3_day0_B I2 (by omega) ho2 h9 ?_ _ rfl
        exact ih (s + 1) _ _ nx2 (by omega) (by omega) I3 ho3 hn2 (stB_18 hb2) r (step b2 on2 nx2 cuts et)
      have hrk := I1.2.2.2.2.2.2.1
      have a1 : cc = NONE → stA b1 on1 cc = (b1, on1, NONE, false) := fun h => if_pos h
      have a2 : ¬ cc = NONE → on1 = NONE → stA b1 on1 cc = (b1, cc, NONE, false) := fun h h' => (if_neg h).trans (if_pos h')
      have a3 : ¬ cc = NONE → ¬ on1 = NONE → b1 12 on1 < b1 12 cc → stA b1 on1 cc = (up2 b1 17 cc 4, on1, cc, true) := fun h h' h'' => (if_neg h).trans ((if_neg h').trans (if_pos h''))
      have a4 : ¬ cc = NONE → ¬ on1 = NONE → ¬ b1 12 on1 < b1 12 cc → stA b1 on1 cc = (b1, on1, NONE, false) := fun h h' h'' => (if_neg h).trans ((if_neg h').trans (if_neg h''))
      have n60 : ∀ {x : Nat}, x < 60 → ¬ x = NONE := fun h q => by rw [q] at h; exact absurd h (by decide)
      clear step ih
      generalize ((.inl none, hY g r.1 F A o, 0, 0) : k_G) = G9 at toB ⊢
      refine k_go 99 [86] T3_day0_ok (fun K hK => ?_)
      refine hK _ ?_
      refine k_callV (Y' := Y3_caller) (as := [.int (nI c), .int (nI s)]) (st := []) (mcall) rfl c3_126 rfl rfl rfl d3_day0_28 (Nat.zero_le _) (Nat.zero_le _) rfl rfl ?_
      refine k_go 99 [86] T3_day0_ok (fun K hK => ?_)
      refine n_lt hcc (fun hn1 => ?_) (fun hn1 => ?_)
      · refine n_lt hcc (fun _ => ?_) (fun q => absurd hn1 (n60 q))
        refine hK _ ?_
        refine k_sub7 (i1 := 6) (i2 := 5) (i3 := 3) (i4 := 2) (i5 := 4) (i6 := 0) (i7 := 1) rfl rfl some1 rfl rfl rfl rfl ?_
        exact toB b1 on1 NONE false (a1 hn1) I1 hon1 (Or.inl rfl) h181
      · refine n_ge hon1 (fun hn2 => ?_) (fun hn2 => ?_)
        · refine n_lt hcc (fun q => absurd q (n60 hn1)) (fun _ => ?_)
          have r1 := hrk on1
          have r2 := hrk cc
          refine k_at (j := on1) hn2 ?_
          refine k_at (j := cc) hn1 ?_
          refine b_ge (a := b1 12 on1) (b := b1 12 cc) (by omega) (by omega) (fun h3 => ?_) (fun h3 => ?_)
          · refine hK _ ?_
            refine k_sub7 (i1 := 6) (i2 := 5) (i3 := 3) (i4 := 2) (i5 := 4) (i6 := 0) (i7 := 1) rfl rfl some1 rfl rfl rfl rfl ?_
            exact toB b1 on1 NONE false (a4 (n60 hn1) (n60 hn2) (by omega)) I1 hon1 (Or.inl rfl) h181
          · refine k_at (j := cc) hn1 ?_
            refine hK _ (k_heq (hY_eq rfl (cA_up b1 17 cc 4)) ?_)
            refine k_sub7 (i1 := 6) (i2 := 5) (i3 := 3) (i4 := 2) (i5 := 4) (i6 := 0) (i7 := 1) rfl rfl rfl rfl rfl rfl rfl ?_
            exact toB (up2 b1 17 cc 4) on1 cc true (a3 (n60 hn1) (n60 hn2) h3) (IvM_17 I1 (by omega)) hon1 hcc h181
        · refine hK _ ?_
          refine k_sub7 (i1 := 6) (i2 := 5) (i3 := 3) (i4 := 2) (i5 := 4) (i6 := 0) (i7 := 1) rfl rfl some1 rfl rfl rfl rfl ?_
          exact toB b1 cc NONE false (a2 (n60 hn1) hn2) I1 hcc (Or.inl rfl) h181
    clear ih hr hr1
    generalize ((.inl none, hY g r.1 F A o, 0, 0) : k_G) = G9 at mid ⊢
    refine k_go 99 [7, 22] T3_day0_ok (fun K hK => ?_)
    refine b_ge (a := s) (b := g 1) (by omega) (by omega) (fun h => absurd h (by omega)) (fun h => ?_)
    refine n_lt hx (fun hn1 => ?_) (fun hn1 => ?_)
    · exact hK _ (mid on (nI nx) (by rw [if_pos hn1]) ho)
    · refine hK _ ?_
      refine k_sub5 (i1 := 4) (i2 := 3) (i3 := 2) (i4 := 0) (i5 := 1) rfl rfl rfl rfl rfl ?_
      exact mid nx (nI nx) (by rw [if_neg (fun q => by rw [q] at hn1; exact absurd hn1 (by decide))]) hx
theorem m3_day0 {b : Nat → Nat → Nat} (I : IvM g b) (h18 : ∀ j, b 18 j ≤ 1000) {c : Nat} (hc : c < 10000) : k_Met Y3_day0 [.ref 24, .int (nI c)] (hY g b F A o) (.inl none, hY g (day0B g b c) F A o, 0, 0) := by
  refine k_intro (by decide +kernel) rfl rfl rfl ?_
  refine k_go 99 [7] T3_day0_ok (fun K hK => ?_)
  refine hK _ ?_
  refine k_sub5 (i1 := 4) (i2 := 3) (i3 := 2) (i4 := 0) (i5 := 1) rfl some1 some1 rfl rfl ?_
  exact m3_day0_loop hc (g 1) 0 b NONE NONE (by omega) (by omega) I (Or.inl rfl) (Or.inl rfl) (fun j => by have := h18 j; omega) _ rfl
end DZ2
end
section
theorem n60 {x : Nat} (h : x < 60) : ¬ x = NONE := fun q => by rw [q] at h; exact absurd h (by decide)
theorem cl1_z {c s m : Nat} {q : k_T3} (hq : q.2.1 ≠ NONE → q.1 18 q.2.1 = 0) : (cl1 c s m q).2.1 ≠ NONE → (cl1 c s m q).1 18 (cl1 c s m q).2.1 = 0 := by
  have u0 : ∀ k, q.1 18 k = 0 → up1 (q.1 18) m 0 k = 0 := fun k h => by unfold up1; split <;> first | rfl | exact h
  unfold cl1
  split
  · split
    · intro h; show up1 (q.1 18) m 0 m = 0; unfold up1; rw [if_pos rfl]
    · intro h; exact u0 _ (hq h)
  · exact hq
theorem clN_z {c s : Nat} : ∀ (n m : Nat) (q : k_T3), (q.2.1 ≠ NONE → q.1 18 q.2.1 = 0) → (clN c s n m q).2.1 ≠ NONE → (clN c s n m q).1 18 (clN c s n m q).2.1 = 0 := by
  intro n
  induction n with
  | zero => intro m q h; exact h
  | succ n ih => intro m q h; exact ih (m + 1) _ (cl1_z h)
theorem cl1_le {c s m : Nat} {q : k_T3} (j : Nat) : (cl1 c s m q).1 18 j ≤ q.1 18 j := by
  have u0 : up1 (q.1 18) m 0 j ≤ q.1 18 j := by unfold up1; split <;> omega
  unfold cl1
  split
  · split
    · exact u0
    · exact u0
  · exact Nat.le_refl _
theorem clN_le {c s : Nat} : ∀ (n m : Nat) (q : k_T3) (j : Nat), (clN c s n m q).1 18 j ≤ q.1 18 j := by
  intro n
  induction n with
  | zero => intro m q j; exact Nat.le_refl _
  | succ n ih => intro m q j; exact Nat.le_trans (ih (m + 1) _ j) (cl1_le j)
def dIv (g : Nat → Nat) (s : Nat) (q : (Nat → Nat → Nat) × Nat × Nat) : Prop := IvM g q.1 ∧ okN q.2.1 ∧ okN q.2.2 ∧ (∀ j, q.1 18 j ≤ 1000) ∧ (q.2.1 ≠ NONE → q.1 18 q.2.1 ≤ s) ∧ (q.2.2 ≠ NONE → q.1 18 q.2.2 ≤ s)
theorem d0s_ok {g : Nat → Nat} {c s : Nat} {q : (Nat → Nat → Nat) × Nat × Nat} (hs : s < g 1) (h : dIv g s q) : dIv g (s + 1) (d0s g c s q) := by
  obtain ⟨I, ho, hx, h18, h1, h2⟩ := h
  have g1 := I.2.2.2.2.2.2.2.2.2.2.2.2.1
  have g5 := I.2.2.2.2.2.2.2.2.2.2.2.2.2.2.2.2
  obtain ⟨I1, hc1⟩ := clN_ok (g := g) (c := c) (s := s) (g 5) 0 (q.1, NONE, true) I (by omega) (Or.inl rfl)
  have z1 := clN_z (c := c) (s := s) (g 5) 0 (q.1, NONE, true) (fun h => absurd rfl h)
  have le1 := clN_le (c := c) (s := s) (g 5) 0 (q.1, NONE, true)
  have hon : okN (if q.2.2 = NONE then q.2.1 else q.2.2) := by split <;> assumption
  have hon2 : (if q.2.2 = NONE then q.2.1 else q.2.2) ≠ NONE → q.1 18 (if q.2.2 = NONE then q.2.1 else q.2.2) ≤ s := by
    split
    · exact h1
    · exact h2
  unfold d0s
  dsimp only
  generalize (if q.2.2 = NONE then q.2.1 else q.2.2) = on1 at hon hon2 ⊢
  have hcc : okN (clC (clr0 g q.1 c s)) := by
    unfold clC
    split
    · exact hc1
    · exact Or.inl rfl
  have hz : clC (clr0 g q.1 c s) ≠ NONE → (clr0 g q.1 c s).1 18 (clC (clr0 g q.1 c s)) = 0 := by
    unfold clC
    split
    · exact z1
    · intro h; exact absurd rfl h
  have le2 : ∀ j, (clr0 g q.1 c s).1 18 j ≤ q.1 18 j := le1
  have I2 : IvM g (clr0 g q.1 c s).1 := I1
  generalize clC (clr0 g q.1 c s) = cc at hcc hz ⊢
  generalize (clr0 g q.1 c s).1 = b1 at I2 hz le2 ⊢
  have on18 : on1 ≠ NONE → b1 18 on1 ≤ s := fun h => Nat.le_trans (le2 on1) (hon2 h)
  have b18 : ∀ j, b1 18 j ≤ 1000 := fun j => Nat.le_trans (le2 j) (h18 j)
  have key : ∀ (b2 : Nat → Nat → Nat) (on nx : Nat) (cuts : Bool), b2 18 = b1 18 → IvM g b2 → okN on → okN nx → (on ≠ NONE → b1 18 on ≤ s) → (nx ≠ NONE → b1 18 nx = 0) → dIv g (s + 1) ((stB g b2 s on cuts).1, (stB g b2 s on cuts).2, nx) := by
    intro b2 on nx cuts e2 J hon hnx k1 k2
    have s18 : on ≠ NONE → b2 18 on < 9999 := fun h => by have := k1 h; rw [e2]; omega
    obtain ⟨J2, ok2⟩ := stB_ok (s := s) (cuts := cuts) J hon s18
    refine ⟨J2, ok2, hnx, ?_, ?_, ?_⟩
    · intro j
      unfold stB
      split
      · show b2 18 j ≤ 1000; rw [e2]; exact b18 j
      · next h =>
        show up1 (b2 18) on (b2 18 on + 1) j ≤ 1000
        have := k1 h
        unfold up1
        split
        · rw [e2]; omega
        · rw [e2]; exact b18 j
    · unfold stB
      split
      · intro h; exact absurd rfl h
      · next h =>
        dsimp only
        split
        · intro h; exact absurd rfl h
        · intro _
          show up1 (b2 18) on (b2 18 on + 1) on ≤ s + 1
          have := k1 h
          unfold up1
          rw [if_pos rfl, e2]; omega
    · intro h
      have h0 := k2 h
      dsimp only
      unfold stB
      split
      · show b2 18 nx ≤ s + 1; rw [e2]; omega
      · next h' =>
        show up1 (b2 18) on (b2 18 on + 1) nx ≤ s + 1
        have := k1 h'
        unfold up1
        split
        · rw [e2]; omega
        · rw [e2]; omega
  unfold stA
  split
  · exact key b1 on1 NONE false rfl I2 hon (Or.inl rfl) on18 (fun h => absurd rfl h)
  · next hc =>
    split
    · exact key b1 cc NONE false rfl I2 hcc (Or.inl rfl) (fun h => by rw [hz h]; omega) (fun h => absurd rfl h)
    · split
      · exact key (up2 b1 17 cc 4) on1 cc true rfl (IvM_17 I2 (by omega)) hon hcc on18 hz
      · exact key b1 on1 NONE false rfl I2 hon (Or.inl rfl) on18 (fun h => absurd rfl h)
theorem d0N_ok {g : Nat → Nat} {c : Nat} : ∀ (n s : Nat) (q : (Nat → Nat → Nat) × Nat × Nat), s + n = g 1 → dIv g s q → dIv g (g 1) (d0N g c n s q) := by
  intro n
  induction n with
  | zero => intro s q e h; have e : s = g 1 := by omega
            rw [← e]; exact h
  | succ n ih => intro s q e h; exact ih (s + 1) _ (by omega) (d0s_ok (by omega) h)
abbrev IvD (g : Nat → Nat) (b : Nat → Nat → Nat) : Prop := IvM g b ∧ ∀ j, b 18 j ≤ 1000
theorem day0_ok {g : Nat → Nat} {b : Nat → Nat → Nat} {c : Nat} (I : IvD g b) : IvD g (day0B g b c) := by
  have h := d0N_ok (c := c) (g 1) 0 (b, NONE, NONE) (by omega) ⟨I.1, Or.inl rfl, Or.inl rfl, I.2, fun h => absurd rfl h, fun h => absurd rfl h⟩
  exact ⟨h.1, h.2.2.2.1⟩
theorem IvM_g0 {g : Nat → Nat} {b : Nat → Nat → Nat} {t : Nat} (I : IvM g b) : IvM (up1 g 0 t) b := by
  obtain ⟨h1, h2, h3, h4, h5, h6, h7, h8, h9, h10, h11, h12, h13, h14, h15, h16, h17⟩ := I
  exact ⟨h1, h2, h3, h4, h5, h6, h7, h8, h9, h10, h11, h12, h13, h14, h15, h16, h17⟩
theorem IvD_g0 {g : Nat → Nat} {b : Nat → Nat → Nat} {t : Nat} (I : IvD g b) : IvD (up1 g 0 t) b := ⟨IvM_g0 I.1, I.2⟩
def gtB (g : Nat → Nat) (b : Nat → Nat → Nat) (u s : Nat) : Bool := if b 15 s = NONE then false else decide (b 9 (b 15 s) ≠ u) && decide (b 14 s = 0) && rrB g b (b 9 (b 15 s)) u (b 0 (b 4 u))
def hdB (g : Nat → Nat) (b : Nat → Nat → Nat) (u m : Nat) : Bool := decide (b 0 (b 4 u) = b 0 (b 13 m)) && decide (0 < b 18 m) && !exB (fun s => decide (b 15 s = m) && !gtB g b u s) (g 1) 0
section MH
variable {g : Nat → Nat} {b : Nat → Nat → Nat} {F : Nat → Int32} {A : Nat → Nat → Int32} {o : Nat → Int64} {x y z w : Int32}
theorem m3_gets (I : IvM g b) {u s : Nat} (hu : u < 20) (hs : s < 1000) : k_Met Y3_gets [.ref 24, .int (nI u), .int (nI s)] (hY g b F A o) (.inl (some (.int (bB (gtB g b u s)))), hY g b F A o, 0, 0) := by
  have h15 := I.2.2.2.2.2.2.2.2.2.1 s
  have h14 := I.2.2.2.2.2.2.2.2.1 s
  have h9 := I.2.2.2.1 (b 15 s)
  have h4 := I.2.1 u
  have h0 := I.1 (b 4 u)
  have eN : b 15 s = NONE → gtB g b u s = false := fun h => if_pos h
  have e0 : b 15 s < 60 → gtB g b u s = (decide (b 9 (b 15 s) ≠ u) && decide (b 14 s = 0) && rrB g b (b 9 (b 15 s)) u (b 0 (b 4 u))) := fun h => if_neg (n60 h)
  generalize gtB g b u s = r at eN e0
  refine k_intro (by decide +kernel) rfl rfl rfl ?_
  refine k_go 99 [] T3_gets_ok (fun K hK => ?_)
  refine k_at (j := s) hs ?_
  refine n_lt h15 (fun h => ?_) (fun h => ?_)
  · refine hK _ ?_
    exact k_ireturn d3_gets_60 rfl rfl (rbB (b := false) (eN h)) rfl (Nat.le_of_ble_eq_true rfl) (Nat.le_of_ble_eq_true rfl)
  · have e0 := e0 h
    refine k_at (j := b 15 s) h ?_
    refine b_eq (a := b 9 (b 15 s)) (b := u) (by omega) (by omega) (fun h1 => ?_) (fun h1 => ?_)
    · refine hK _ ?_
      exact k_ireturn d3_gets_60 rfl rfl (rbB (b := false) (by rw [e0, decide_eq_false (fun q => q h1)]; rfl)) rfl (Nat.le_of_ble_eq_true rfl) (Nat.le_of_ble_eq_true rfl)
    · refine k_at (j := s) hs ?_
      refine z_ne (a := b 14 s) (by omega) (fun h2 => ?_) (fun h2 => ?_)
      · refine hK _ ?_
        exact k_ireturn d3_gets_60 rfl rfl (rbB (b := false) (by rw [e0, decide_eq_false (p := b 14 s = 0) (by omega)]; simp)) rfl (Nat.le_of_ble_eq_true rfl) (Nat.le_of_ble_eq_true rfl)
      · refine k_at (j := b 15 s) h ?_
        refine k_at (j := u) hu ?_
        refine k_at (j := b 4 u) h4 ?_
        refine hK _ ?_
        rw [decide_eq_true h1, decide_eq_true h2] at e0
        refine k_callV (Y' := Y3_reaches) (as := [.int (nI (b 9 (b 15 s))), .int (nI u), .int (nI (b 0 (b 4 u)))]) (st := []) (m3_reaches I h9 hu (by omega)) rfl c3_137 rfl rfl rfl d3_gets_49 (Nat.le_of_ble_eq_true rfl) (Nat.le_of_ble_eq_true rfl) rfl rfl ?_
        refine k_go 99 [] T3_gets_ok (fun K hK => ?_)
        refine q_eq (fun h3 => ?_) (fun h3 => ?_)
        · refine hK _ ?_
          exact k_ireturn d3_gets_60 rfl rfl (rbB (b := false) (by rw [e0, h3]; rfl)) rfl (Nat.le_of_ble_eq_true rfl) (Nat.le_of_ble_eq_true rfl)
        · refine hK _ ?_
          exact k_ireturn d3_gets_60 rfl rfl (rbB (b := true) (by rw [e0, h3]; rfl)) rfl (Nat.le_of_ble_eq_true rfl) (Nat.le_of_ble_eq_true rfl)
theorem m3_hears_unk (I : IvM g b) (h : ¬ inR x (g 3)) : k_Met Y3_hears [.ref 24, .int x, .int y] (hY g b F A o) (.inl (some (.int 0)), hY (up1 g 0 1) b F A o, 0, 0) := by
  have g1 := I.2.2.2.2.2.2.2.2.2.2.2.2.1
  have g3 := I.2.2.2.2.2.2.2.2.2.2.2.2.2.2.1
  refine k_intro (by decide +kernel) rfl rfl rfl ?_
  refine k_go 99 [] T3_hears_ok (fun K hK => ?_)
  refine hK _ ?_
  refine k_callV (Y' := Y3_isUnit) (as := [.int x]) (st := [.int (nI 3), .ref 24]) (m3_isUnit (by omega)) rfl c3_103 rfl rfl rfl d3_hears_4 (Nat.le_of_ble_eq_true rfl) (Nat.le_of_ble_eq_true rfl) rfl rfl ?_
  rw [decide_eq_false h]
  refine k_go 99 [] T3_hears_ok (fun K hK => ?_)
  refine hK _ ?_
  refine k_callV (Y' := Y3_isSlot) (as := [.int y]) (st := [.int (bB false), .int (nI 3), .ref 24]) (m3_isSlot (by omega)) rfl c3_106 rfl rfl rfl d3_hears_9 (Nat.le_of_ble_eq_true rfl) (Nat.le_of_ble_eq_true rfl) rfl rfl ?_
  refine k_go 99 [] T3_hears_ok (fun K hK => ?_)
  refine hK _ ?_
  refine k_callV (Y' := Y3_goes) (as := [.int (nI 3), .int (bB false), .int (bB (decide (inR y (g 1)))), .int (bB true), .int (bB true)]) (st := []) (m3_goes (k := 3) (by omega) false (decide (inR y (g 1))) true true) rfl c3_85 rfl rfl rfl d3_hears_14 (Nat.le_of_ble_eq_true rfl) (Nat.le_of_ble_eq_true rfl) rfl rfl ?_
  refine k_go 99 [] T3_hears_ok (fun K hK => ?_)
  refine q_ne (fun e => absurd e (by simp)) (fun _ => ?_)
  refine hK _ ?_
  exact k_ireturn d3_hears_21 rfl rfl rfl rfl (Nat.le_of_ble_eq_true rfl) (Nat.le_of_ble_eq_true rfl)
theorem m3_hears_bad (I : IvM g b) (h : inR x (g 3)) (h2 : ¬ inR y (g 1)) : k_Met Y3_hears [.ref 24, .int x, .int y] (hY g b F A o) (.inl (some (.int 0)), hY (up1 g 0 2) b F A o, 0, 0) := by
  have g1 := I.2.2.2.2.2.2.2.2.2.2.2.2.1
  have g3 := I.2.2.2.2.2.2.2.2.2.2.2.2.2.2.1
  refine k_intro (by decide +kernel) rfl rfl rfl ?_
  refine k_go 99 [] T3_hears_ok (fun K hK => ?_)
  refine hK _ ?_
  refine k_callV (Y' := Y3_isUnit) (as := [.int x]) (st := [.int (nI 3), .ref 24]) (m3_isUnit (by omega)) rfl c3_103 rfl rfl rfl d3_hears_4 (Nat.le_of_ble_eq_true rfl) (Nat.le_of_ble_eq_true rfl) rfl rfl ?_
  rw [decide_eq_true h]
  refine k_go 99 [] T3_hears_ok (fun K hK => ?_)
  refine hK _ ?_
  refine k_callV (Y' := Y3_isSlot) (as := [.int y]) (st := [.int (bB true), .int (nI 3), .ref 24]) (m3_isSlot (by omega)) rfl c3_106 rfl rfl rfl d3_hears_9 (Nat.le_of_ble_eq_true rfl) (Nat.le_of_ble_eq_true rfl) rfl rfl ?_
  rw [decide_eq_false h2]
  refine k_go 99 [] T3_hears_ok (fun K hK => ?_)
  refine hK _ ?_
  refine k_callV (Y' := Y3_goes) (as := [.int (nI 3), .int (bB true), .int (bB false), .int (bB true), .int (bB true)]) (st := []) (m3_goes (k := 3) (by omega) true false true true) rfl c3_85 rfl rfl rfl d3_hears_14 (Nat.le_of_ble_eq_true rfl) (Nat.le_of_ble_eq_true rfl) rfl rfl ?_
  refine k_go 99 [] T3_hears_ok (fun K hK => ?_)
  refine q_ne (fun e => absurd e (by decide)) (fun _ => ?_)
  refine hK _ ?_
  exact k_ireturn d3_hears_21 rfl rfl rfl rfl (Nat.le_of_ble_eq_true rfl) (Nat.le_of_ble_eq_true rfl)
def hrM (g : Nat → Nat) (b : Nat → Nat → Nat) (u s : Nat) : Nat := if gtB g b u s = true then 100 * (b 15 s + 1) + b 16 s else 0
theorem m3_hears_ok (I : IvD g b) {u s : Nat} (hu : u < g 3) (hs : s < g 1) : k_Met Y3_hears [.ref 24, .int (nI u), .int (nI s)] (hY g b F A o) (.inl (some (.int (nI (hrM (up1 g 0 0) (day0B (up1 g 0 0) b (b 0 (b 4 u))) u s)))), hY (up1 g 0 0) (day0B (up1 g 0 0) b (b 0 (b 4 u))) F A o, 0, 0) := by
  have D : IvD (up1 g 0 0) (day0B (up1 g 0 0) b (b 0 (b 4 u))) := day0_ok (IvD_g0 I)
  obtain ⟨I, h18⟩ := I
  have g1 := I.2.2.2.2.2.2.2.2.2.2.2.2.1
  have g3 := I.2.2.2.2.2.2.2.2.2.2.2.2.2.2.1
  have h4 := I.2.1 u
  have h0 := I.1 (b 4 u)
  have md : k_Met Y3_day0 [.ref 24, .int (nI (b 0 (b 4 u)))] (hY (up1 g 0 0) b F A o) (.inl none, hY (up1 g 0 0) (day0B (up1 g 0 0) b (b 0 (b 4 u))) F A o, 0, 0) := m3_day0 (IvM_g0 I) h18 (by omega)
  generalize day0B (up1 g 0 0) b (b 0 (b 4 u)) = b2 at D md ⊢
  have h15 := D.1.2.2.2.2.2.2.2.2.2.1 s
  have e1 : gtB (up1 g 0 0) b2 u s = true → hrM (up1 g 0 0) b2 u s = 100 * (b2 15 s + 1) + b2 16 s := fun h => if_pos h
  have e0 : gtB (up1 g 0 0) b2 u s = false → hrM (up1 g 0 0) b2 u s = 0 := fun h => if_neg (by rw [h]; decide)
  generalize hrM (up1 g 0 0) b2 u s = r at e1 e0 ⊢
  refine k_intro (by decide +kernel) rfl rfl rfl ?_
  refine k_go 99 [] T3_hears_ok (fun K hK => ?_)
  refine hK _ ?_
  refine k_callV (Y' := Y3_isUnit) (as := [.int (nI u)]) (st := [.int (nI 3), .ref 24]) (m3_isUnit (by omega)) rfl c3_103 rfl rfl rfl d3_hears_4 (Nat.le_of_ble_eq_true rfl) (Nat.le_of_ble_eq_true rfl) rfl rfl ?_
  rw [decide_eq_true (inR_nI hu (by omega))]
  refine k_go 99 [] T3_hears_ok (fun K hK => ?_)
  refine hK _ ?_
  refine k_callV (Y' := Y3_isSlot) (as := [.int (nI s)]) (st := [.int (bB true), .int (nI 3), .ref 24]) (m3_isSlot (by omega)) rfl c3_106 rfl rfl rfl d3_hears_9 (Nat.le_of_ble_eq_true rfl) (Nat.le_of_ble_eq_true rfl) rfl rfl ?_
  rw [decide_eq_true (inR_nI hs (by omega))]
  refine k_go 99 [] T3_hears_ok (fun K hK => ?_)
  refine hK _ ?_
  refine k_callV (Y' := Y3_goes) (as := [.int (nI 3), .int (bB true), .int (bB true), .int (bB true), .int (bB true)]) (st := []) (m3_goes (k := 3) (by omega) true true true true) rfl c3_85 rfl rfl rfl d3_hears_14 (Nat.le_of_ble_eq_true rfl) (Nat.le_of_ble_eq_true rfl) rfl rfl ?_
  refine k_go 99 [] T3_hears_ok (fun K hK => ?_)
  refine q_ne (fun _ => ?_) (fun e => absurd e (by decide))
  refine k_at (j := u) (by omega) ?_
  refine k_at (j := b 4 u) h4 ?_
  refine hK _ ?_
  refine k_callV (Y' := Y3_day0) (as := [.int (nI (b 0 (b 4 u)))]) (st := []) (md) rfl c3_140 rfl rfl rfl d3_hears_34 (Nat.le_of_ble_eq_true rfl) (Nat.le_of_ble_eq_true rfl) rfl rfl ?_
  refine k_go 99 [] T3_hears_ok (fun K hK => ?_)
  refine hK _ ?_
  refine k_callV (Y' := Y3_gets) (as := [.int (nI u), .int (nI s)]) (st := []) (m3_gets D.1 (by omega) (by omega)) rfl c3_144 rfl rfl rfl d3_hears_40 (Nat.le_of_ble_eq_true rfl) (Nat.le_of_ble_eq_true rfl) rfl rfl ?_
  refine k_go 99 [] T3_hears_ok (fun K hK => ?_)
  refine q_eq (fun h => ?_) (fun h => ?_)
  · refine hK _ ?_
    exact k_ireturn d3_hears_68 rfl rfl (rnN (b := 0) (e0 h)) rfl (Nat.le_of_ble_eq_true rfl) (Nat.le_of_ble_eq_true rfl)
  · have e1 := e1 h
    refine k_at (j := s) (by omega) ?_
    refine k_eq (z := nI (b2 15 s + 1)) (nI_add _ 1) ?_
    refine k_eq (z := nI (100 * (b2 15 s + 1))) (pk_mul 100 _) ?_
    refine k_at (j := s) (by omega) ?_
    refine k_eq (z := nI (100 * (b2 15 s + 1) + b2 16 s)) (nI_add _ _) ?_
    refine hK _ ?_
    exact k_ireturn d3_hears_68 rfl rfl (rnN e1) rfl (Nat.le_of_ble_eq_true rfl) (Nat.le_of_ble_eq_true rfl)
theorem m3_heardAll_loop (I : IvM g b) {u q : Nat} (hu : u < 20) (hq : q < 60) : ∀ (n i : Nat), g 1 - i = n → i ≤ g 1 → ∀ (r : Bool), r = !exB (fun s => decide (b 15 s = q) && !gtB g b u s) n i →
    k_W Y3_heardAll none (.inl (some (.int (bB r))), hY g b F A o, 0, 0) (53, [(3, .int (nI i)), (0, .ref 24), (1, .int (nI u)), (2, .int (nI q))], [], hY g b F A o, 0, 0) := by
  have g1 := I.2.2.2.2.2.2.2.2.2.2.2.2.1
  intro n
  induction n with
  | zero =>
    intro i hn hi r hr
    refine k_go 99 [53] T3_heardAll_ok (fun K hK => ?_)
    refine b_ge (a := i) (b := g 1) (by omega) (by omega) (fun h => ?_) (fun h => absurd h (by omega))
    refine hK _ ?_
    exact k_ireturn d3_heardAll_89 rfl rfl (rbB (b := true) hr) rfl (Nat.le_of_ble_eq_true rfl) (Nat.le_of_ble_eq_true rfl)
  | succ n ih =>
    intro i hn hi r hr
    have hr2 : r = !((decide (b 15 i = q) && !gtB g b u i) || exB (fun s => decide (b 15 s = q) && !gtB g b u s) n (i + 1)) := hr
    have h15 := I.2.2.2.2.2.2.2.2.2.1 i
    have next : (decide (b 15 i = q) && !gtB g b u i) = false → k_W Y3_heardAll none (.inl (some (.int (bB r))), hY g b F A o, 0, 0) (82, [(3, .int (nI i)), (0, .ref 24), (1, .int (nI u)), (2, .int (nI q))], [], hY g b F A o, 0, 0) := by
      intro e
      rw [e, Bool.false_or] at hr2
      refine k_go 99 [53] T3_heardAll_ok (fun K hK => ?_)
      refine k_eq (z := nI (i + 1)) (nI_add i 1) ?_
      refine hK _ ?_
      exact ih (i + 1) (by omega) (by omega) r hr2
    refine k_go 99 [53, 82] T3_heardAll_ok (fun K hK => ?_)
    refine b_ge (a := i) (b := g 1) (by omega) (by omega) (fun h => absurd h (by omega)) (fun h => ?_)
    refine k_at (j := i) (by omega) ?_
    refine And.intro (fun h1 => ?_) (fun h1 => ?_)
    · have h1 : ¬ nI (b 15 i) = nI q := h1
      refine hK _ ?_
      exact next (by rw [decide_eq_false (fun e => h1 (by rw [e]))]; rfl)
    · have h1 : nI (b 15 i) = nI q := h1
      have h2 : b 15 i = q := by
        rcases h15 with h | h
        · rw [h, ← neg1] at h1
          exact absurd h1.symm (nI_none (by omega))
        · exact (nI_eq (by omega) (by omega)).mp h1
      refine hK _ ?_
      refine k_callV (Y' := Y3_gets) (as := [.int (nI u), .int (nI i)]) (st := []) (m3_gets I hu (by omega)) rfl c3_144 rfl rfl rfl d3_heardAll_74 (Nat.le_of_ble_eq_true rfl) (Nat.le_of_ble_eq_true rfl) rfl rfl ?_
      refine k_go 99 [53, 82] T3_heardAll_ok (fun K hK => ?_)
      refine q_ne (fun h3 => ?_) (fun h3 => ?_)
      · refine hK _ ?_
        exact next (by rw [h3]; simp)
      · refine hK _ ?_
        exact k_ireturn d3_heardAll_81 rfl rfl (rbB (b := false) (by rw [hr2, h3, decide_eq_true h2]; rfl)) rfl (Nat.le_of_ble_eq_true rfl) (Nat.le_of_ble_eq_true rfl)
theorem m3_heardAll (I : IvD g b) {u q : Nat} (hu : u < 20) (hq : q < 60) : k_Met Y3_heardAll [.ref 24, .int (nI u), .int (nI q)] (hY g b F A o) (.inl (some (.int (bB (hdB g (day0B g b (b 0 (b 13 q))) u q)))), hY g (day0B g b (b 0 (b 13 q))) F A o, 0, 0) := by
  have D : IvD g (day0B g b (b 0 (b 13 q))) := day0_ok I
  obtain ⟨I, h18⟩ := I
  have h13 := I.2.2.2.2.2.2.2.1 q
  have h0 := I.1 (b 13 q)
  have md : k_Met Y3_day0 [.ref 24, .int (nI (b 0 (b 13 q)))] (hY g b F A o) (.inl none, hY g (day0B g b (b 0 (b 13 q))) F A o, 0, 0) := m3_day0 I h18 (by omega)
  generalize day0B g b (b 0 (b 13 q)) = b2 at D md ⊢
  obtain ⟨I2, h182⟩ := D
  have k13 := I2.2.2.2.2.2.2.2.1 q
  have k0 := I2.1 (b2 13 q)
  have k4 := I2.2.1 u
  have k04 := I2.1 (b2 4 u)
  have k18 := h182 q
  have loop := m3_heardAll_loop (F := F) (A := A) (o := o) I2 hu hq (g 1) 0 (by omega) (by omega)
  have e0 : hdB g b2 u q = (decide (b2 0 (b2 4 u) = b2 0 (b2 13 q)) && decide (0 < b2 18 q) && !exB (fun s => decide (b2 15 s = q) && !gtB g b2 u s) (g 1) 0) := rfl
  generalize hdB g b2 u q = r at e0 ⊢
  refine k_intro (by decide +kernel) rfl rfl rfl ?_
  refine k_go 99 [53] T3_heardAll_ok (fun K hK => ?_)
  refine k_at (j := q) hq ?_
  refine k_at (j := b 13 q) h13 ?_
  refine hK _ ?_
  refine k_callV (Y' := Y3_day0) (as := [.int (nI (b 0 (b 13 q)))]) (st := []) (md) rfl c3_140 rfl rfl rfl d3_heardAll_12 (Nat.le_of_ble_eq_true rfl) (Nat.le_of_ble_eq_true rfl) rfl rfl ?_
  refine k_go 99 [53] T3_heardAll_ok (fun K hK => ?_)
  refine k_at (j := u) hu ?_
  refine k_at (j := b2 4 u) k4 ?_
  refine k_at (j := q) hq ?_
  refine k_at (j := b2 13 q) k13 ?_
  refine b_ne (a := b2 0 (b2 4 u)) (b := b2 0 (b2 13 q)) (by omega) (by omega) (fun h => ?_) (fun h => ?_)
  · refine hK _ ?_
    exact k_ireturn d3_heardAll_50 rfl rfl (rbB (b := false) (by rw [e0, decide_eq_false h]; rfl)) rfl (Nat.le_of_ble_eq_true rfl) (Nat.le_of_ble_eq_true rfl)
  · refine k_at (j := q) hq ?_
    refine z_ne (a := b2 18 q) (by omega) (fun h2 => ?_) (fun h2 => ?_)
    · refine hK _ ?_
      exact loop r (by rw [e0, decide_eq_true h, decide_eq_true h2]; rfl)
    · refine hK _ ?_
      exact k_ireturn d3_heardAll_50 rfl rfl (rbB (b := false) (by rw [e0, decide_eq_false (p := 0 < b2 18 q) (by omega)]; simp)) rfl (Nat.le_of_ble_eq_true rfl) (Nat.le_of_ble_eq_true rfl)
end MH
end
section
section MI
variable {g : Nat → Nat} {b : Nat → Nat → Nat} {F : Nat → Int32} {A : Nat → Nat → Int32} {o : Nat → Int64} {x y z w : Int32}
theorem m3_day0g (I : IvD g b) {c : Nat} (hc : c < 6) : k_Met Y3_day0 [.ref 24, .int (nI c)] (hY (up1 g 0 0) b F A o) (.inl none, hY (up1 g 0 0) (day0B (up1 g 0 0) b c) F A o, 0, 0) := m3_day0 (IvM_g0 I.1) I.2 (by omega)
theorem m3_on_unk (I : IvM g b) (h : ¬ inR x 6) : k_Met Y3_on [.ref 24, .int x, .int y] (hY g b F A o) (.inl (some (.int 0)), hY (up1 g 0 1) b F A o, 0, 0) := by
  have g1 := I.2.2.2.2.2.2.2.2.2.2.2.2.1
  refine k_intro (by decide +kernel) rfl rfl rfl ?_
  refine k_go 99 [] T3_on_ok (fun K hK => ?_)
  refine hK _ ?_
  refine k_callS (Y' := Y3_isChannel) (as := [.int x]) (st := [.int (nI 3), .ref 24]) (m3_isChannel) rfl c3_99 rfl rfl d3_on_3 (Nat.le_of_ble_eq_true rfl) (Nat.le_of_ble_eq_true rfl) rfl rfl ?_
  rw [decide_eq_false h]
  refine k_go 99 [] T3_on_ok (fun K hK => ?_)
  refine hK _ ?_
  refine k_callV (Y' := Y3_isSlot) (as := [.int y]) (st := [.int (bB false), .int (nI 3), .ref 24]) (m3_isSlot (by omega)) rfl c3_106 rfl rfl rfl d3_on_8 (Nat.le_of_ble_eq_true rfl) (Nat.le_of_ble_eq_true rfl) rfl rfl ?_
  refine k_go 99 [] T3_on_ok (fun K hK => ?_)
  refine hK _ ?_
  refine k_callV (Y' := Y3_goes) (as := [.int (nI 3), .int (bB false), .int (bB (decide (inR y (g 1)))), .int (bB true), .int (bB true)]) (st := []) (m3_goes (k := 3) (by omega) false (decide (inR y (g 1))) true true) rfl c3_85 rfl rfl rfl d3_on_13 (Nat.le_of_ble_eq_true rfl) (Nat.le_of_ble_eq_true rfl) rfl rfl ?_
  refine k_go 99 [] T3_on_ok (fun K hK => ?_)
  refine q_ne (fun e => absurd e (by simp)) (fun _ => ?_)
  refine hK _ ?_
  exact k_ireturn d3_on_20 rfl rfl rfl rfl (Nat.le_of_ble_eq_true rfl) (Nat.le_of_ble_eq_true rfl)
theorem m3_on_bad (I : IvM g b) (h : inR x 6) (h2 : ¬ inR y (g 1)) : k_Met Y3_on [.ref 24, .int x, .int y] (hY g b F A o) (.inl (some (.int 0)), hY (up1 g 0 2) b F A o, 0, 0) := by
  have g1 := I.2.2.2.2.2.2.2.2.2.2.2.2.1
  refine k_intro (by decide +kernel) rfl rfl rfl ?_
  refine k_go 99 [] T3_on_ok (fun K hK => ?_)
  refine hK _ ?_
  refine k_callS (Y' := Y3_isChannel) (as := [.int x]) (st := [.int (nI 3), .ref 24]) (m3_isChannel) rfl c3_99 rfl rfl d3_on_3 (Nat.le_of_ble_eq_true rfl) (Nat.le_of_ble_eq_true rfl) rfl rfl ?_
  rw [decide_eq_true h]
  refine k_go 99 [] T3_on_ok (fun K hK => ?_)
  refine hK _ ?_
  refine k_callV (Y' := Y3_isSlot) (as := [.int y]) (st := [.int (bB true), .int (nI 3), .ref 24]) (m3_isSlot (by omega)) rfl c3_106 rfl rfl rfl d3_on_8 (Nat.le_of_ble_eq_true rfl) (Nat.le_of_ble_eq_true rfl) rfl rfl ?_
  rw [decide_eq_false h2]
  refine k_go 99 [] T3_on_ok (fun K hK => ?_)
  refine hK _ ?_
  refine k_callV (Y' := Y3_goes) (as := [.int (nI 3), .int (bB true), .int (bB false), .int (bB true), .int (bB true)]) (st := []) (m3_goes (k := 3) (by omega) true false true true) rfl c3_85 rfl rfl rfl d3_on_13 (Nat.le_of_ble_eq_true rfl) (Nat.le_of_ble_eq_true rfl) rfl rfl ?_
  refine k_go 99 [] T3_on_ok (fun K hK => ?_)
  refine q_ne (fun e => absurd e (by decide)) (fun _ => ?_)
  refine hK _ ?_
  exact k_ireturn d3_on_20 rfl rfl rfl rfl (Nat.le_of_ble_eq_true rfl) (Nat.le_of_ble_eq_true rfl)
theorem m3_on_ok (I : IvD g b) {c s : Nat} (hc : c < 6) (hs : s < g 1) : k_Met Y3_on [.ref 24, .int (nI c), .int (nI s)] (hY g b F A o) (.inl (some (.int (nI ((day0B (up1 g 0 0) b (b 0 c)) 15 s)))), hY (up1 g 0 0) (day0B (up1 g 0 0) b (b 0 c)) F A o, 0, 0) := by
  have md := m3_day0g (F := F) (A := A) (o := o) I (I.1.1 c)
  obtain ⟨I, h18⟩ := I
  have g1 := I.2.2.2.2.2.2.2.2.2.2.2.2.1
  generalize day0B (up1 g 0 0) b (b 0 c) = b2 at md ⊢
  refine k_intro (by decide +kernel) rfl rfl rfl ?_
  refine k_go 99 [] T3_on_ok (fun K hK => ?_)
  refine hK _ ?_
  refine k_callS (Y' := Y3_isChannel) (as := [.int (nI c)]) (st := [.int (nI 3), .ref 24]) (m3_isChannel) rfl c3_99 rfl rfl d3_on_3 (Nat.le_of_ble_eq_true rfl) (Nat.le_of_ble_eq_true rfl) rfl rfl ?_
  rw [decide_eq_true (inR_nI hc (by omega))]
  refine k_go 99 [] T3_on_ok (fun K hK => ?_)
  refine hK _ ?_
  refine k_callV (Y' := Y3_isSlot) (as := [.int (nI s)]) (st := [.int (bB true), .int (nI 3), .ref 24]) (m3_isSlot (by omega)) rfl c3_106 rfl rfl rfl d3_on_8 (Nat.le_of_ble_eq_true rfl) (Nat.le_of_ble_eq_true rfl) rfl rfl ?_
  rw [decide_eq_true (inR_nI hs (by omega))]
  refine k_go 99 [] T3_on_ok (fun K hK => ?_)
  refine hK _ ?_
  refine k_callV (Y' := Y3_goes) (as := [.int (nI 3), .int (bB true), .int (bB true), .int (bB true), .int (bB true)]) (st := []) (m3_goes (k := 3) (by omega) true true true true) rfl c3_85 rfl rfl rfl d3_on_13 (Nat.le_of_ble_eq_true rfl) (Nat.le_of_ble_eq_true rfl) rfl rfl ?_
  refine k_go 99 [] T3_on_ok (fun K hK => ?_)
  refine q_ne (fun _ => ?_) (fun e => absurd e (by decide))
  refine k_at (j := c) hc ?_
  refine hK _ ?_
  refine k_callV (Y' := Y3_day0) (as := [.int (nI (b 0 c))]) (st := []) (md) rfl c3_140 rfl rfl rfl d3_on_28 (Nat.le_of_ble_eq_true rfl) (Nat.le_of_ble_eq_true rfl) rfl rfl ?_
  refine k_go 99 [] T3_on_ok (fun K hK => ?_)
  refine k_at (j := s) (by omega) ?_
  refine hK _ ?_
  exact k_ireturn d3_on_37 rfl rfl rfl rfl (Nat.le_of_ble_eq_true rfl) (Nat.le_of_ble_eq_true rfl)
theorem m3_ended_unk (I : IvM g b) (h : ¬ inR x (g 5)) : k_Met Y3_ended [.ref 24, .int x] (hY g b F A o) (.inl (some (.int 0)), hY (up1 g 0 1) b F A o, 0, 0) := by
  have g5 := I.2.2.2.2.2.2.2.2.2.2.2.2.2.2.2.2
  refine k_intro (by decide +kernel) rfl rfl rfl ?_
  refine k_go 99 [] T3_ended_ok (fun K hK => ?_)
  refine hK _ ?_
  refine k_callV (Y' := Y3_isMessage) (as := [.int x]) (st := [.int (nI 1), .ref 24]) (m3_isMessage (by omega)) rfl c3_116 rfl rfl rfl d3_ended_4 (Nat.le_of_ble_eq_true rfl) (Nat.le_of_ble_eq_true rfl) rfl rfl ?_
  rw [decide_eq_false h]
  refine k_go 99 [] T3_ended_ok (fun K hK => ?_)
  refine hK _ ?_
  refine k_callV (Y' := Y3_goes) (as := [.int (nI 1), .int (bB false), .int (bB true), .int (bB true), .int (bB true)]) (st := []) (m3_goes (k := 1) (by omega) false true true true) rfl c3_85 rfl rfl rfl d3_ended_10 (Nat.le_of_ble_eq_true rfl) (Nat.le_of_ble_eq_true rfl) rfl rfl ?_
  refine k_go 99 [] T3_ended_ok (fun K hK => ?_)
  refine q_ne (fun e => absurd e (by decide)) (fun _ => ?_)
  refine hK _ ?_
  exact k_ireturn d3_ended_17 rfl rfl rfl rfl (Nat.le_of_ble_eq_true rfl) (Nat.le_of_ble_eq_true rfl)
theorem m3_ended_ok (I : IvD g b) {q : Nat} (hq : q < g 5) : k_Met Y3_ended [.ref 24, .int (nI q)] (hY g b F A o) (.inl (some (.int (nI ((day0B (up1 g 0 0) b (b 0 (b 13 q))) 17 q)))), hY (up1 g 0 0) (day0B (up1 g 0 0) b (b 0 (b 13 q))) F A o, 0, 0) := by
  have md := m3_day0g (F := F) (A := A) (o := o) I (I.1.1 (b 13 q))
  obtain ⟨I, h18⟩ := I
  have g5 := I.2.2.2.2.2.2.2.2.2.2.2.2.2.2.2.2
  have h13 := I.2.2.2.2.2.2.2.1 q
  generalize day0B (up1 g 0 0) b (b 0 (b 13 q)) = b2 at md ⊢
  refine k_intro (by decide +kernel) rfl rfl rfl ?_
  refine k_go 99 [] T3_ended_ok (fun K hK => ?_)
  refine hK _ ?_
  refine k_callV (Y' := Y3_isMessage) (as := [.int (nI q)]) (st := [.int (nI 1), .ref 24]) (m3_isMessage (by omega)) rfl c3_116 rfl rfl rfl d3_ended_4 (Nat.le_of_ble_eq_true rfl) (Nat.le_of_ble_eq_true rfl) rfl rfl ?_
  rw [decide_eq_true (inR_nI hq (by omega))]
  refine k_go 99 [] T3_ended_ok (fun K hK => ?_)
  refine hK _ ?_
  refine k_callV (Y' := Y3_goes) (as := [.int (nI 1), .int (bB true), .int (bB true), .int (bB true), .int (bB true)]) (st := []) (m3_goes (k := 1) (by omega) true true true true) rfl c3_85 rfl rfl rfl d3_ended_10 (Nat.le_of_ble_eq_true rfl) (Nat.le_of_ble_eq_true rfl) rfl rfl ?_
  refine k_go 99 [] T3_ended_ok (fun K hK => ?_)
  refine q_ne (fun _ => ?_) (fun e => absurd e (by decide))
  refine k_at (j := q) (by omega) ?_
  refine k_at (j := b 13 q) h13 ?_
  refine hK _ ?_
  refine k_callV (Y' := Y3_day0) (as := [.int (nI (b 0 (b 13 q)))]) (st := []) (md) rfl c3_140 rfl rfl rfl d3_ended_30 (Nat.le_of_ble_eq_true rfl) (Nat.le_of_ble_eq_true rfl) rfl rfl ?_
  refine k_go 99 [] T3_ended_ok (fun K hK => ?_)
  refine k_at (j := q) (by omega) ?_
  refine hK _ ?_
  exact k_ireturn d3_ended_39 rfl rfl rfl rfl (Nat.le_of_ble_eq_true rfl) (Nat.le_of_ble_eq_true rfl)
theorem m3_length_unk (I : IvM g b) (h : ¬ inR x (g 5)) : k_Met Y3_length [.ref 24, .int x] (hY g b F A o) (.inl (some (.int 0)), hY (up1 g 0 1) b F A o, 0, 0) := by
  have g5 := I.2.2.2.2.2.2.2.2.2.2.2.2.2.2.2.2
  refine k_intro (by decide +kernel) rfl rfl rfl ?_
  refine k_go 99 [] T3_length_ok (fun K hK => ?_)
  refine hK _ ?_
  refine k_callV (Y' := Y3_isMessage) (as := [.int x]) (st := [.int (nI 1), .ref 24]) (m3_isMessage (by omega)) rfl c3_116 rfl rfl rfl d3_length_4 (Nat.le_of_ble_eq_true rfl) (Nat.le_of_ble_eq_true rfl) rfl rfl ?_
  rw [decide_eq_false h]
  refine k_go 99 [] T3_length_ok (fun K hK => ?_)
  refine hK _ ?_
  refine k_callV (Y' := Y3_goes) (as := [.int (nI 1), .int (bB false), .int (bB true), .int (bB true), .int (bB true)]) (st := []) (m3_goes (k := 1) (by omega) false true true true) rfl c3_85 rfl rfl rfl d3_length_10 (Nat.le_of_ble_eq_true rfl) (Nat.le_of_ble_eq_true rfl) rfl rfl ?_
  refine k_go 99 [] T3_length_ok (fun K hK => ?_)
  refine q_ne (fun e => absurd e (by decide)) (fun _ => ?_)
  refine hK _ ?_
  exact k_ireturn d3_length_17 rfl rfl rfl rfl (Nat.le_of_ble_eq_true rfl) (Nat.le_of_ble_eq_true rfl)
theorem m3_length_ok (I : IvD g b) {q : Nat} (hq : q < g 5) : k_Met Y3_length [.ref 24, .int (nI q)] (hY g b F A o) (.inl (some (.int (nI ((day0B (up1 g 0 0) b (b 0 (b 13 q))) 18 q)))), hY (up1 g 0 0) (day0B (up1 g 0 0) b (b 0 (b 13 q))) F A o, 0, 0) := by
  have md := m3_day0g (F := F) (A := A) (o := o) I (I.1.1 (b 13 q))
  obtain ⟨I, h18⟩ := I
  have g5 := I.2.2.2.2.2.2.2.2.2.2.2.2.2.2.2.2
  have h13 := I.2.2.2.2.2.2.2.1 q
  generalize day0B (up1 g 0 0) b (b 0 (b 13 q)) = b2 at md ⊢
  refine k_intro (by decide +kernel) rfl rfl rfl ?_
  refine k_go 99 [] T3_length_ok (fun K hK => ?_)
  refine hK _ ?_
  refine k_callV (Y' := Y3_isMessage) (as := [.int (nI q)]) (st := [.int (nI 1), .ref 24]) (m3_isMessage (by omega)) rfl c3_116 rfl rfl rfl d3_length_4 (Nat.le_of_ble_eq_true rfl) (Nat.le_of_ble_eq_true rfl) rfl rfl ?_
  rw [decide_eq_true (inR_nI hq (by omega))]
  refine k_go 99 [] T3_length_ok (fun K hK => ?_)
  refine hK _ ?_
  refine k_callV (Y' := Y3_goes) (as := [.int (nI 1), .int (bB true), .int (bB true), .int (bB true), .int (bB true)]) (st := []) (m3_goes (k := 1) (by omega) true true true true) rfl c3_85 rfl rfl rfl d3_length_10 (Nat.le_of_ble_eq_true rfl) (Nat.le_of_ble_eq_true rfl) rfl rfl ?_
  refine k_go 99 [] T3_length_ok (fun K hK => ?_)
  refine q_ne (fun _ => ?_) (fun e => absurd e (by decide))
  refine k_at (j := q) (by omega) ?_
  refine k_at (j := b 13 q) h13 ?_
  refine hK _ ?_
  refine k_callV (Y' := Y3_day0) (as := [.int (nI (b 0 (b 13 q)))]) (st := []) (md) rfl c3_140 rfl rfl rfl d3_length_30 (Nat.le_of_ble_eq_true rfl) (Nat.le_of_ble_eq_true rfl) rfl rfl ?_
  refine k_go 99 [] T3_length_ok (fun K hK => ?_)
  refine k_at (j := q) (by omega) ?_
  refine hK _ ?_
  exact k_ireturn d3_length_39 rfl rfl rfl rfl (Nat.le_of_ble_eq_true rfl) (Nat.le_of_ble_eq_true rfl)
def cnB (P : Nat → Bool) : Nat → Nat → Nat → Nat
  | 0, _, t => t
  | n + 1, i, t => cnB P n (i + 1) (if P i = true then t + 1 else t)
theorem m3_used_unk (I : IvM g b) (h : ¬ inR x 6) : k_Met Y3_used [.ref 24, .int x, .int y, .int z] (hY g b F A o) (.inl (some (.int 0)), hY (up1 g 0 1) b F A o, 0, 0) := by
  have g1 := I.2.2.2.2.2.2.2.2.2.2.2.2.1
  have tail : k_W Y3_used none (.inl (some (.int 0)), hY (up1 g 0 1) b F A o, 0, 0) (35, [(0, .ref 24), (1, .int x), (2, .int y), (3, .int z)], [.int (bB false), .int (bB false), .int (nI 3), .ref 24], hY g b F A o, 0, 0) := by
    refine k_go 99 [] T3_used_ok (fun K hK => ?_)
    refine hK _ ?_
    refine k_callV (Y' := Y3_goes) (as := [.int (nI 3), .int (bB false), .int (bB false), .int (bB true), .int (bB true)]) (st := []) (m3_goes (k := 3) (by omega) false false true true) rfl c3_85 rfl rfl rfl d3_used_37 (Nat.le_of_ble_eq_true rfl) (Nat.le_of_ble_eq_true rfl) rfl rfl ?_
    refine k_go 99 [] T3_used_ok (fun K hK => ?_)
    refine q_ne (fun e => absurd e (by decide)) (fun _ => ?_)
    refine hK _ ?_
    exact k_ireturn d3_used_44 rfl rfl rfl rfl (Nat.le_of_ble_eq_true rfl) (Nat.le_of_ble_eq_true rfl)
  have tail2 : k_W Y3_used none (.inl (some (.int 0)), hY (up1 g 0 1) b F A o, 0, 0) (35, [(0, .ref 24), (1, .int x), (2, .int y), (3, .int z)], [.int (bB true), .int (bB false), .int (nI 3), .ref 24], hY g b F A o, 0, 0) := by
    refine k_go 99 [] T3_used_ok (fun K hK => ?_)
    refine hK _ ?_
    refine k_callV (Y' := Y3_goes) (as := [.int (nI 3), .int (bB false), .int (bB true), .int (bB true), .int (bB true)]) (st := []) (m3_goes (k := 3) (by omega) false true true true) rfl c3_85 rfl rfl rfl d3_used_37 (Nat.le_of_ble_eq_true rfl) (Nat.le_of_ble_eq_true rfl) rfl rfl ?_
    refine k_go 99 [] T3_used_ok (fun K hK => ?_)
    refine q_ne (fun e => absurd e (by decide)) (fun _ => ?_)
    refine hK _ ?_
    exact k_ireturn d3_used_44 rfl rfl rfl rfl (Nat.le_of_ble_eq_true rfl) (Nat.le_of_ble_eq_true rfl)
  refine k_intro (by decide +kernel) rfl rfl rfl ?_
  refine k_go 99 [35] T3_used_ok (fun K hK => ?_)
  refine hK _ ?_
  refine k_callS (Y' := Y3_isChannel) (as := [.int x]) (st := [.int (nI 3), .ref 24]) (m3_isChannel) rfl c3_99 rfl rfl d3_used_3 (Nat.le_of_ble_eq_true rfl) (Nat.le_of_ble_eq_true rfl) rfl rfl ?_
  rw [decide_eq_false h]
  refine k_go 99 [35] T3_used_ok (fun K hK => ?_)
  refine hK _ ?_
  refine k_callS (Y' := Y3_in) (as := [.int y, .int (nI 0), .int (nI (g 1))]) (st := [.int (bB false), .int (nI 3), .ref 24]) (m3_inR (n := g 1) (by omega)) rfl c3_72 rfl rfl d3_used_12 (Nat.le_of_ble_eq_true rfl) (Nat.le_of_ble_eq_true rfl) rfl rfl ?_
  refine k_go 99 [35] T3_used_ok (fun K hK => ?_)
  refine q_eq (fun _ => hK _ tail) (fun h1 => ?_)
  refine hK _ ?_
  refine k_callS (Y' := Y3_in) (as := [.int z, .int y, .int (nI (g 1))]) (st := [.int (bB false), .int (nI 3), .ref 24]) (m3_in) rfl c3_72 rfl rfl d3_used_24 (Nat.le_of_ble_eq_true rfl) (Nat.le_of_ble_eq_true rfl) rfl rfl ?_
  refine k_go 99 [35] T3_used_ok (fun K hK => ?_)
  refine q_eq (fun _ => hK _ tail) (fun _ => hK _ tail2)
theorem m3_used_bad (I : IvM g b) (h : inR x 6) (h2 : y < 0 ∨ nI (g 1) < z ∨ z < y) : k_Met Y3_used [.ref 24, .int x, .int y, .int z] (hY g b F A o) (.inl (some (.int 0)), hY (up1 g 0 2) b F A o, 0, 0) := by
  have g1 := I.2.2.2.2.2.2.2.2.2.2.2.2.1
  have tail : k_W Y3_used none (.inl (some (.int 0)), hY (up1 g 0 2) b F A o, 0, 0) (35, [(0, .ref 24), (1, .int x), (2, .int y), (3, .int z)], [.int (bB false), .int (bB true), .int (nI 3), .ref 24], hY g b F A o, 0, 0) := by
    refine k_go 99 [] T3_used_ok (fun K hK => ?_)
    refine hK _ ?_
    refine k_callV (Y' := Y3_goes) (as := [.int (nI 3), .int (bB true), .int (bB false), .int (bB true), .int (bB true)]) (st := []) (m3_goes (k := 3) (by omega) true false true true) rfl c3_85 rfl rfl rfl d3_used_37 (Nat.le_of_ble_eq_true rfl) (Nat.le_of_ble_eq_true rfl) rfl rfl ?_
    refine k_go 99 [] T3_used_ok (fun K hK => ?_)
    refine q_ne (fun e => absurd e (by decide)) (fun _ => ?_)
    refine hK _ ?_
    exact k_ireturn d3_used_44 rfl rfl rfl rfl (Nat.le_of_ble_eq_true rfl) (Nat.le_of_ble_eq_true rfl)
  refine k_intro (by decide +kernel) rfl rfl rfl ?_
  refine k_go 99 [35] T3_used_ok (fun K hK => ?_)
  refine hK _ ?_
  refine k_callS (Y' := Y3_isChannel) (as := [.int x]) (st := [.int (nI 3), .ref 24]) (m3_isChannel) rfl c3_99 rfl rfl d3_used_3 (Nat.le_of_ble_eq_true rfl) (Nat.le_of_ble_eq_true rfl) rfl rfl ?_
  rw [decide_eq_true h]
  refine k_go 99 [35] T3_used_ok (fun K hK => ?_)
  refine hK _ ?_
  refine k_callS (Y' := Y3_in) (as := [.int y, .int (nI 0), .int (nI (g 1))]) (st := [.int (bB true), .int (nI 3), .ref 24]) (m3_inR (n := g 1) (by omega)) rfl c3_72 rfl rfl d3_used_12 (Nat.le_of_ble_eq_true rfl) (Nat.le_of_ble_eq_true rfl) rfl rfl ?_
  refine k_go 99 [35] T3_used_ok (fun K hK => ?_)
  refine q_eq (fun _ => hK _ tail) (fun h1 => ?_)
  refine hK _ ?_
  refine k_callS (Y' := Y3_in) (as := [.int z, .int y, .int (nI (g 1))]) (st := [.int (bB true), .int (nI 3), .ref 24]) (m3_in) rfl c3_72 rfl rfl d3_used_24 (Nat.le_of_ble_eq_true rfl) (Nat.le_of_ble_eq_true rfl) rfl rfl ?_
  refine k_go 99 [35] T3_used_ok (fun K hK => ?_)
  refine q_eq (fun _ => hK _ tail) (fun h3 => ?_)
  exfalso
  have h1 := of_decide_eq_true h1
  have h3 := of_decide_eq_true h3
  rcases h2 with h2 | h2 | h2
  · exact h1.1 h2
  · exact h3.2 h2
  · exact h3.1 h2
theorem m3_used_loop (I : IvM g b) {c p q : Nat} (hq : q ≤ g 1) : ∀ (n i t : Nat), q - i = n → i ≤ q → t ≤ i → ∀ (r : Nat), r = cnB (fun s => decide (b 15 s ≠ NONE)) n i t →
    k_W Y3_used none (.inl (some (.int (nI r))), hY g b F A o, 0, 0) (61, [(5, .int (nI i)), (4, .int (nI t)), (0, .ref 24), (1, .int (nI c)), (2, .int (nI p)), (3, .int (nI q))], [], hY g b F A o, 0, 0) := by
  have g1 := I.2.2.2.2.2.2.2.2.2.2.2.2.1
  intro n
  induction n with
  | zero =>
    intro i t hn hi ht r hr
    refine k_go 99 [61] T3_used_ok (fun K hK => ?_)
    refine b_ge (a := i) (b := q) (by omega) (by omega) (fun h => ?_) (fun h => absurd h (by omega))
    refine hK _ ?_
    exact k_ireturn d3_used_88 rfl rfl (rnN hr) rfl (Nat.le_of_ble_eq_true rfl) (Nat.le_of_ble_eq_true rfl)
  | succ n ih =>
    intro i t hn hi ht r hr
    have hr2 : r = cnB (fun s => decide (b 15 s ≠ NONE)) n (i + 1) (if decide (b 15 i ≠ NONE) = true then t + 1 else t) := hr
    have h15 := I.2.2.2.2.2.2.2.2.2.1 i
    refine k_go 99 [61] T3_used_ok (fun K hK => ?_)
    refine b_ge (a := i) (b := q) (by omega) (by omega) (fun h => absurd h (by omega)) (fun h => ?_)
    refine k_at (j := i) (by omega) ?_
    refine n_lt h15 (fun h1 => ?_) (fun h1 => ?_)
    · rw [if_neg (fun e => absurd h1 (of_decide_eq_true e))] at hr2
      refine k_eq (z := nI (i + 1)) (nI_add i 1) ?_
      refine hK _ ?_
      exact ih (i + 1) t (by omega) (by omega) (by omega) r hr2
    · rw [if_pos (decide_eq_true (n60 h1))] at hr2
      refine k_eq (z := nI (t + 1)) (nI_add t 1) ?_
      refine k_eq (z := nI (i + 1)) (nI_add i 1) ?_
      refine hK _ ?_
      refine k_perm (fun k hk => ?_) (ih (i + 1) (t + 1) (by omega) (by omega) (by omega) r hr2)
      exact hk
def usM (b : Nat → Nat → Nat) (p q : Nat) : Nat := cnB (fun s => decide (b 15 s ≠ NONE)) (q - p) p 0
theorem m3_used_ok (I : IvD g b) {c p q : Nat} (hc : c < 6) (hpq : p ≤ q) (hq : q ≤ g 1) : k_Met Y3_used [.ref 24, .int (nI c), .int (nI p), .int (nI q)] (hY g b F A o) (.inl (some (.int (nI (usM (day0B (up1 g 0 0) b (b 0 c)) p q)))), hY (up1 g 0 0) (day0B (up1 g 0 0) b (b 0 c)) F A o, 0, 0) := by
  have md := m3_day0g (F := F) (A := A) (o := o) I (I.1.1 c)
  have D : IvD (up1 g 0 0) (day0B (up1 g 0 0) b (b 0 c)) := day0_ok (IvD_g0 I)
  obtain ⟨I, h18⟩ := I
  have g1 := I.2.2.2.2.2.2.2.2.2.2.2.2.1
  generalize day0B (up1 g 0 0) b (b 0 c) = b2 at md D ⊢
  have e1 : inR (nI p) (g 1 + 1) := inR_nI (by omega) (by omega)
  have e2 : ¬ nI q < nI p ∧ ¬ nI (g 1) < nI q := ⟨fun e => by have := (nI_ltI (by omega) (by omega)).mp e; omega, fun e => by have := (nI_ltI (by omega) (by omega)).mp e; omega⟩
  have loop := m3_used_loop (F := F) (A := A) (o := o) (c := c) (p := p) (q := q) D.1 hq (q - p) p 0 rfl hpq (Nat.zero_le _) _ rfl
  have loop : k_W Y3_used none (.inl (some (.int (nI (usM b2 p q)))), hY (up1 g 0 0) b2 F A o, 0, 0) (61, [(5, .int (nI p)), (4, .int (nI 0)), (0, .ref 24), (1, .int (nI c)), (2, .int (nI p)), (3, .int (nI q))], [], hY (up1 g 0 0) b2 F A o, 0, 0) := loop
  generalize usM b2 p q = r at loop ⊢
  refine k_intro (by decide +kernel) rfl rfl rfl ?_
  refine k_go 99 [35] T3_used_ok (fun K hK => ?_)
  refine hK _ ?_
  refine k_callS (Y' := Y3_isChannel) (as := [.int (nI c)]) (st := [.int (nI 3), .ref 24]) (m3_isChannel) rfl c3_99 rfl rfl d3_used_3 (Nat.le_of_ble_eq_true rfl) (Nat.le_of_ble_eq_true rfl) rfl rfl ?_
  rw [decide_eq_true (inR_nI hc (by omega))]
  refine k_go 99 [35] T3_used_ok (fun K hK => ?_)
  refine hK _ ?_
  refine k_callS (Y' := Y3_in) (as := [.int (nI p), .int (nI 0), .int (nI (g 1))]) (st := [.int (bB true), .int (nI 3), .ref 24]) (m3_inR (n := g 1) (by omega)) rfl c3_72 rfl rfl d3_used_12 (Nat.le_of_ble_eq_true rfl) (Nat.le_of_ble_eq_true rfl) rfl rfl ?_
  rw [decide_eq_true e1]
  refine k_go 99 [35] T3_used_ok (fun K hK => ?_)
  refine q_eq (fun e => absurd e (by decide)) (fun _ => ?_)
  refine hK _ ?_
  refine k_callS (Y' := Y3_in) (as := [.int (nI q), .int (nI p), .int (nI (g 1))]) (st := [.int (bB true), .int (nI 3), .ref 24]) (m3_in) rfl c3_72 rfl rfl d3_used_24 (Nat.le_of_ble_eq_true rfl) (Nat.le_of_ble_eq_true rfl) rfl rfl ?_
  rw [decide_eq_true e2]
  refine k_go 99 [35] T3_used_ok (fun K hK => ?_)
  refine q_eq (fun e => absurd e (by decide)) (fun _ => ?_)
  refine hK _ ?_
  refine k_go 99 [61] T3_used_ok (fun K hK => ?_)
  refine hK _ ?_
  refine k_callV (Y' := Y3_goes) (as := [.int (nI 3), .int (bB true), .int (bB true), .int (bB true), .int (bB true)]) (st := []) (m3_goes (k := 3) (by omega) true true true true) rfl c3_85 rfl rfl rfl d3_used_37 (Nat.le_of_ble_eq_true rfl) (Nat.le_of_ble_eq_true rfl) rfl rfl ?_
  refine k_go 99 [61] T3_used_ok (fun K hK => ?_)
  refine q_ne (fun _ => ?_) (fun e => absurd e (by decide))
  refine k_at (j := c) hc ?_
  refine hK _ ?_
  refine k_callV (Y' := Y3_day0) (as := [.int (nI (b 0 c))]) (st := []) (md) rfl c3_140 rfl rfl rfl d3_used_52 (Nat.le_of_ble_eq_true rfl) (Nat.le_of_ble_eq_true rfl) rfl rfl ?_
  refine k_go 99 [61] T3_used_ok (fun K hK => ?_)
  refine hK _ ?_
  exact loop
end MI
end
section
/-- the reference's search for the i-th unit that missed a message -/
def uhR (g : Nat → Nat) (m : Nat) : Nat → Nat → Nat → (Nat → Nat → Nat) → Nat × (Nat → Nat → Nat)
  | 0, _, _, b => (NONE, b)
  | n + 1, u, l, b => if b 0 (b 4 u) ≠ b 0 (b 13 m) ∨ u = b 9 m then uhR g m n (u + 1) l b
    else if hdB g (day0B g b (b 0 (b 13 m))) u m = true then uhR g m n (u + 1) l (day0B g b (b 0 (b 13 m)))
    else if l = 0 then (u, day0B g b (b 0 (b 13 m))) else uhR g m n (u + 1) (l - 1) (day0B g b (b 0 (b 13 m)))
theorem pk_dec {l : Nat} (h : 0 < l) : nI l + (-1) = nI (l - 1) := by
  obtain ⟨k, rfl⟩ : ∃ k, l = k + 1 := ⟨l - 1, by omega⟩
  rw [show (-1 : Int32) = -(nI 1) from rfl, ← Int32.sub_eq_add_neg]
  exact nI_pred k
section MJ
variable {g : Nat → Nat} {b : Nat → Nat → Nat} {F : Nat → Int32} {A : Nat → Nat → Int32} {o : Nat → Int64} {x y z w : Int32}
theorem m3_unheard_unk (I : IvM g b) (h : ¬ inR x (g 5)) : k_Met Y3_unheard [.ref 24, .int x, .int y] (hY g b F A o) (.inl (some (.int 0)), hY (up1 g 0 1) b F A o, 0, 0) := by
  have g5 := I.2.2.2.2.2.2.2.2.2.2.2.2.2.2.2.2
  refine k_intro (by decide +kernel) rfl rfl rfl ?_
  refine k_go 99 [] T3_unheard_ok (fun K hK => ?_)
  refine hK _ ?_
  refine k_callV (Y' := Y3_isMessage) (as := [.int x]) (st := [.int (nI 3), .ref 24]) (m3_isMessage (by omega)) rfl c3_116 rfl rfl rfl d3_unheard_4 (Nat.le_of_ble_eq_true rfl) (Nat.le_of_ble_eq_true rfl) rfl rfl ?_
  rw [decide_eq_false h]
  refine k_go 99 [] T3_unheard_ok (fun K hK => ?_)
  refine And.intro (fun _ => ?_) (fun _ => ?_)
  · refine hK _ ?_
    refine k_callV (Y' := Y3_goes) (as := [.int (nI 3), .int (bB false), .int (bB false), .int (bB true), .int (bB true)]) (st := []) (m3_goes (k := 3) (by omega) false false true true) rfl c3_85 rfl rfl rfl d3_unheard_18 (Nat.le_of_ble_eq_true rfl) (Nat.le_of_ble_eq_true rfl) rfl rfl ?_
    refine k_go 99 [] T3_unheard_ok (fun K hK => ?_)
    refine q_ne (fun e => absurd e (by decide)) (fun _ => ?_)
    refine hK _ ?_
    exact k_ireturn d3_unheard_25 rfl rfl rfl rfl (Nat.le_of_ble_eq_true rfl) (Nat.le_of_ble_eq_true rfl)
  · refine hK _ ?_
    refine k_callV (Y' := Y3_goes) (as := [.int (nI 3), .int (bB false), .int (bB true), .int (bB true), .int (bB true)]) (st := []) (m3_goes (k := 3) (by omega) false true true true) rfl c3_85 rfl rfl rfl d3_unheard_18 (Nat.le_of_ble_eq_true rfl) (Nat.le_of_ble_eq_true rfl) rfl rfl ?_
    refine k_go 99 [] T3_unheard_ok (fun K hK => ?_)
    refine q_ne (fun e => absurd e (by decide)) (fun _ => ?_)
    refine hK _ ?_
    exact k_ireturn d3_unheard_25 rfl rfl rfl rfl (Nat.le_of_ble_eq_true rfl) (Nat.le_of_ble_eq_true rfl)
theorem m3_unheard_bad (I : IvM g b) (h : inR x (g 5)) (h2 : y < 0) : k_Met Y3_unheard [.ref 24, .int x, .int y] (hY g b F A o) (.inl (some (.int 0)), hY (up1 g 0 2) b F A o, 0, 0) := by
  have g5 := I.2.2.2.2.2.2.2.2.2.2.2.2.2.2.2.2
  refine k_intro (by decide +kernel) rfl rfl rfl ?_
  refine k_go 99 [] T3_unheard_ok (fun K hK => ?_)
  refine hK _ ?_
  refine k_callV (Y' := Y3_isMessage) (as := [.int x]) (st := [.int (nI 3), .ref 24]) (m3_isMessage (by omega)) rfl c3_116 rfl rfl rfl d3_unheard_4 (Nat.le_of_ble_eq_true rfl) (Nat.le_of_ble_eq_true rfl) rfl rfl ?_
  rw [decide_eq_true h]
  refine k_go 99 [] T3_unheard_ok (fun K hK => ?_)
  refine And.intro (fun _ => ?_) (fun q => absurd h2 q)
  refine hK _ ?_
  refine k_callV (Y' := Y3_goes) (as := [.int (nI 3), .int (bB true), .int (bB false), .int (bB true), .int (bB true)]) (st := []) (m3_goes (k := 3) (by omega) true false true true) rfl c3_85 rfl rfl rfl d3_unheard_18 (Nat.le_of_ble_eq_true rfl) (Nat.le_of_ble_eq_true rfl) rfl rfl ?_
  refine k_go 99 [] T3_unheard_ok (fun K hK => ?_)
  refine q_ne (fun e => absurd e (by decide)) (fun _ => ?_)
  refine hK _ ?_
  exact k_ireturn d3_unheard_25 rfl rfl rfl rfl (Nat.le_of_ble_eq_true rfl) (Nat.le_of_ble_eq_true rfl)
theorem m3_unheard_loop {q : Nat} (hq : q < 60) {v : Int32} : ∀ (n u l : Nat) (b : Nat → Nat → Nat), IvD g b → g 3 - u = n → u ≤ g 3 → l < 2 ^ 31 → ∀ (r : Nat × (Nat → Nat → Nat)), r = uhR g q n u l b →
    k_W Y3_unheard none (.inl (some (.int (nI r.1))), hY g r.2 F A o, 0, 0) (31, [(4, .int (nI u)), (3, .int (nI l)), (0, .ref 24), (1, .int (nI q)), (2, .int v)], [], hY g b F A o, 0, 0) := by
  intro n
  induction n with
  | zero =>
    intro u l b D hn hu hl r hr
    have I := D.1
    have g3 := I.2.2.2.2.2.2.2.2.2.2.2.2.2.2.1
    have hr2 : r = (NONE, b) := hr
    rw [hr2]
    refine k_go 99 [31] T3_unheard_ok (fun K hK => ?_)
    refine b_ge (a := u) (b := g 3) (by omega) (by omega) (fun h => ?_) (fun h => absurd h (by omega))
    refine hK _ ?_
    exact k_ireturn d3_unheard_107 rfl rfl (rn1 rfl) rfl (Nat.le_of_ble_eq_true rfl) (Nat.le_of_ble_eq_true rfl)
  | succ n ih =>
    intro u l b D hn hu hl r hr
    have I := D.1
    have g3 := I.2.2.2.2.2.2.2.2.2.2.2.2.2.2.1
    have k4 := I.2.1 u
    have k13 := I.2.2.2.2.2.2.2.1 q
    have k9 := I.2.2.2.1 q
    have k04 := I.1 (b 4 u)
    have k013 := I.1 (b 13 q)
    have hr2 : r = if b 0 (b 4 u) ≠ b 0 (b 13 q) ∨ u = b 9 q then uhR g q n (u + 1) l b
      else if hdB g (day0B g b (b 0 (b 13 q))) u q = true then uhR g q n (u + 1) l (day0B g b (b 0 (b 13 q)))
      else if l = 0 then (u, day0B g b (b 0 (b 13 q))) else uhR g q n (u + 1) (l - 1) (day0B g b (b 0 (b 13 q))) := hr
    have D2 : IvD g (day0B g b (b 0 (b 13 q))) := day0_ok D
    have mh := m3_heardAll (F := F) (A := A) (o := o) D (u := u) (q := q) (by omega) hq
    have next : ∀ b2, IvD g b2 → ∀ l2, l2 < 2 ^ 31 → r = uhR g q n (u + 1) l2 b2 → k_W Y3_unheard none (.inl (some (.int (nI r.1))), hY g r.2 F A o, 0, 0) (100, [(4, .int (nI u)), (3, .int (nI l2)), (0, .ref 24), (1, .int (nI q)), (2, .int v)], [], hY g b2 F A o, 0, 0) := by
      intro b2 D2 l2 hl2 e
      refine k_go 99 [31] T3_unheard_ok (fun K hK => ?_)
      refine k_eq (z := nI (u + 1)) (nI_add u 1) ?_
      refine hK _ ?_
      exact ih (u + 1) l2 b2 D2 (by omega) (by omega) hl2 r e
    clear ih hr
    generalize day0B g b (b 0 (b 13 q)) = b2 at hr2 D2 mh
    have fin : r = (u, b2) → k_W Y3_unheard none (.inl (some (.int (nI r.1))), hY g r.2 F A o, 0, 0) (94, [(4, .int (nI u)), (3, .int (nI l)), (0, .ref 24), (1, .int (nI q)), (2, .int v)], [], hY g b2 F A o, 0, 0) := by
      intro e
      rw [e]
      refine k_go 99 [] T3_unheard_ok (fun K hK => ?_)
      refine hK _ ?_
      exact k_ireturn d3_unheard_96 rfl rfl rfl rfl (Nat.le_of_ble_eq_true rfl) (Nat.le_of_ble_eq_true rfl)
    generalize ((.inl (some (.int (nI r.1))), hY g r.2 F A o, 0, 0) : k_G) = G9 at next fin ⊢
    refine k_go 99 [31, 100, 94] T3_unheard_ok (fun K hK => ?_)
    refine b_ge (a := u) (b := g 3) (by omega) (by omega) (fun h => absurd h (by omega)) (fun h => ?_)
    refine k_at (j := u) (by omega) ?_
    refine k_at (j := b 4 u) k4 ?_
    refine k_at (j := q) hq ?_
    refine k_at (j := b 13 q) k13 ?_
    refine b_ne (a := b 0 (b 4 u)) (b := b 0 (b 13 q)) (by omega) (by omega) (fun h1 => ?_) (fun h1 => ?_)
    · rw [if_pos (Or.inl h1)] at hr2
      exact hK _ (next b D l hl hr2)
    · refine k_at (j := q) hq ?_
      refine b_eq (a := u) (b := b 9 q) (by omega) (by omega) (fun h2 => ?_) (fun h2 => ?_)
      · rw [if_pos (Or.inr h2)] at hr2
        exact hK _ (next b D l hl hr2)
      · rw [if_neg (by rintro (h3 | h3); exact h3 h1; exact h2 h3)] at hr2
        refine hK _ ?_
        refine k_callV (Y' := Y3_heardAll) (as := [.int (nI u), .int (nI q)]) (st := []) (mh) rfl c3_119 rfl rfl rfl d3_unheard_81 (Nat.zero_le _) (Nat.zero_le _) rfl rfl ?_
        refine k_go 99 [31, 100, 94] T3_unheard_ok (fun K hK => ?_)
        refine q_eq (fun h3 => ?_) (fun h3 => ?_)
        · rw [if_neg (by rw [h3]; decide)] at hr2
          refine z_ne (a := l) hl (fun h4 => ?_) (fun h4 => ?_)
          · rw [if_neg (by omega)] at hr2
            refine k_eq (z := nI (l - 1)) (pk_dec h4) ?_
            refine hK _ ?_
            refine k_sub5 (i1 := 4) (i2 := 3) (i3 := 0) (i4 := 1) (i5 := 2) rfl rfl rfl rfl rfl ?_
            exact next b2 D2 (l - 1) (by omega) hr2
          · rw [if_pos h4] at hr2
            refine hK _ ?_
            exact fin hr2
        · rw [if_pos h3] at hr2
          exact hK _ (next b2 D2 l hl hr2)
theorem m3_unheard_ok (I : IvD g b) {q i : Nat} (hq : q < g 5) (hi : i < 2 ^ 31) : k_Met Y3_unheard [.ref 24, .int (nI q), .int (nI i)] (hY g b F A o) (.inl (some (.int (nI (uhR (up1 g 0 0) q (g 3) 0 i b).1))), hY (up1 g 0 0) (uhR (up1 g 0 0) q (g 3) 0 i b).2 F A o, 0, 0) := by
  have D := IvD_g0 (t := 0) I
  obtain ⟨I, h18⟩ := I
  have g5 := I.2.2.2.2.2.2.2.2.2.2.2.2.2.2.2.2
  have loop := m3_unheard_loop (F := F) (A := A) (o := o) (q := q) (by omega) (v := nI i) (g 3) 0 i b D rfl (Nat.zero_le _) hi _ rfl
  generalize uhR (up1 g 0 0) q (g 3) 0 i b = r at loop ⊢
  refine k_intro (by decide +kernel) rfl rfl rfl ?_
  refine k_go 99 [31] T3_unheard_ok (fun K hK => ?_)
  refine hK _ ?_
  refine k_callV (Y' := Y3_isMessage) (as := [.int (nI q)]) (st := [.int (nI 3), .ref 24]) (m3_isMessage (by omega)) rfl c3_116 rfl rfl rfl d3_unheard_4 (Nat.le_of_ble_eq_true rfl) (Nat.le_of_ble_eq_true rfl) rfl rfl ?_
  rw [decide_eq_true (inR_nI hq (by omega))]
  refine k_go 99 [31] T3_unheard_ok (fun K hK => ?_)
  refine z_lt (a := i) hi ?_
  refine hK _ ?_
  refine k_callV (Y' := Y3_goes) (as := [.int (nI 3), .int (bB true), .int (bB true), .int (bB true), .int (bB true)]) (st := []) (m3_goes (k := 3) (by omega) true true true true) rfl c3_85 rfl rfl rfl d3_unheard_18 (Nat.le_of_ble_eq_true rfl) (Nat.le_of_ble_eq_true rfl) rfl rfl ?_
  refine k_go 99 [31] T3_unheard_ok (fun K hK => ?_)
  refine q_ne (fun _ => ?_) (fun e => absurd e (by decide))
  refine hK _ ?_
  exact loop
theorem m3_speak_tail (g5 : g 5 ≤ 60) (kn rg : Bool) {G9 : k_G} (k : ∀ st ro : Bool, st = (!bgB g b x y) → ro = decide (g 5 < 60) → k_W Y3_speak none G9 (73, [(0, .ref 24), (1, .int x), (2, .int y), (3, .int z), (4, .int w)], [.int (bB (kn && rg && st && ro))], hY (up1 g 0 (gth 15 (gbit kn rg st ro))) b F A o, 0, 0)) : k_W Y3_speak none G9 (42, [(0, .ref 24), (1, .int x), (2, .int y), (3, .int z), (4, .int w)], [.int (bB rg), .int (bB kn), .int (nI 15), .ref 24], hY g b F A o, 0, 0) := by
  refine k_go 99 [] T3_speak_ok (fun K hK => ?_)
  refine hK _ ?_
  refine k_callV (Y' := Y3_begins) (as := [.int x, .int y]) (st := [.int (bB rg), .int (bB kn), .int (nI 15), .ref 24]) (m3_begins g5) rfl c3_109 rfl rfl rfl d3_speak_45 (Nat.zero_le _) (Nat.zero_le _) rfl rfl ?_
  refine k_go 99 [] T3_speak_ok (fun K hK => ?_)
  refine q_ne (fun h1 => ?_) (fun h1 => ?_)
  · refine b_ge (a := g 5) (b := 60) (by omega) (by omega) (fun h2 => ?_) (fun h2 => ?_)
    · refine hK _ ?_
      refine k_callV (Y' := Y3_goes) (as := [.int (nI 15), .int (bB kn), .int (bB rg), .int (bB false), .int (bB false)]) (st := []) (m3_goes (k := 15) (by omega) kn rg false false) rfl c3_85 rfl rfl rfl d3_speak_70 (Nat.zero_le _) (Nat.zero_le _) rfl rfl ?_
      exact k false false (by rw [h1]; rfl) (decide_eq_false (by omega)).symm
    · refine hK _ ?_
      refine k_callV (Y' := Y3_goes) (as := [.int (nI 15), .int (bB kn), .int (bB rg), .int (bB false), .int (bB true)]) (st := []) (m3_goes (k := 15) (by omega) kn rg false true) rfl c3_85 rfl rfl rfl d3_speak_70 (Nat.zero_le _) (Nat.zero_le _) rfl rfl ?_
      exact k false true (by rw [h1]; rfl) (decide_eq_true (by omega)).symm
  · refine b_ge (a := g 5) (b := 60) (by omega) (by omega) (fun h2 => ?_) (fun h2 => ?_)
    · refine hK _ ?_
      refine k_callV (Y' := Y3_goes) (as := [.int (nI 15), .int (bB kn), .int (bB rg), .int (bB true), .int (bB false)]) (st := []) (m3_goes (k := 15) (by omega) kn rg true false) rfl c3_85 rfl rfl rfl d3_speak_70 (Nat.zero_le _) (Nat.zero_le _) rfl rfl ?_
      exact k true false (by rw [h1]; rfl) (decide_eq_false (by omega)).symm
    · refine hK _ ?_
      refine k_callV (Y' := Y3_goes) (as := [.int (nI 15), .int (bB kn), .int (bB rg), .int (bB true), .int (bB true)]) (st := []) (m3_goes (k := 15) (by omega) kn rg true true) rfl c3_85 rfl rfl rfl d3_speak_70 (Nat.zero_le _) (Nat.zero_le _) rfl rfl ?_
      exact k true true (by rw [h1]; rfl) (decide_eq_true (by omega)).symm
theorem m3_speak_gen (I : IvM g b) {G9 : k_G} (k : ∀ kn rg st ro : Bool, kn = (decide (inR x (g 3))) → rg = (decide (inR y (g 1)) && decide (inR z 100) && decide (inR w 10)) → st = (!bgB g b x y) → ro = (decide (g 5 < 60)) → k_W Y3_speak none G9 (73, [(0, .ref 24), (1, .int x), (2, .int y), (3, .int z), (4, .int w)], [.int (bB (kn && rg && st && ro))], hY (up1 g 0 (gth 15 (gbit kn rg st ro))) b F A o, 0, 0)) : k_W Y3_speak none G9 (0, [(0, .ref 24), (1, .int x), (2, .int y), (3, .int z), (4, .int w)], [], hY g b F A o, 0, 0) := by
  have g1 := I.2.2.2.2.2.2.2.2.2.2.2.2.1
  have g3 := I.2.2.2.2.2.2.2.2.2.2.2.2.2.2.1
  have g5 := I.2.2.2.2.2.2.2.2.2.2.2.2.2.2.2.2
  have tail : ∀ rg : Bool, rg = (decide (inR y (g 1)) && decide (inR z 100) && decide (inR w 10)) → k_W Y3_speak none G9 (42, [(0, .ref 24), (1, .int x), (2, .int y), (3, .int z), (4, .int w)], [.int (bB rg), .int (bB (decide (inR x (g 3)))), .int (nI 15), .ref 24], hY g b F A o, 0, 0) := fun rg e => m3_speak_tail g5 _ rg (fun st ro e1 e2 => k _ rg st ro rfl e e1 e2)
  refine k_go 99 [42] T3_speak_ok (fun K hK => ?_)
  refine hK _ ?_
  refine k_callV (Y' := Y3_isUnit) (as := [.int x]) (st := [.int (nI 15), .ref 24]) (m3_isUnit (by omega)) rfl c3_103 rfl rfl rfl d3_speak_5 (Nat.zero_le _) (Nat.zero_le _) rfl rfl ?_
  refine k_go 99 [42] T3_speak_ok (fun K hK => ?_)
  refine hK _ ?_
  refine k_callV (Y' := Y3_isSlot) (as := [.int y]) (st := [.int (bB (decide (inR x (g 3)))), .int (nI 15), .ref 24]) (m3_isSlot (by omega)) rfl c3_106 rfl rfl rfl d3_speak_10 (Nat.zero_le _) (Nat.zero_le _) rfl rfl ?_
  refine k_go 99 [42] T3_speak_ok (fun K hK => ?_)
  refine q_eq (fun h1 => hK _ (tail false (by rw [h1]; rfl))) (fun h1 => ?_)
  refine hK _ ?_
  refine k_callS (Y' := Y3_in) (as := [.int z, .int (nI 0), .int (nI 99)]) (st := [.int (bB (decide (inR x (g 3)))), .int (nI 15), .ref 24]) (m3_inR (n := 99) (by omega)) rfl c3_72 rfl rfl d3_speak_20 (Nat.zero_le _) (Nat.zero_le _) rfl rfl ?_
  refine k_go 99 [42] T3_speak_ok (fun K hK => ?_)
  refine q_eq (fun h2 => hK _ (tail false (by rw [h2]; simp))) (fun h2 => ?_)
  refine hK _ ?_
  refine k_callS (Y' := Y3_in) (as := [.int w, .int (nI 0), .int (nI 9)]) (st := [.int (bB (decide (inR x (g 3)))), .int (nI 15), .ref 24]) (m3_inR (n := 9) (by omega)) rfl c3_72 rfl rfl d3_speak_31 (Nat.zero_le _) (Nat.zero_le _) rfl rfl ?_
  refine k_go 99 [42] T3_speak_ok (fun K hK => ?_)
  refine q_eq (fun h3 => hK _ (tail false (by rw [h3]; simp))) (fun h3 => hK _ (tail true (by rw [h1, h2, h3]; rfl)))
theorem m3_speak_no (I : IvM g b) {t : Nat} (h : ((decide (inR x (g 3))) && (decide (inR y (g 1)) && decide (inR z 100) && decide (inR w 10)) && (!bgB g b x y) && (decide (g 5 < 60))) = false) (ht : gth 15 (gbit (decide (inR x (g 3))) (decide (inR y (g 1)) && decide (inR z 100) && decide (inR w 10)) (!bgB g b x y) (decide (g 5 < 60))) = t) : k_Met Y3_speak [.ref 24, .int x, .int y, .int z, .int w] (hY g b F A o) (.inl (some (.int 0)), hY (up1 g 0 t) b F A o, 0, 0) := by
  refine k_intro (by decide +kernel) rfl rfl rfl ?_
  refine m3_speak_gen I (fun kn rg st ro e1 e2 e3 e4 => ?_)
  rw [← e1, ← e2, ← e3, ← e4] at h ht
  rw [h, ht]
  refine k_go 99 [] T3_speak_ok (fun K hK => ?_)
  refine q_ne (fun e => absurd e (by decide)) (fun _ => ?_)
  refine hK _ ?_
  exact k_ireturn d3_speak_77 rfl rfl rfl rfl (Nat.le_of_ble_eq_true rfl) (Nat.le_of_ble_eq_true rfl)
theorem m3_speak_ok (I : IvM g b) {u s n r : Nat} (hu : u < g 3) (hs : s < g 1) (hn : n < 100) (hr : r < 10) (h : bgB g b (nI u) (nI s) = false) (h60 : g 5 < 60) : k_Met Y3_speak [.ref 24, .int (nI u), .int (nI s), .int (nI n), .int (nI r)] (hY g b F A o) (.inl (some (.int (nI (g 5)))), hY (up1 (up1 g 0 0) 5 (g 5 + 1)) (adB g b u s n r) F A o, 0, 0) := by
  have g1 := I.2.2.2.2.2.2.2.2.2.2.2.2.1
  have g3 := I.2.2.2.2.2.2.2.2.2.2.2.2.2.2.1
  refine k_intro (by decide +kernel) rfl rfl rfl ?_
  refine m3_speak_gen I (fun kn rg st ro e1 e2 e3 e4 => ?_)
  rw [decide_eq_true (inR_nI hu (by omega))] at e1
  rw [decide_eq_true (inR_nI hs (by omega)), decide_eq_true (inR_nI hn (by omega)), decide_eq_true (inR_nI hr (by omega))] at e2
  rw [h] at e3
  rw [decide_eq_true h60] at e4
  subst e1 e2 e3 e4
  refine k_go 99 [] T3_speak_ok (fun K hK => ?_)
  refine q_ne (fun _ => ?_) (fun e => absurd e (by decide))
  refine hK _ ?_
  have ma := m3_add (g := up1 g 0 0) (b := b) (F := F) (A := A) (o := o) (u := u) (s := s) (n := n) (r := r) (by omega) h60
  refine k_callV (Y' := Y3_add) (as := [.int (nI u), .int (nI s), .int (nI n), .int (nI r)]) (st := []) (ma) rfl c3_112 rfl rfl rfl d3_speak_84 (Nat.le_of_ble_eq_true rfl) (Nat.le_of_ble_eq_true rfl) rfl rfl ?_
  exact k_ireturn d3_speak_87 rfl rfl rfl rfl (Nat.le_of_ble_eq_true rfl) (Nat.le_of_ble_eq_true rfl)
end MJ
end
section
section MK
variable {g : Nat → Nat} {b : Nat → Nat → Nat} {F : Nat → Int32} {A : Nat → Nat → Int32} {o : Nat → Int64} {x y z w : Int32}
theorem m3_relay_front (I : IvM g b) {G9 : k_G} (k : ∀ kn rg : Bool, kn = (decide (inR x (g 3)) && decide (inR y (g 5))) → rg = (decide (inR z (g 1)) && decide (inR w 10)) → k_W Y3_relay none G9 (49, [(6, .int (bB rg)), (5, .int (bB kn)), (0, .ref 24), (1, .int x), (2, .int y), (3, .int z), (4, .int w)], [], hY g b F A o, 0, 0)) : k_W Y3_relay none G9 (0, [(0, .ref 24), (1, .int x), (2, .int y), (3, .int z), (4, .int w)], [], hY g b F A o, 0, 0) := by
  have g1 := I.2.2.2.2.2.2.2.2.2.2.2.2.1
  have g3 := I.2.2.2.2.2.2.2.2.2.2.2.2.2.2.1
  have g5 := I.2.2.2.2.2.2.2.2.2.2.2.2.2.2.2.2
  have t47 : ∀ kn rg : Bool, kn = (decide (inR x (g 3)) && decide (inR y (g 5))) → rg = (decide (inR z (g 1)) && decide (inR w 10)) → k_W Y3_relay none G9 (47, [(5, .int (bB kn)), (0, .ref 24), (1, .int x), (2, .int y), (3, .int z), (4, .int w)], [.int (bB rg)], hY g b F A o, 0, 0) := by
    intro kn rg e1 e2
    refine k_go 99 [49] T3_relay_ok (fun K hK => ?_)
    exact hK _ (k kn rg e1 e2)
  have t21 : ∀ kn : Bool, kn = (decide (inR x (g 3)) && decide (inR y (g 5))) → k_W Y3_relay none G9 (21, [(0, .ref 24), (1, .int x), (2, .int y), (3, .int z), (4, .int w)], [.int (bB kn)], hY g b F A o, 0, 0) := by
    intro kn e1
    refine k_go 99 [47] T3_relay_ok (fun K hK => ?_)
    refine hK _ ?_
    refine k_callV (Y' := Y3_isSlot) (as := [.int z]) (st := []) (m3_isSlot (by omega)) rfl c3_106 rfl rfl rfl d3_relay_25 (Nat.zero_le _) (Nat.zero_le _) rfl rfl ?_
    refine k_go 99 [47] T3_relay_ok (fun K hK => ?_)
    refine q_eq (fun h1 => hK _ (t47 kn false e1 (by rw [h1]; rfl))) (fun h1 => ?_)
    refine hK _ ?_
    refine k_callS (Y' := Y3_in) (as := [.int w, .int (nI 0), .int (nI 9)]) (st := []) (m3_inR (n := 9) (by omega)) rfl c3_72 rfl rfl d3_relay_36 (Nat.zero_le _) (Nat.zero_le _) rfl rfl ?_
    refine k_go 99 [47] T3_relay_ok (fun K hK => ?_)
    refine q_eq (fun h2 => hK _ (t47 kn false e1 (by rw [h2]; simp))) (fun h2 => hK _ (t47 kn true e1 (by rw [h1, h2]; rfl)))
  refine k_go 99 [21] T3_relay_ok (fun K hK => ?_)
  refine hK _ ?_
  refine k_callV (Y' := Y3_isUnit) (as := [.int x]) (st := []) (m3_isUnit (by omega)) rfl c3_103 rfl rfl rfl d3_relay_2 (Nat.zero_le _) (Nat.zero_le _) rfl rfl ?_
  refine k_go 99 [21] T3_relay_ok (fun K hK => ?_)
  refine q_eq (fun h1 => hK _ (t21 false (by rw [h1]; rfl))) (fun h1 => ?_)
  refine hK _ ?_
  refine k_callV (Y' := Y3_isMessage) (as := [.int y]) (st := []) (m3_isMessage (by omega)) rfl c3_116 rfl rfl rfl d3_relay_10 (Nat.zero_le _) (Nat.zero_le _) rfl rfl ?_
  refine k_go 99 [21] T3_relay_ok (fun K hK => ?_)
  refine q_eq (fun h2 => hK _ (t21 false (by rw [h2]; simp))) (fun h2 => hK _ (t21 true (by rw [h1, h2]; rfl)))
theorem m3_relay_back (g5 : g 5 ≤ 60) {G9 : k_G} (kn rg st : Bool) (k : ∀ ro : Bool, ro = decide (g 5 < 60) → k_W Y3_relay none G9 (119, [(7, .int (bB st)), (6, .int (bB rg)), (5, .int (bB kn)), (0, .ref 24), (1, .int x), (2, .int y), (3, .int z), (4, .int w)], [.int (bB (kn && rg && st && ro))], hY (up1 g 0 (gth 15 (gbit kn rg st ro))) b F A o, 0, 0)) : k_W Y3_relay none G9 (91, [(6, .int (bB rg)), (5, .int (bB kn)), (0, .ref 24), (1, .int x), (2, .int y), (3, .int z), (4, .int w)], [.int (bB st)], hY g b F A o, 0, 0) := by
  refine k_go 99 [] T3_relay_ok (fun K hK => ?_)
  refine b_ge (a := g 5) (b := 60) (by omega) (by omega) (fun h2 => ?_) (fun h2 => ?_)
  · refine hK _ ?_
    refine k_callV (Y' := Y3_goes) (as := [.int (nI 15), .int (bB kn), .int (bB rg), .int (bB st), .int (bB false)]) (st := []) (m3_goes (k := 15) (by omega) kn rg st false) rfl c3_85 rfl rfl rfl d3_relay_116 (Nat.zero_le _) (Nat.zero_le _) rfl rfl ?_
    exact k false (decide_eq_false (by omega)).symm
  · refine hK _ ?_
    refine k_callV (Y' := Y3_goes) (as := [.int (nI 15), .int (bB kn), .int (bB rg), .int (bB st), .int (bB true)]) (st := []) (m3_goes (k := 15) (by omega) kn rg st true) rfl c3_85 rfl rfl rfl d3_relay_116 (Nat.zero_le _) (Nat.zero_le _) rfl rfl ?_
    exact k true (decide_eq_true (by omega)).symm
theorem m3_relay_none (g5 : g 5 ≤ 60) {t : Nat} (kn rg st : Bool) (h : ∀ ro : Bool, ro = decide (g 5 < 60) → (kn && rg && st && ro) = false ∧ gth 15 (gbit kn rg st ro) = t) : k_W Y3_relay none (.inl (some (.int 0)), hY (up1 g 0 t) b F A o, 0, 0) (91, [(6, .int (bB rg)), (5, .int (bB kn)), (0, .ref 24), (1, .int x), (2, .int y), (3, .int z), (4, .int w)], [.int (bB st)], hY g b F A o, 0, 0) := by
  refine m3_relay_back g5 kn rg st (fun ro e => ?_)
  obtain ⟨h1, h2⟩ := h ro e
  rw [h1, h2]
  refine k_go 99 [] T3_relay_ok (fun K hK => ?_)
  refine q_ne (fun e => absurd e (by decide)) (fun _ => ?_)
  refine hK _ ?_
  exact k_ireturn d3_relay_123 rfl rfl rfl rfl (Nat.le_of_ble_eq_true rfl) (Nat.le_of_ble_eq_true rfl)
theorem m3_relay_unk (I : IvM g b) (h : ¬ (inR x (g 3) ∧ inR y (g 5))) : k_Met Y3_relay [.ref 24, .int x, .int y, .int z, .int w] (hY g b F A o) (.inl (some (.int 0)), hY (up1 g 0 1) b F A o, 0, 0) := by
  have g5 := I.2.2.2.2.2.2.2.2.2.2.2.2.2.2.2.2
  refine k_intro (by decide +kernel) rfl rfl rfl ?_
  refine m3_relay_front I (fun kn rg e1 e2 => ?_)
  have e3 : kn = false := by rw [e1, ← Bool.decide_and]; exact decide_eq_false h
  subst e3
  have t := m3_relay_none (g := g) (b := b) (F := F) (A := A) (o := o) (x := x) (y := y) (z := z) (w := w) g5 (t := 1) false rg false (fun ro _ => ⟨by simp, rfl⟩)
  refine k_go 99 [91] T3_relay_ok (fun K hK => ?_)
  refine q_eq (fun _ => ?_) (fun e => absurd e (by decide))
  exact hK _ t
theorem m3_relay_bad (I : IvM g b) (h : inR x (g 3) ∧ inR y (g 5)) (h2 : ¬ (inR z (g 1) ∧ inR w 10)) : k_Met Y3_relay [.ref 24, .int x, .int y, .int z, .int w] (hY g b F A o) (.inl (some (.int 0)), hY (up1 g 0 2) b F A o, 0, 0) := by
  have g5 := I.2.2.2.2.2.2.2.2.2.2.2.2.2.2.2.2
  refine k_intro (by decide +kernel) rfl rfl rfl ?_
  refine m3_relay_front I (fun kn rg e1 e2 => ?_)
  have e3 : kn = true := by rw [e1, ← Bool.decide_and]; exact decide_eq_true h
  have e4 : rg = false := by rw [e2, ← Bool.decide_and]; exact decide_eq_false h2
  subst e3 e4
  have t := m3_relay_none (g := g) (b := b) (F := F) (A := A) (o := o) (x := x) (y := y) (z := z) (w := w) g5 (t := 2) true false false (fun ro _ => ⟨by simp, rfl⟩)
  refine k_go 99 [91] T3_relay_ok (fun K hK => ?_)
  refine q_eq (fun e => absurd e (by decide)) (fun _ => ?_)
  refine q_eq (fun _ => ?_) (fun e => absurd e (by decide))
  exact hK _ t
theorem m3_relay_has (I : IvD g b) {u q s r : Nat} (hu : u < g 3) (hq : q < g 5) (hs : s < g 1) (hr : r < 10) (h : bgB g b (nI u) (nI s) = true) : k_Met Y3_relay [.ref 24, .int (nI u), .int (nI q), .int (nI s), .int (nI r)] (hY g b F A o) (.inl (some (.int 0)), hY (up1 g 0 3) b F A o, 0, 0) := by
  have D := I
  obtain ⟨I, h18⟩ := I
  have g1 := I.2.2.2.2.2.2.2.2.2.2.2.2.1
  have g3 := I.2.2.2.2.2.2.2.2.2.2.2.2.2.2.1
  have g5 := I.2.2.2.2.2.2.2.2.2.2.2.2.2.2.2.2
  refine k_intro (by decide +kernel) rfl rfl rfl ?_
  refine m3_relay_front I (fun kn rg e1 e2 => ?_)
  rw [decide_eq_true (inR_nI hu (by omega)), decide_eq_true (inR_nI hq (by omega))] at e1
  rw [decide_eq_true (inR_nI hs (by omega)), decide_eq_true (inR_nI hr (by omega))] at e2
  have e1 : kn = true := e1
  have e2 : rg = true := e2
  subst e1 e2
  have t := m3_relay_none (g := g) (b := b) (F := F) (A := A) (o := o) (x := nI u) (y := nI q) (z := nI s) (w := nI r) g5 (t := 3) true true false (fun ro _ => ⟨rfl, rfl⟩)
  refine k_go 99 [91] T3_relay_ok (fun K hK => ?_)
  refine q_eq (fun e => absurd e (by decide)) (fun _ => ?_)
  refine q_eq (fun e => absurd e (by decide)) (fun _ => ?_)
  refine hK _ ?_
  refine k_callV (Y' := Y3_begins) (as := [.int (nI u), .int (nI s)]) (st := []) (m3_begins g5) rfl c3_109 rfl rfl rfl d3_relay_62 (Nat.le_of_ble_eq_true rfl) (Nat.le_of_ble_eq_true rfl) rfl rfl ?_
  rw [h]
  refine k_go 99 [91] T3_relay_ok (fun K hK => ?_)
  refine q_ne (fun _ => ?_) (fun e => absurd e (by decide))
  exact hK _ t
theorem m3_relay_not (I : IvD g b) {u q s r : Nat} (hu : u < g 3) (hq : q < g 5) (hs : s < g 1) (hr : r < 10) (h : bgB g b (nI u) (nI s) = false) (hh : ¬ ((day0B g b (b 0 (b 13 q))) 17 q = 0 ∧ hdB g (day0B g b (b 0 (b 13 q))) u q = true)) : k_Met Y3_relay [.ref 24, .int (nI u), .int (nI q), .int (nI s), .int (nI r)] (hY g b F A o) (.inl (some (.int 0)), hY (up1 g 0 3) (day0B g b (b 0 (b 13 q))) F A o, 0, 0) := by
  have D0 := I
  have D := I
  obtain ⟨I, h18⟩ := I
  have g1 := I.2.2.2.2.2.2.2.2.2.2.2.2.1
  have g3 := I.2.2.2.2.2.2.2.2.2.2.2.2.2.2.1
  have g5 := I.2.2.2.2.2.2.2.2.2.2.2.2.2.2.2.2
  refine k_intro (by decide +kernel) rfl rfl rfl ?_
  refine m3_relay_front I (fun kn rg e1 e2 => ?_)
  rw [decide_eq_true (inR_nI hu (by omega)), decide_eq_true (inR_nI hq (by omega))] at e1
  rw [decide_eq_true (inR_nI hs (by omega)), decide_eq_true (inR_nI hr (by omega))] at e2
  have e1 : kn = true := e1
  have e2 : rg = true := e2
  subst e1 e2
  have mh := m3_heardAll (F := F) (A := A) (o := o) D (u := u) (q := q) (by omega) (by omega)
  have D2 : IvD g (day0B g b (b 0 (b 13 q))) := day0_ok D
  generalize day0B g b (b 0 (b 13 q)) = b2 at mh D2 hh ⊢
  have k17 := D2.1.2.2.2.2.2.2.2.2.2.2.2.1 q
  have t := m3_relay_none (g := g) (b := b2) (F := F) (A := A) (o := o) (x := nI u) (y := nI q) (z := nI s) (w := nI r) g5 (t := 3) true true false (fun ro _ => ⟨rfl, rfl⟩)
  refine k_go 99 [91] T3_relay_ok (fun K hK => ?_)
  refine q_eq (fun e => absurd e (by decide)) (fun _ => ?_)
  refine q_eq (fun e => absurd e (by decide)) (fun _ => ?_)
  refine hK _ ?_
  refine k_callV (Y' := Y3_begins) (as := [.int (nI u), .int (nI s)]) (st := []) (m3_begins g5) rfl c3_109 rfl rfl rfl d3_relay_62 (Nat.le_of_ble_eq_true rfl) (Nat.le_of_ble_eq_true rfl) rfl rfl ?_
  rw [h]
  refine k_go 99 [91] T3_relay_ok (fun K hK => ?_)
  refine q_ne (fun e => absurd e (by decide)) (fun _ => ?_)
  refine hK _ ?_
  refine k_callV (Y' := Y3_heardAll) (as := [.int (nI u), .int (nI q)]) (st := []) (mh) rfl c3_119 rfl rfl rfl d3_relay_71 (Nat.le_of_ble_eq_true rfl) (Nat.le_of_ble_eq_true rfl) rfl rfl ?_
  refine k_go 99 [91] T3_relay_ok (fun K hK => ?_)
  refine q_eq (fun _ => hK _ t) (fun h1 => ?_)
  refine k_at (j := q) (by omega) ?_
  refine z_ne (a := b2 17 q) (by omega) (fun _ => hK _ t) (fun h2 => absurd ⟨h2, h1⟩ hh)
theorem m3_relay_full (I : IvD g b) {u q s r : Nat} (hu : u < g 3) (hq : q < g 5) (hs : s < g 1) (hr : r < 10) (h : bgB g b (nI u) (nI s) = false) (hh : (day0B g b (b 0 (b 13 q))) 17 q = 0 ∧ hdB g (day0B g b (b 0 (b 13 q))) u q = true) (h60 : 60 ≤ g 5) : k_Met Y3_relay [.ref 24, .int (nI u), .int (nI q), .int (nI s), .int (nI r)] (hY g b F A o) (.inl (some (.int 0)), hY (up1 g 0 4) (day0B g b (b 0 (b 13 q))) F A o, 0, 0) := by
  have D := I
  obtain ⟨I, h18⟩ := I
  have g1 := I.2.2.2.2.2.2.2.2.2.2.2.2.1
  have g3 := I.2.2.2.2.2.2.2.2.2.2.2.2.2.2.1
  have g5 := I.2.2.2.2.2.2.2.2.2.2.2.2.2.2.2.2
  refine k_intro (by decide +kernel) rfl rfl rfl ?_
  refine m3_relay_front I (fun kn rg e1 e2 => ?_)
  rw [decide_eq_true (inR_nI hu (by omega)), decide_eq_true (inR_nI hq (by omega))] at e1
  rw [decide_eq_true (inR_nI hs (by omega)), decide_eq_true (inR_nI hr (by omega))] at e2
  have e1 : kn = true := e1
  have e2 : rg = true := e2
  subst e1 e2
  have mh := m3_heardAll (F := F) (A := A) (o := o) D (u := u) (q := q) (by omega) (by omega)
  have D2 : IvD g (day0B g b (b 0 (b 13 q))) := day0_ok D
  generalize day0B g b (b 0 (b 13 q)) = b2 at mh D2 hh ⊢
  have k17 := D2.1.2.2.2.2.2.2.2.2.2.2.2.1 q
  have t := m3_relay_none (g := g) (b := b2) (F := F) (A := A) (o := o) (x := nI u) (y := nI q) (z := nI s) (w := nI r) g5 (t := 4) true true true (fun ro e => by rw [decide_eq_false (by omega)] at e; subst e; exact ⟨rfl, rfl⟩)
  refine k_go 99 [91] T3_relay_ok (fun K hK => ?_)
  refine q_eq (fun e => absurd e (by decide)) (fun _ => ?_)
  refine q_eq (fun e => absurd e (by decide)) (fun _ => ?_)
  refine hK _ ?_
  refine k_callV (Y' := Y3_begins) (as := [.int (nI u), .int (nI s)]) (st := []) (m3_begins g5) rfl c3_109 rfl rfl rfl d3_relay_62 (Nat.le_of_ble_eq_true rfl) (Nat.le_of_ble_eq_true rfl) rfl rfl ?_
  rw [h]
  refine k_go 99 [91] T3_relay_ok (fun K hK => ?_)
  refine q_ne (fun e => absurd e (by decide)) (fun _ => ?_)
  refine hK _ ?_
  refine k_callV (Y' := Y3_heardAll) (as := [.int (nI u), .int (nI q)]) (st := []) (mh) rfl c3_119 rfl rfl rfl d3_relay_71 (Nat.le_of_ble_eq_true rfl) (Nat.le_of_ble_eq_true rfl) rfl rfl ?_
  rw [hh.2]
  refine k_go 99 [91] T3_relay_ok (fun K hK => ?_)
  refine q_eq (fun e => absurd e (by decide)) (fun _ => ?_)
  refine k_at (j := q) (by omega) ?_
  refine z_ne (a := b2 17 q) (by omega) (fun h2 => absurd hh.1 (by omega)) (fun _ => hK _ t)
theorem m3_relay_ok (I : IvD g b) {u q s r : Nat} (hu : u < g 3) (hq : q < g 5) (hs : s < g 1) (hr : r < 10) (h : bgB g b (nI u) (nI s) = false) (hh : (day0B g b (b 0 (b 13 q))) 17 q = 0 ∧ hdB g (day0B g b (b 0 (b 13 q))) u q = true) (h60 : g 5 < 60) : k_Met Y3_relay [.ref 24, .int (nI u), .int (nI q), .int (nI s), .int (nI r)] (hY g b F A o) (.inl (some (.int (nI (g 5)))), hY (up1 (up1 g 0 0) 5 (g 5 + 1)) (adB g (day0B g b (b 0 (b 13 q))) u s ((day0B g b (b 0 (b 13 q))) 11 q) r) F A o, 0, 0) := by
  have D := I
  obtain ⟨I, h18⟩ := I
  have g1 := I.2.2.2.2.2.2.2.2.2.2.2.2.1
  have g3 := I.2.2.2.2.2.2.2.2.2.2.2.2.2.2.1
  have g5 := I.2.2.2.2.2.2.2.2.2.2.2.2.2.2.2.2
  refine k_intro (by decide +kernel) rfl rfl rfl ?_
  refine m3_relay_front I (fun kn rg e1 e2 => ?_)
  rw [decide_eq_true (inR_nI hu (by omega)), decide_eq_true (inR_nI hq (by omega))] at e1
  rw [decide_eq_true (inR_nI hs (by omega)), decide_eq_true (inR_nI hr (by omega))] at e2
  have e1 : kn = true := e1
  have e2 : rg = true := e2
  subst e1 e2
  have mh := m3_heardAll (F := F) (A := A) (o := o) D (u := u) (q := q) (by omega) (by omega)
  have D2 : IvD g (day0B g b (b 0 (b 13 q))) := day0_ok D
  generalize day0B g b (b 0 (b 13 q)) = b2 at mh D2 hh ⊢
  have k17 := D2.1.2.2.2.2.2.2.2.2.2.2.2.1 q
  have ma := m3_add (g := up1 g 0 0) (b := b2) (F := F) (A := A) (o := o) (u := u) (s := s) (n := b2 11 q) (r := r) (by omega) h60
  have t : k_W Y3_relay none (.inl (some (.int (nI (g 5)))), hY (up1 (up1 g 0 0) 5 (g 5 + 1)) (adB g b2 u s (b2 11 q) r) F A o, 0, 0) (91, [(6, .int (bB true)), (5, .int (bB true)), (0, .ref 24), (1, .int (nI u)), (2, .int (nI q)), (3, .int (nI s)), (4, .int (nI r))], [.int (bB true)], hY g b2 F A o, 0, 0) := by
    refine m3_relay_back g5 true true true (fun ro e => ?_)
    rw [decide_eq_true h60] at e
    subst e
    refine k_go 99 [] T3_relay_ok (fun K hK => ?_)
    refine q_ne (fun _ => ?_) (fun e => absurd e (by decide))
    refine k_at (j := q) (by omega) ?_
    refine hK _ ?_
    refine k_callV (Y' := Y3_add) (as := [.int (nI u), .int (nI s), .int (nI (b2 11 q)), .int (nI r)]) (st := []) (ma) rfl c3_112 rfl rfl rfl d3_relay_135 (Nat.le_of_ble_eq_true rfl) (Nat.le_of_ble_eq_true rfl) rfl rfl ?_
    exact k_ireturn d3_relay_138 rfl rfl rfl rfl (Nat.le_of_ble_eq_true rfl) (Nat.le_of_ble_eq_true rfl)
  refine k_go 99 [91] T3_relay_ok (fun K hK => ?_)
  refine q_eq (fun e => absurd e (by decide)) (fun _ => ?_)
  refine q_eq (fun e => absurd e (by decide)) (fun _ => ?_)
  refine hK _ ?_
  refine k_callV (Y' := Y3_begins) (as := [.int (nI u), .int (nI s)]) (st := []) (m3_begins g5) rfl c3_109 rfl rfl rfl d3_relay_62 (Nat.le_of_ble_eq_true rfl) (Nat.le_of_ble_eq_true rfl) rfl rfl ?_
  rw [h]
  refine k_go 99 [91] T3_relay_ok (fun K hK => ?_)
  refine q_ne (fun e => absurd e (by decide)) (fun _ => ?_)
  refine hK _ ?_
  refine k_callV (Y' := Y3_heardAll) (as := [.int (nI u), .int (nI q)]) (st := []) (mh) rfl c3_119 rfl rfl rfl d3_relay_71 (Nat.le_of_ble_eq_true rfl) (Nat.le_of_ble_eq_true rfl) rfl rfl ?_
  rw [hh.2]
  refine k_go 99 [91] T3_relay_ok (fun K hK => ?_)
  refine q_eq (fun e => absurd e (by decide)) (fun _ => ?_)
  refine k_at (j := q) (by omega) ?_
  refine z_ne (a := b2 17 q) (by omega) (fun h2 => absurd hh.1 (by omega)) (fun _ => hK _ t)
end MK
end
section
abbrev zI (n : Nat) : k_O := .inl (0, n, .inl (fun _ => nI 0))
abbrev zB (n : Nat) : k_O := .inl (1, n, .inl (fun _ => nI 0))
section KN
variable {Y : k_Y} {sc : k_Sc} {G : k_G} {pc : Nat} {ls : List (Nat × Value)} {st : List Value} {h : List k_O} {nc ns : Nat}
theorem k_newI {N : Nat} (hN : Nat.ble N 2000 = true) (d : decode (k_cc Y) pc = .ok (.newarray .int, 2)) (hc : nc + 1 ≤ G.2.2.1) (hs : ns + N ≤ G.2.2.2) (hok : h.all (k_oko h.length) = true) (hl : Nat.blt h.length 1000000 = true) (ho1 : ls.all (fun q => k_okv h.length q.2) = true) (ho2 : st.all (k_okv h.length) = true) (k : k_W Y sc G (pc + 2, ls, .ref h.length :: st, h ++ [zI N], nc + 1, ns + N)) : k_W Y sc G (pc, ls, .int (nI N) :: st, h, nc, ns) := by
  have hN := Nat.le_of_ble_eq_true hN
  refine k_newa (t := 0) (ty := .int) (a0 := (N, .inl (fun _ => nI 0))) rfl (fun _ => rfl) (fun U x y h1 h2 => Option.some.inj (Eq.trans (Eq.symm h1) h2)) (by decide +kernel) (fun cA => ?_) (by omega) ?_ d hc hs hok hl ho1 ho2 k
  · show arrV cA N (fun _ => Value.int (nI 0)) = arrV cA N (fun _ => defaultValue .int)
    rw [nI_0]; rfl
  · show N * 4 ≤ 536870912
    omega
theorem k_newB {N : Nat} (hN : Nat.ble N 2000 = true) (d : decode (k_cc Y) pc = .ok (.newarray .boolean, 2)) (hc : nc + 1 ≤ G.2.2.1) (hs : ns + N ≤ G.2.2.2) (hok : h.all (k_oko h.length) = true) (hl : Nat.blt h.length 1000000 = true) (ho1 : ls.all (fun q => k_okv h.length q.2) = true) (ho2 : st.all (k_okv h.length) = true) (k : k_W Y sc G (pc + 2, ls, .ref h.length :: st, h ++ [zB N], nc + 1, ns + N)) : k_W Y sc G (pc, ls, .int (nI N) :: st, h, nc, ns) := by
  have hN := Nat.le_of_ble_eq_true hN
  refine k_newa (t := 1) (ty := .boolean) (a0 := (N, .inl (fun _ => nI 0))) rfl (fun _ => rfl) (fun U x y h1 h2 => Option.some.inj (Eq.trans (Eq.symm h1) h2)) (by decide +kernel) (fun cA => ?_) (by omega) ?_ d hc hs hok hl ho1 ho2 k
  · show arrV cA N (fun _ => Value.int (nI 0)) = arrV cA N (fun _ => defaultValue .boolean)
    rw [nI_0]; rfl
  · show N * 1 ≤ 536870912
    omega
theorem k_newL {N : Nat} (hN : Nat.ble N 2000 = true) (d : decode (k_cc Y) pc = .ok (.newarray .long, 2)) (hc : nc + 1 ≤ G.2.2.1) (hs : ns + N ≤ G.2.2.2) (hok : h.all (k_oko h.length) = true) (hl : Nat.blt h.length 1000000 = true) (ho1 : ls.all (fun q => k_okv h.length q.2) = true) (ho2 : st.all (k_okv h.length) = true) (k : k_W Y sc G (pc + 2, ls, .ref h.length :: st, h ++ [.inl (2, N, .inr (.inl (fun _ => 0)))], nc + 1, ns + N)) : k_W Y sc G (pc, ls, .int (nI N) :: st, h, nc, ns) := by
  have hN := Nat.le_of_ble_eq_true hN
  refine k_newa (t := 2) (ty := .long) (a0 := (N, .inr (.inl (fun _ => 0)))) rfl (fun _ => rfl) (fun U x y h1 h2 => Option.some.inj (Eq.trans (Eq.symm h1) h2)) (by decide +kernel) (fun cA => rfl) (by omega) ?_ d hc hs hok hl ho1 ho2 k
  show N * 8 ≤ 536870912
  omega
end KN
theorem dp1_init_6 : decode (k_cc Y1_init) 6 = .ok (.putfield 7, 3) := by decide +kernel
theorem dp1_init_13 : decode (k_cc Y1_init) 13 = .ok (.putfield 13, 3) := by decide +kernel
theorem dp1_init_20 : decode (k_cc Y1_init) 20 = .ok (.putfield 17, 3) := by decide +kernel
theorem dp1_init_27 : decode (k_cc Y1_init) 27 = .ok (.putfield 20, 3) := by decide +kernel
theorem dp1_init_34 : decode (k_cc Y1_init) 34 = .ok (.putfield 23, 3) := by decide +kernel
theorem m1_init20 : k_Met Y1_init [.ref 1, .int (nI 20)] ([.inr (2, [.null, .null, .null, .null, .null, .null, .int 0, .int 0]), .inr (1, [.int 0, .null, .null, .null, .null, .int 0])]) (.inl none, [.inr (2, [.null, .null, .null, .null, .null, .null, .int 0, .int 0]), .inr (1, [.int (nI 20), .ref 2, .ref 3, .ref 4, .ref 5, .int 0]), zI 20, zI 20, zI 20, zI 20], 4, 80) := by
  refine k_intro (by decide +kernel) rfl rfl rfl ?_
  refine k_go 99 [1] T1_init_ok (fun K hK => ?_)
  refine hK _ ?_
  refine k_objInit (by decide +kernel) d1_init_1 rfl rfl rfl ?_
  refine k_go 99 [6] T1_init_ok (fun K hK => ?_)
  refine hK _ ?_
  refine k_putF (q := (1, 0)) (z := (RX1, TX1, 6)) (ty := .int) rfl rfl rfl rfl rfl rfl rfl (fun ad => ⟨rfl, rfl⟩) dp1_init_6 rfl rfl (by decide) ?_
  refine k_heq (h' := [.inr (2, [.null, .null, .null, .null, .null, .null, .int 0, .int 0]), .inr (1, [.int (nI 20), .null, .null, .null, .null, .int 0])]) rfl ?_
  refine k_go 99 [11] T1_init_ok (fun K hK => ?_)
  refine hK _ ?_
  refine k_newI (N := 20) rfl d1_init_11 (Nat.le_of_ble_eq_true rfl) (Nat.le_of_ble_eq_true rfl) rfl rfl rfl rfl ?_
  refine k_heq (h' := [.inr (2, [.null, .null, .null, .null, .null, .null, .int 0, .int 0]), .inr (1, [.int (nI 20), .null, .null, .null, .null, .int 0]), zI 20]) rfl ?_
  refine k_putF (q := (1, 1)) (z := (RX1, TX1, 6)) (ty := .array .int) rfl rfl rfl rfl rfl rfl rfl (fun ad => ⟨rfl, rfl⟩) dp1_init_13 rfl rfl (by decide) ?_
  refine k_heq (h' := [.inr (2, [.null, .null, .null, .null, .null, .null, .int 0, .int 0]), .inr (1, [.int (nI 20), .ref 2, .null, .null, .null, .int 0]), zI 20]) rfl ?_
  refine k_go 99 [18] T1_init_ok (fun K hK => ?_)
  refine hK _ ?_
  refine k_newI (N := 20) rfl d1_init_18 (Nat.le_of_ble_eq_true rfl) (Nat.le_of_ble_eq_true rfl) rfl rfl rfl rfl ?_
  refine k_heq (h' := [.inr (2, [.null, .null, .null, .null, .null, .null, .int 0, .int 0]), .inr (1, [.int (nI 20), .ref 2, .null, .null, .null, .int 0]), zI 20, zI 20]) rfl ?_
  refine k_putF (q := (1, 2)) (z := (RX1, TX1, 6)) (ty := .array .int) rfl rfl rfl rfl rfl rfl rfl (fun ad => ⟨rfl, rfl⟩) dp1_init_20 rfl rfl (by decide) ?_
  refine k_heq (h' := [.inr (2, [.null, .null, .null, .null, .null, .null, .int 0, .int 0]), .inr (1, [.int (nI 20), .ref 2, .ref 3, .null, .null, .int 0]), zI 20, zI 20]) rfl ?_
  refine k_go 99 [25] T1_init_ok (fun K hK => ?_)
  refine hK _ ?_
  refine k_newI (N := 20) rfl d1_init_25 (Nat.le_of_ble_eq_true rfl) (Nat.le_of_ble_eq_true rfl) rfl rfl rfl rfl ?_
  refine k_heq (h' := [.inr (2, [.null, .null, .null, .null, .null, .null, .int 0, .int 0]), .inr (1, [.int (nI 20), .ref 2, .ref 3, .null, .null, .int 0]), zI 20, zI 20, zI 20]) rfl ?_
  refine k_putF (q := (1, 3)) (z := (RX1, TX1, 6)) (ty := .array .int) rfl rfl rfl rfl rfl rfl rfl (fun ad => ⟨rfl, rfl⟩) dp1_init_27 rfl rfl (by decide) ?_
  refine k_heq (h' := [.inr (2, [.null, .null, .null, .null, .null, .null, .int 0, .int 0]), .inr (1, [.int (nI 20), .ref 2, .ref 3, .ref 4, .null, .int 0]), zI 20, zI 20, zI 20]) rfl ?_
  refine k_go 99 [32] T1_init_ok (fun K hK => ?_)
  refine hK _ ?_
  refine k_newI (N := 20) rfl d1_init_32 (Nat.le_of_ble_eq_true rfl) (Nat.le_of_ble_eq_true rfl) rfl rfl rfl rfl ?_
  refine k_heq (h' := [.inr (2, [.null, .null, .null, .null, .null, .null, .int 0, .int 0]), .inr (1, [.int (nI 20), .ref 2, .ref 3, .ref 4, .null, .int 0]), zI 20, zI 20, zI 20, zI 20]) rfl ?_
  refine k_putF (q := (1, 4)) (z := (RX1, TX1, 6)) (ty := .array .int) rfl rfl rfl rfl rfl rfl rfl (fun ad => ⟨rfl, rfl⟩) dp1_init_34 rfl rfl (by decide) ?_
  refine k_heq (h' := [.inr (2, [.null, .null, .null, .null, .null, .null, .int 0, .int 0]), .inr (1, [.int (nI 20), .ref 2, .ref 3, .ref 4, .ref 5, .int 0]), zI 20, zI 20, zI 20, zI 20]) rfl ?_
  exact k_return d1_init_37 rfl rfl rfl (Nat.le_of_ble_eq_true rfl) (Nat.le_of_ble_eq_true rfl)
theorem m1_init8 : k_Met Y1_init [.ref 6, .int (nI 8)] ([.inr (2, [.ref 1, .null, .null, .null, .null, .null, .int 0, .int 0]), .inr (1, [.int (nI 20), .ref 2, .ref 3, .ref 4, .ref 5, .int 0]), zI 20, zI 20, zI 20, zI 20, .inr (1, [.int 0, .null, .null, .null, .null, .int 0])]) (.inl none, [.inr (2, [.ref 1, .null, .null, .null, .null, .null, .int 0, .int 0]), .inr (1, [.int (nI 20), .ref 2, .ref 3, .ref 4, .ref 5, .int 0]), zI 20, zI 20, zI 20, zI 20, .inr (1, [.int (nI 8), .ref 7, .ref 8, .ref 9, .ref 10, .int 0]), zI 8, zI 8, zI 8, zI 8], 4, 32) := by
  refine k_intro (by decide +kernel) rfl rfl rfl ?_
  refine k_go 99 [1] T1_init_ok (fun K hK => ?_)
  refine hK _ ?_
  refine k_objInit (by decide +kernel) d1_init_1 rfl rfl rfl ?_
  refine k_go 99 [6] T1_init_ok (fun K hK => ?_)
  refine hK _ ?_
  refine k_putF (q := (1, 0)) (z := (RX1, TX1, 6)) (ty := .int) rfl rfl rfl rfl rfl rfl rfl (fun ad => ⟨rfl, rfl⟩) dp1_init_6 rfl rfl (by decide) ?_
  refine k_heq (h' := [.inr (2, [.ref 1, .null, .null, .null, .null, .null, .int 0, .int 0]), .inr (1, [.int (nI 20), .ref 2, .ref 3, .ref 4, .ref 5, .int 0]), zI 20, zI 20, zI 20, zI 20, .inr (1, [.int (nI 8), .null, .null, .null, .null, .int 0])]) rfl ?_
  refine k_go 99 [11] T1_init_ok (fun K hK => ?_)
  refine hK _ ?_
  refine k_newI (N := 8) rfl d1_init_11 (Nat.le_of_ble_eq_true rfl) (Nat.le_of_ble_eq_true rfl) rfl rfl rfl rfl ?_
  refine k_heq (h' := [.inr (2, [.ref 1, .null, .null, .null, .null, .null, .int 0, .int 0]), .inr (1, [.int (nI 20), .ref 2, .ref 3, .ref 4, .ref 5, .int 0]), zI 20, zI 20, zI 20, zI 20, .inr (1, [.int (nI 8), .null, .null, .null, .null, .int 0]), zI 8]) rfl ?_
  refine k_putF (q := (1, 1)) (z := (RX1, TX1, 6)) (ty := .array .int) rfl rfl rfl rfl rfl rfl rfl (fun ad => ⟨rfl, rfl⟩) dp1_init_13 rfl rfl (by decide) ?_
  refine k_heq (h' := [.inr (2, [.ref 1, .null, .null, .null, .null, .null, .int 0, .int 0]), .inr (1, [.int (nI 20), .ref 2, .ref 3, .ref 4, .ref 5, .int 0]), zI 20, zI 20, zI 20, zI 20, .inr (1, [.int (nI 8), .ref 7, .null, .null, .null, .int 0]), zI 8]) rfl ?_
  refine k_go 99 [18] T1_init_ok (fun K hK => ?_)
  refine hK _ ?_
  refine k_newI (N := 8) rfl d1_init_18 (Nat.le_of_ble_eq_true rfl) (Nat.le_of_ble_eq_true rfl) rfl rfl rfl rfl ?_
  refine k_heq (h' := [.inr (2, [.ref 1, .null, .null, .null, .null, .null, .int 0, .int 0]), .inr (1, [.int (nI 20), .ref 2, .ref 3, .ref 4, .ref 5, .int 0]), zI 20, zI 20, zI 20, zI 20, .inr (1, [.int (nI 8), .ref 7, .null, .null, .null, .int 0]), zI 8, zI 8]) rfl ?_
  refine k_putF (q := (1, 2)) (z := (RX1, TX1, 6)) (ty := .array .int) rfl rfl rfl rfl rfl rfl rfl (fun ad => ⟨rfl, rfl⟩) dp1_init_20 rfl rfl (by decide) ?_
  refine k_heq (h' := [.inr (2, [.ref 1, .null, .null, .null, .null, .null, .int 0, .int 0]), .inr (1, [.int (nI 20), .ref 2, .ref 3, .ref 4, .ref 5, .int 0]), zI 20, zI 20, zI 20, zI 20, .inr (1, [.int (nI 8), .ref 7, .ref 8, .null, .null, .int 0]), zI 8, zI 8]) rfl ?_
  refine k_go 99 [25] T1_init_ok (fun K hK => ?_)
  refine hK _ ?_
  refine k_newI (N := 8) rfl d1_init_25 (Nat.le_of_ble_eq_true rfl) (Nat.le_of_ble_eq_true rfl) rfl rfl rfl rfl ?_
  refine k_heq (h' := [.inr (2, [.ref 1, .null, .null, .null, .null, .null, .int 0, .int 0]), .inr (1, [.int (nI 20), .ref 2, .ref 3, .ref 4, .ref 5, .int 0]), zI 20, zI 20, zI 20, zI 20, .inr (1, [.int (nI 8), .ref 7, .ref 8, .null, .null, .int 0]), zI 8, zI 8, zI 8]) rfl ?_
  refine k_putF (q := (1, 3)) (z := (RX1, TX1, 6)) (ty := .array .int) rfl rfl rfl rfl rfl rfl rfl (fun ad => ⟨rfl, rfl⟩) dp1_init_27 rfl rfl (by decide) ?_
  refine k_heq (h' := [.inr (2, [.ref 1, .null, .null, .null, .null, .null, .int 0, .int 0]), .inr (1, [.int (nI 20), .ref 2, .ref 3, .ref 4, .ref 5, .int 0]), zI 20, zI 20, zI 20, zI 20, .inr (1, [.int (nI 8), .ref 7, .ref 8, .ref 9, .null, .int 0]), zI 8, zI 8, zI 8]) rfl ?_
  refine k_go 99 [32] T1_init_ok (fun K hK => ?_)
  refine hK _ ?_
  refine k_newI (N := 8) rfl d1_init_32 (Nat.le_of_ble_eq_true rfl) (Nat.le_of_ble_eq_true rfl) rfl rfl rfl rfl ?_
  refine k_heq (h' := [.inr (2, [.ref 1, .null, .null, .null, .null, .null, .int 0, .int 0]), .inr (1, [.int (nI 20), .ref 2, .ref 3, .ref 4, .ref 5, .int 0]), zI 20, zI 20, zI 20, zI 20, .inr (1, [.int (nI 8), .ref 7, .ref 8, .ref 9, .null, .int 0]), zI 8, zI 8, zI 8, zI 8]) rfl ?_
  refine k_putF (q := (1, 4)) (z := (RX1, TX1, 6)) (ty := .array .int) rfl rfl rfl rfl rfl rfl rfl (fun ad => ⟨rfl, rfl⟩) dp1_init_34 rfl rfl (by decide) ?_
  refine k_heq (h' := [.inr (2, [.ref 1, .null, .null, .null, .null, .null, .int 0, .int 0]), .inr (1, [.int (nI 20), .ref 2, .ref 3, .ref 4, .ref 5, .int 0]), zI 20, zI 20, zI 20, zI 20, .inr (1, [.int (nI 8), .ref 7, .ref 8, .ref 9, .ref 10, .int 0]), zI 8, zI 8, zI 8, zI 8]) rfl ?_
  exact k_return d1_init_37 rfl rfl rfl (Nat.le_of_ble_eq_true rfl) (Nat.le_of_ble_eq_true rfl)
theorem dp0_init_8 : decode (k_cc Y0_init) 8 = .ok (.putfield 9, 3) := by decide +kernel
theorem dp0_init_15 : decode (k_cc Y0_init) 15 = .ok (.putfield 15, 3) := by decide +kernel
theorem dp0_init_22 : decode (k_cc Y0_init) 22 = .ok (.putfield 18, 3) := by decide +kernel
theorem dp0_init_29 : decode (k_cc Y0_init) 29 = .ok (.putfield 21, 3) := by decide +kernel
theorem dp0_init_36 : decode (k_cc Y0_init) 36 = .ok (.putfield 24, 3) := by decide +kernel
theorem dp0_init_43 : decode (k_cc Y0_init) 43 = .ok (.putfield 27, 3) := by decide +kernel
theorem dp0_init_50 : decode (k_cc Y0_init) 50 = .ok (.putfield 30, 3) := by decide +kernel
theorem dp0_init_57 : decode (k_cc Y0_init) 57 = .ok (.putfield 33, 3) := by decide +kernel
theorem dp0_init_64 : decode (k_cc Y0_init) 64 = .ok (.putfield 36, 3) := by decide +kernel
theorem m0_init60 : k_Met Y0_init [.ref 11, .int (nI 60)] ([.inr (2, [.ref 1, .ref 6, .null, .null, .null, .null, .int 0, .int 0]), .inr (1, [.int (nI 20), .ref 2, .ref 3, .ref 4, .ref 5, .int 0]), zI 20, zI 20, zI 20, zI 20, .inr (1, [.int (nI 8), .ref 7, .ref 8, .ref 9, .ref 10, .int 0]), zI 8, zI 8, zI 8, zI 8, .inr (0, [.null, .null, .null, .null, .null, .null, .null, .null, .null, .int 0])]) (.inl none, [.inr (2, [.ref 1, .ref 6, .null, .null, .null, .null, .int 0, .int 0]), .inr (1, [.int (nI 20), .ref 2, .ref 3, .ref 4, .ref 5, .int 0]), zI 20, zI 20, zI 20, zI 20, .inr (1, [.int (nI 8), .ref 7, .ref 8, .ref 9, .ref 10, .int 0]), zI 8, zI 8, zI 8, zI 8, .inr (0, [.ref 12, .ref 13, .ref 14, .ref 15, .ref 16, .ref 17, .ref 18, .ref 19, .ref 20, .int 0]), zI 60, zI 60, zI 60, zI 60, zI 60, zI 60, zI 60, zI 60, zI 60], 9, 540) := by
  refine k_intro (by decide +kernel) rfl rfl rfl ?_
  refine k_go 99 [1] T0_init_ok (fun K hK => ?_)
  refine hK _ ?_
  refine k_objInit (by decide +kernel) d0_init_1 rfl rfl rfl ?_
  refine k_go 99 [6] T0_init_ok (fun K hK => ?_)
  refine hK _ ?_
  refine k_newI (N := 60) rfl d0_init_6 (Nat.le_of_ble_eq_true rfl) (Nat.le_of_ble_eq_true rfl) rfl rfl rfl rfl ?_
  refine k_heq (h' := [.inr (2, [.ref 1, .ref 6, .null, .null, .null, .null, .int 0, .int 0]), .inr (1, [.int (nI 20), .ref 2, .ref 3, .ref 4, .ref 5, .int 0]), zI 20, zI 20, zI 20, zI 20, .inr (1, [.int (nI 8), .ref 7, .ref 8, .ref 9, .ref 10, .int 0]), zI 8, zI 8, zI 8, zI 8, .inr (0, [.null, .null, .null, .null, .null, .null, .null, .null, .null, .int 0]), zI 60]) rfl ?_
  refine k_putF (q := (0, 0)) (z := (RX0, TX0, 10)) (ty := .array .int) rfl rfl rfl rfl rfl rfl rfl (fun ad => ⟨rfl, rfl⟩) dp0_init_8 rfl rfl (by decide) ?_
  refine k_heq (h' := [.inr (2, [.ref 1, .ref 6, .null, .null, .null, .null, .int 0, .int 0]), .inr (1, [.int (nI 20), .ref 2, .ref 3, .ref 4, .ref 5, .int 0]), zI 20, zI 20, zI 20, zI 20, .inr (1, [.int (nI 8), .ref 7, .ref 8, .ref 9, .ref 10, .int 0]), zI 8, zI 8, zI 8, zI 8, .inr (0, [.ref 12, .null, .null, .null, .null, .null, .null, .null, .null, .int 0]), zI 60]) rfl ?_
  refine k_go 99 [13] T0_init_ok (fun K hK => ?_)
  refine hK _ ?_
  refine k_newI (N := 60) rfl d0_init_13 (Nat.le_of_ble_eq_true rfl) (Nat.le_of_ble_eq_true rfl) rfl rfl rfl rfl ?_
  refine k_heq (h' := [.inr (2, [.ref 1, .ref 6, .null, .null, .null, .null, .int 0, .int 0]), .inr (1, [.int (nI 20), .ref 2, .ref 3, .ref 4, .ref 5, .int 0]), zI 20, zI 20, zI 20, zI 20, .inr (1, [.int (nI 8), .ref 7, .ref 8, .ref 9, .ref 10, .int 0]), zI 8, zI 8, zI 8, zI 8, .inr (0, [.ref 12, .null, .null, .null, .null, .null, .null, .null, .null, .int 0]), zI 60, zI 60]) rfl ?_
  refine k_putF (q := (0, 1)) (z := (RX0, TX0, 10)) (ty := .array .int) rfl rfl rfl rfl rfl rfl rfl (fun ad => ⟨rfl, rfl⟩) dp0_init_15 rfl rfl (by decide) ?_
  refine k_heq (h' := [.inr (2, [.ref 1, .ref 6, .null, .null, .null, .null, .int 0, .int 0]), .inr (1, [.int (nI 20), .ref 2, .ref 3, .ref 4, .ref 5, .int 0]), zI 20, zI 20, zI 20, zI 20, .inr (1, [.int (nI 8), .ref 7, .ref 8, .ref 9, .ref 10, .int 0]), zI 8, zI 8, zI 8, zI 8, .inr (0, [.ref 12, .ref 13, .null, .null, .null, .null, .null, .null, .null, .int 0]), zI 60, zI 60]) rfl ?_
  refine k_go 99 [20] T0_init_ok (fun K hK => ?_)
  refine hK _ ?_
  refine k_newI (N := 60) rfl d0_init_20 (Nat.le_of_ble_eq_true rfl) (Nat.le_of_ble_eq_true rfl) rfl rfl rfl rfl ?_
  refine k_heq (h' := [.inr (2, [.ref 1, .ref 6, .null, .null, .null, .null, .int 0, .int 0]), .inr (1, [.int (nI 20), .ref 2, .ref 3, .ref 4, .ref 5, .int 0]), zI 20, zI 20, zI 20, zI 20, .inr (1, [.int (nI 8), .ref 7, .ref 8, .ref 9, .ref 10, .int 0]), zI 8, zI 8, zI 8, zI 8, .inr (0, [.ref 12, .ref 13, .null, .null, .null, .null, .null, .null, .null, .int 0]), zI 60, zI 60, zI 60]) rfl ?_
  refine k_putF (q := (0, 2)) (z := (RX0, TX0, 10)) (ty := .array .int) rfl rfl rfl rfl rfl rfl rfl (fun ad => ⟨rfl, rfl⟩) dp0_init_22 rfl rfl (by decide) ?_
  refine k_heq (h' := [.inr (2, [.ref 1, .ref 6, .null, .null, .null, .null, .int 0, .int 0]), .inr (1, [.int (nI 20), .ref 2, .ref 3, .ref 4, .ref 5, .int 0]), zI 20, zI 20, zI 20, zI 20, .inr (1, [.int (nI 8), .ref 7, .ref 8, .ref 9, .ref 10, .int 0]), zI 8, zI 8, zI 8, zI 8, .inr (0, [.ref 12, .ref 13, .ref 14, .null, .null, .null, .null, .null, .null, .int 0]), zI 60, zI 60, zI 60]) rfl ?_
  refine k_go 99 [27] T0_init_ok (fun K hK => ?_)
  refine hK _ ?_
  refine k_newI (N := 60) rfl d0_init_27 (Nat.le_of_ble_eq_true rfl) (Nat.le_of_ble_eq_true rfl) rfl rfl rfl rfl ?_
  refine k_heq (h' := [.inr (2, [.ref 1, .ref 6, .null, .null, .null, .null, .int 0, .int 0]), .inr (1, [.int (nI 20), .ref 2, .ref 3, .ref 4, .ref 5, .int 0]), zI 20, zI 20, zI 20, zI 20, .inr (1, [.int (nI 8), .ref 7, .ref 8, .ref 9, .ref 10, .int 0]), zI 8, zI 8, zI 8, zI 8, .inr (0, [.ref 12, .ref 13, .ref 14, .null, .null, .null, .null, .null, .null, .int 0]), zI 60, zI 60, zI 60, zI 60]) rfl ?_
  refine k_putF (q := (0, 3)) (z := (RX0, TX0, 10)) (ty := .array .int) rfl rfl rfl rfl rfl rfl rfl (fun ad => ⟨rfl, rfl⟩) dp0_init_29 rfl rfl (by decide) ?_
  refine k_heq (h' := [.inr (2, [.ref 1, .ref 6, .null, .null, .null, .null, .int 0, .int 0]), .inr (1, [.int (nI 20), .ref 2, .ref 3, .ref 4, .ref 5, .int 0]), zI 20, zI 20, zI 20, zI 20, .inr (1, [.int (nI 8), .ref 7, .ref 8, .ref 9, .ref 10, .int 0]), zI 8, zI 8, zI 8, zI 8, .inr (0, [.ref 12, .ref 13, .ref 14, .ref 15, .null, .null, .null, .null, .null, .int 0]), zI 60, zI 60, zI 60, zI 60]) rfl ?_
  refine k_go 99 [34] T0_init_ok (fun K hK => ?_)
  refine hK _ ?_
  refine k_newI (N := 60) rfl d0_init_34 (Nat.le_of_ble_eq_true rfl) (Nat.le_of_ble_eq_true rfl) rfl rfl rfl rfl ?_
  refine k_heq (h' := [.inr (2, [.ref 1, .ref 6, .null, .null, .null, .null, .int 0, .int 0]), .inr (1, [.int (nI 20), .ref 2, .ref 3, .ref 4, .ref 5, .int 0]), zI 20, zI 20, zI 20, zI 20, .inr (1, [.int (nI 8), .ref 7, .ref 8, .ref 9, .ref 10, .int 0]), zI 8, zI 8, zI 8, zI 8, .inr (0, [.ref 12, .ref 13, .ref 14, .ref 15, .null, .null, .null, .null, .null, .int 0]), zI 60, zI 60, zI 60, zI 60, zI 60]) rfl ?_
  refine k_putF (q := (0, 4)) (z := (RX0, TX0, 10)) (ty := .array .int) rfl rfl rfl rfl rfl rfl rfl (fun ad => ⟨rfl, rfl⟩) dp0_init_36 rfl rfl (by decide) ?_
  refine k_heq (h' := [.inr (2, [.ref 1, .ref 6, .null, .null, .null, .null, .int 0, .int 0]), .inr (1, [.int (nI 20), .ref 2, .ref 3, .ref 4, .ref 5, .int 0]), zI 20, zI 20, zI 20, zI 20, .inr (1, [.int (nI 8), .ref 7, .ref 8, .ref 9, .ref 10, .int 0]), zI 8, zI 8, zI 8, zI 8, .inr (0, [.ref 12, .ref 13, .ref 14, .ref 15, .ref 16, .null, .null, .null, .null, .int 0]), zI 60, zI 60, zI 60, zI 60, zI 60]) rfl ?_
  refine k_go 99 [41] T0_init_ok (fun K hK => ?_)
  refine hK _ ?_
  refine k_newI (N := 60) rfl d0_init_41 (Nat.le_of_ble_eq_true rfl) (Nat.le_of_ble_eq_true rfl) rfl rfl rfl rfl ?_
  refine k_heq (h' := [.inr (2, [.ref 1, .ref 6, .null, .null, .null, .null, .int 0, .int 0]), .inr (1, [.int (nI 20), .ref 2, .ref 3, .ref 4, .ref 5, .int 0]), zI 20, zI 20, zI 20, zI 20, .inr (1, [.int (nI 8), .ref 7, .ref 8, .ref 9, .ref 10, .int 0]), zI 8, zI 8, zI 8, zI 8, .inr (0, [.ref 12, .ref 13, .ref 14, .ref 15, .ref 16, .null, .null, .null, .null, .int 0]), zI 60, zI 60, zI 60, zI 60, zI 60, zI 60]) rfl ?_
  refine k_putF (q := (0, 5)) (z := (RX0, TX0, 10)) (ty := .array .int) rfl rfl rfl rfl rfl rfl rfl (fun ad => ⟨rfl, rfl⟩) dp0_init_43 rfl rfl (by decide) ?_
  refine k_heq (h' := [.inr (2, [.ref 1, .ref 6, .null, .null, .null, .null, .int 0, .int 0]), .inr (1, [.int (nI 20), .ref 2, .ref 3, .ref 4, .ref 5, .int 0]), zI 20, zI 20, zI 20, zI 20, .inr (1, [.int (nI 8), .ref 7, .ref 8, .ref 9, .ref 10, .int 0]), zI 8, zI 8, zI 8, zI 8, .inr (0, [.ref 12, .ref 13, .ref 14, .ref 15, .ref 16, .ref 17, .null, .null, .null, .int 0]), zI 60, zI 60, zI 60, zI 60, zI 60, zI 60]) rfl ?_
  refine k_go 99 [48] T0_init_ok (fun K hK => ?_)
  refine hK _ ?_
  refine k_newI (N := 60) rfl d0_init_48 (Nat.le_of_ble_eq_true rfl) (Nat.le_of_ble_eq_true rfl) rfl rfl rfl rfl ?_
  refine k_heq (h' := [.inr (2, [.ref 1, .ref 6, .null, .null, .null, .null, .int 0, .int 0]), .inr (1, [.int (nI 20), .ref 2, .ref 3, .ref 4, .ref 5, .int 0]), zI 20, zI 20, zI 20, zI 20, .inr (1, [.int (nI 8), .ref 7, .ref 8, .ref 9, .ref 10, .int 0]), zI 8, zI 8, zI 8, zI 8, .inr (0, [.ref 12, .ref 13, .ref 14, .ref 15, .ref 16, .ref 17, .null, .null, .null, .int 0]), zI 60, zI 60, zI 60, zI 60, zI 60, zI 60, zI 60]) rfl ?_
  refine k_putF (q := (0, 6)) (z := (RX0, TX0, 10)) (ty := .array .int) rfl rfl rfl rfl rfl rfl rfl (fun ad => ⟨rfl, rfl⟩) dp0_init_50 rfl rfl (by decide) ?_
  refine k_heq (h' := [.inr (2, [.ref 1, .ref 6, .null, .null, .null, .null, .int 0, .int 0]), .inr (1, [.int (nI 20), .ref 2, .ref 3, .ref 4, .ref 5, .int 0]), zI 20, zI 20, zI 20, zI 20, .inr (1, [.int (nI 8), .ref 7, .ref 8, .ref 9, .ref 10, .int 0]), zI 8, zI 8, zI 8, zI 8, .inr (0, [.ref 12, .ref 13, .ref 14, .ref 15, .ref 16, .ref 17, .ref 18, .null, .null, .int 0]), zI 60, zI 60, zI 60, zI 60, zI 60, zI 60, zI 60]) rfl ?_
  refine k_go 99 [55] T0_init_ok (fun K hK => ?_)
  refine hK _ ?_
  refine k_newI (N := 60) rfl d0_init_55 (Nat.le_of_ble_eq_true rfl) (Nat.le_of_ble_eq_true rfl) rfl rfl rfl rfl ?_
  refine k_heq (h' := [.inr (2, [.ref 1, .ref 6, .null, .null, .null, .null, .int 0, .int 0]), .inr (1, [.int (nI 20), .ref 2, .ref 3, .ref 4, .ref 5, .int 0]), zI 20, zI 20, zI 20, zI 20, .inr (1, [.int (nI 8), .ref 7, .ref 8, .ref 9, .ref 10, .int 0]), zI 8, zI 8, zI 8, zI 8, .inr (0, [.ref 12, .ref 13, .ref 14, .ref 15, .ref 16, .ref 17, .ref 18, .null, .null, .int 0]), zI 60, zI 60, zI 60, zI 60, zI 60, zI 60, zI 60, zI 60]) rfl ?_
  refine k_putF (q := (0, 7)) (z := (RX0, TX0, 10)) (ty := .array .int) rfl rfl rfl rfl rfl rfl rfl (fun ad => ⟨rfl, rfl⟩) dp0_init_57 rfl rfl (by decide) ?_
  refine k_heq (h' := [.inr (2, [.ref 1, .ref 6, .null, .null, .null, .null, .int 0, .int 0]), .inr (1, [.int (nI 20), .ref 2, .ref 3, .ref 4, .ref 5, .int 0]), zI 20, zI 20, zI 20, zI 20, .inr (1, [.int (nI 8), .ref 7, .ref 8, .ref 9, .ref 10, .int 0]), zI 8, zI 8, zI 8, zI 8, .inr (0, [.ref 12, .ref 13, .ref 14, .ref 15, .ref 16, .ref 17, .ref 18, .ref 19, .null, .int 0]), zI 60, zI 60, zI 60, zI 60, zI 60, zI 60, zI 60, zI 60]) rfl ?_
  refine k_go 99 [62] T0_init_ok (fun K hK => ?_)
  refine hK _ ?_
  refine k_newI (N := 60) rfl d0_init_62 (Nat.le_of_ble_eq_true rfl) (Nat.le_of_ble_eq_true rfl) rfl rfl rfl rfl ?_
  refine k_heq (h' := [.inr (2, [.ref 1, .ref 6, .null, .null, .null, .null, .int 0, .int 0]), .inr (1, [.int (nI 20), .ref 2, .ref 3, .ref 4, .ref 5, .int 0]), zI 20, zI 20, zI 20, zI 20, .inr (1, [.int (nI 8), .ref 7, .ref 8, .ref 9, .ref 10, .int 0]), zI 8, zI 8, zI 8, zI 8, .inr (0, [.ref 12, .ref 13, .ref 14, .ref 15, .ref 16, .ref 17, .ref 18, .ref 19, .null, .int 0]), zI 60, zI 60, zI 60, zI 60, zI 60, zI 60, zI 60, zI 60, zI 60]) rfl ?_
  refine k_putF (q := (0, 8)) (z := (RX0, TX0, 10)) (ty := .array .int) rfl rfl rfl rfl rfl rfl rfl (fun ad => ⟨rfl, rfl⟩) dp0_init_64 rfl rfl (by decide) ?_
  refine k_heq (h' := [.inr (2, [.ref 1, .ref 6, .null, .null, .null, .null, .int 0, .int 0]), .inr (1, [.int (nI 20), .ref 2, .ref 3, .ref 4, .ref 5, .int 0]), zI 20, zI 20, zI 20, zI 20, .inr (1, [.int (nI 8), .ref 7, .ref 8, .ref 9, .ref 10, .int 0]), zI 8, zI 8, zI 8, zI 8, .inr (0, [.ref 12, .ref 13, .ref 14, .ref 15, .ref 16, .ref 17, .ref 18, .ref 19, .ref 20, .int 0]), zI 60, zI 60, zI 60, zI 60, zI 60, zI 60, zI 60, zI 60, zI 60]) rfl ?_
  exact k_return d0_init_67 rfl rfl rfl (Nat.le_of_ble_eq_true rfl) (Nat.le_of_ble_eq_true rfl)
theorem hC_eq {F F' : Nat → Int32} {A A' : Nat → Nat → Int32} (h1 : F = F') (h2 : A = A') : hC F A = hC F' A' := by rw [h1, h2]
section FG
variable {f : Nat → Nat} {a : Nat → Nat → Nat}
theorem m2_forget0_2 : ∀ (n i : Nat), 6 - i < n → i ≤ 6 →
    k_W Y2_forgetAll none (.inl none, hC (cF f) (cA (rowA a 18 (flR (a 18) (fun c => c) 6))), 0, 0) (58, [(1, .int (nI i)), (0, .ref 0)], [], hC (cF f) (cA (rowA a 18 (flR (a 18) (fun c => c) i))), 0, 0) := by
  intro n
  induction n with
  | zero => intro i h; omega
  | succ n ih =>
    intro i hn hi
    refine k_go 99 [58] T2_forgetAll_ok (fun K hK => ?_)
    refine b_ge (a := i) (b := 6) (by omega) (by omega) (fun h => ?_) (fun h => ?_)
    · have e : i = 6 := by omega
      subst e
      refine hK _ ?_
      exact k_return d2_forgetAll_77 rfl rfl rfl (Nat.le_refl _) (Nat.le_refl _)
    · refine k_at (j := i) (by omega) ?_
      refine k_eq (z := nI (i + 1)) (nI_add i 1) ?_
      refine hK _ ?_
      refine k_heq (hC_eq rfl ((cA_up (rowA a 18 (flR (a 18) (fun c => c) i)) 18 i i).trans (congrArg cA ((up2_row a 18 i i _).trans (congrArg (rowA a 18) (flR_s (a 18) (fun c => c) i)))))) ?_
      exact ih (i + 1) (by omega) (by omega)
theorem m2_forget0_1 : ∀ (n i : Nat), 1000 - i < n → i ≤ 1000 →
    k_W Y2_forgetAll none (.inl none, hC (cF f) (cA (fgA a)), 0, 0) (36, [(1, .int (nI i)), (0, .ref 0)], [], hC (cF f) (cA (rowA a 17 (flR (a 17) (fun _ => 0) i))), 0, 0) := by
  intro n
  induction n with
  | zero => intro i h; omega
  | succ n ih =>
    intro i hn hi
    refine k_go 99 [36, 58] T2_forgetAll_ok (fun K hK => ?_)
    refine b_ge (a := i) (b := 1000) (by omega) (by omega) (fun h => ?_) (fun h => ?_)
    · have e : i = 1000 := by omega
      subst e
      refine hK _ ?_
      have := m2_forget0_2 (f := f) (a := rowA a 17 (flR (a 17) (fun _ => 0) 1000))  7 0 (by omega) (by omega)
      rw [flR_0, rowA_self] at this
      exact this
    · refine And.intro (Or.inl rfl) ?_
      refine k_at (j := i) (by omega) ?_
      refine k_eq (z := nI (i + 1)) (nI_add i 1) ?_
      refine hK _ ?_
      refine k_heq (hC_eq rfl ((cA_up (rowA a 17 (flR (a 17) (fun _ => 0) i)) 17 i 0).trans (congrArg cA ((up2_row a 17 i 0 _).trans (congrArg (rowA a 17) (flR_s (a 17) (fun _ => 0) i)))))) ?_
      exact ih (i + 1) (by omega) (by omega)
theorem m2_forget0 : k_Met Y2_forgetAll [.ref 0] (hC (cF f) (cA a)) (.inl none, hC (cF (fgF f)) (cA (fgA a)), 0, 0) := by
  refine k_intro (by decide +kernel) rfl rfl rfl ?_
  refine k_go 99 [36] T2_forgetAll_ok (fun K hK => ?_)
  refine hK _ ?_
  refine k_heq (hC_eq (cF_up' (v := 0) (k := 4) (cF_up' (v := 0) (k := 3) (cF_up' (v := 0) (k := 2) (cF_up' (v := 0) (k := 1) (cF_up' (f := f) (k := 0) (v := 0) rfl))))) rfl) ?_
  have := m2_forget0_1 (f := fgF f) (a := a)  1001 0 (by omega) (by omega)
  rw [flR_0, rowA_self] at this
  exact this
end FG
theorem dp2_init_14 : decode (k_cc Y2_init) 14 = .ok (.putfield 14, 3) := by decide +kernel
theorem dp2_init_27 : decode (k_cc Y2_init) 27 = .ok (.putfield 18, 3) := by decide +kernel
theorem dp2_init_40 : decode (k_cc Y2_init) 40 = .ok (.putfield 24, 3) := by decide +kernel
theorem dp2_init_49 : decode (k_cc Y2_init) 49 = .ok (.putfield 28, 3) := by decide +kernel
theorem dp2_init_57 : decode (k_cc Y2_init) 57 = .ok (.putfield 32, 3) := by decide +kernel
theorem dp2_init_65 : decode (k_cc Y2_init) 65 = .ok (.putfield 36, 3) := by decide +kernel
theorem m2_init : k_Met Y2_init [.ref 0] ([.inr (2, [.null, .null, .null, .null, .null, .null, .int 0, .int 0])]) (.inl none, hC (cF (fgF (fun _ => 0))) (cA (fgA (fun _ _ => 0))), 23, 1686) := by
  refine k_intro (by decide +kernel) rfl rfl rfl ?_
  refine k_go 99 [1] T2_init_ok (fun K hK => ?_)
  refine hK _ ?_
  refine k_objInit (by decide +kernel) d2_init_1 rfl rfl rfl ?_
  refine k_go 99 [5] T2_init_ok (fun K hK => ?_)
  refine hK _ ?_
  refine k_new (ci := 1) (z := (RX1, TX1, 6)) (fs := [.int 0, .null, .null, .null, .null, .int 0]) rfl (by decide +kernel) (by decide +kernel) rfl d2_init_5 (Nat.le_of_ble_eq_true rfl) (Nat.le_of_ble_eq_true rfl) rfl rfl rfl rfl ?_
  refine k_heq (h' := [.inr (2, [.null, .null, .null, .null, .null, .null, .int 0, .int 0]), .inr (1, [.int 0, .null, .null, .null, .null, .int 0])]) rfl ?_
  refine k_go 99 [11] T2_init_ok (fun K hK => ?_)
  refine hK _ ?_
  refine k_callI (Y' := Y1_init) (as := [.int (nI 20)]) (st := [.ref 1, .ref 0]) m1_init20 rfl c2_11 rfl rfl d2_init_11 (Nat.le_of_ble_eq_true rfl) (Nat.le_of_ble_eq_true rfl) rfl rfl ?_
  refine k_heq (h' := [.inr (2, [.null, .null, .null, .null, .null, .null, .int 0, .int 0]), .inr (1, [.int (nI 20), .ref 2, .ref 3, .ref 4, .ref 5, .int 0]), zI 20, zI 20, zI 20, zI 20]) rfl ?_
  refine k_putF (q := (2, 0)) (z := (RX2, TX2, 8)) (ty := .object "ChannelRows$Stations") rfl rfl rfl rfl rfl rfl rfl (fun ad => ⟨rfl, rfl⟩) dp2_init_14 rfl rfl (by decide) ?_
  refine k_heq (h' := [.inr (2, [.ref 1, .null, .null, .null, .null, .null, .int 0, .int 0]), .inr (1, [.int (nI 20), .ref 2, .ref 3, .ref 4, .ref 5, .int 0]), zI 20, zI 20, zI 20, zI 20]) rfl ?_
  refine k_go 99 [18] T2_init_ok (fun K hK => ?_)
  refine hK _ ?_
  refine k_new (ci := 1) (z := (RX1, TX1, 6)) (fs := [.int 0, .null, .null, .null, .null, .int 0]) rfl (by decide +kernel) (by decide +kernel) rfl d2_init_18 (Nat.le_of_ble_eq_true rfl) (Nat.le_of_ble_eq_true rfl) rfl rfl rfl rfl ?_
  refine k_heq (h' := [.inr (2, [.ref 1, .null, .null, .null, .null, .null, .int 0, .int 0]), .inr (1, [.int (nI 20), .ref 2, .ref 3, .ref 4, .ref 5, .int 0]), zI 20, zI 20, zI 20, zI 20, .inr (1, [.int 0, .null, .null, .null, .null, .int 0])]) rfl ?_
  refine k_go 99 [24] T2_init_ok (fun K hK => ?_)
  refine hK _ ?_
  refine k_callI (Y' := Y1_init) (as := [.int (nI 8)]) (st := [.ref 6, .ref 0]) m1_init8 rfl c2_11 rfl rfl d2_init_24 (Nat.le_of_ble_eq_true rfl) (Nat.le_of_ble_eq_true rfl) rfl rfl ?_
  refine k_heq (h' := [.inr (2, [.ref 1, .null, .null, .null, .null, .null, .int 0, .int 0]), .inr (1, [.int (nI 20), .ref 2, .ref 3, .ref 4, .ref 5, .int 0]), zI 20, zI 20, zI 20, zI 20, .inr (1, [.int (nI 8), .ref 7, .ref 8, .ref 9, .ref 10, .int 0]), zI 8, zI 8, zI 8, zI 8]) rfl ?_
  refine k_putF (q := (2, 1)) (z := (RX2, TX2, 8)) (ty := .object "ChannelRows$Stations") rfl rfl rfl rfl rfl rfl rfl (fun ad => ⟨rfl, rfl⟩) dp2_init_27 rfl rfl (by decide) ?_
  refine k_heq (h' := [.inr (2, [.ref 1, .ref 6, .null, .null, .null, .null, .int 0, .int 0]), .inr (1, [.int (nI 20), .ref 2, .ref 3, .ref 4, .ref 5, .int 0]), zI 20, zI 20, zI 20, zI 20, .inr (1, [.int (nI 8), .ref 7, .ref 8, .ref 9, .ref 10, .int 0]), zI 8, zI 8, zI 8, zI 8]) rfl ?_
  refine k_go 99 [31] T2_init_ok (fun K hK => ?_)
  refine hK _ ?_
  refine k_new (ci := 0) (z := (RX0, TX0, 10)) (fs := [.null, .null, .null, .null, .null, .null, .null, .null, .null, .int 0]) rfl (by decide +kernel) (by decide +kernel) rfl d2_init_31 (Nat.le_of_ble_eq_true rfl) (Nat.le_of_ble_eq_true rfl) rfl rfl rfl rfl ?_
  refine k_heq (h' := [.inr (2, [.ref 1, .ref 6, .null, .null, .null, .null, .int 0, .int 0]), .inr (1, [.int (nI 20), .ref 2, .ref 3, .ref 4, .ref 5, .int 0]), zI 20, zI 20, zI 20, zI 20, .inr (1, [.int (nI 8), .ref 7, .ref 8, .ref 9, .ref 10, .int 0]), zI 8, zI 8, zI 8, zI 8, .inr (0, [.null, .null, .null, .null, .null, .null, .null, .null, .null, .int 0])]) rfl ?_
  refine k_go 99 [37] T2_init_ok (fun K hK => ?_)
  refine hK _ ?_
  refine k_callI (Y' := Y0_init) (as := [.int (nI 60)]) (st := [.ref 11, .ref 0]) m0_init60 rfl c2_23 rfl rfl d2_init_37 (Nat.le_of_ble_eq_true rfl) (Nat.le_of_ble_eq_true rfl) rfl rfl ?_
  refine k_heq (h' := [.inr (2, [.ref 1, .ref 6, .null, .null, .null, .null, .int 0, .int 0]), .inr (1, [.int (nI 20), .ref 2, .ref 3, .ref 4, .ref 5, .int 0]), zI 20, zI 20, zI 20, zI 20, .inr (1, [.int (nI 8), .ref 7, .ref 8, .ref 9, .ref 10, .int 0]), zI 8, zI 8, zI 8, zI 8, .inr (0, [.ref 12, .ref 13, .ref 14, .ref 15, .ref 16, .ref 17, .ref 18, .ref 19, .ref 20, .int 0]), zI 60, zI 60, zI 60, zI 60, zI 60, zI 60, zI 60, zI 60, zI 60]) rfl ?_
  refine k_putF (q := (2, 2)) (z := (RX2, TX2, 8)) (ty := .object "ChannelRows$Messages") rfl rfl rfl rfl rfl rfl rfl (fun ad => ⟨rfl, rfl⟩) dp2_init_40 rfl rfl (by decide) ?_
  refine k_heq (h' := [.inr (2, [.ref 1, .ref 6, .ref 11, .null, .null, .null, .int 0, .int 0]), .inr (1, [.int (nI 20), .ref 2, .ref 3, .ref 4, .ref 5, .int 0]), zI 20, zI 20, zI 20, zI 20, .inr (1, [.int (nI 8), .ref 7, .ref 8, .ref 9, .ref 10, .int 0]), zI 8, zI 8, zI 8, zI 8, .inr (0, [.ref 12, .ref 13, .ref 14, .ref 15, .ref 16, .ref 17, .ref 18, .ref 19, .ref 20, .int 0]), zI 60, zI 60, zI 60, zI 60, zI 60, zI 60, zI 60, zI 60, zI 60]) rfl ?_
  refine k_go 99 [47] T2_init_ok (fun K hK => ?_)
  refine hK _ ?_
  refine k_newB (N := 1000) rfl d2_init_47 (Nat.le_of_ble_eq_true rfl) (Nat.le_of_ble_eq_true rfl) rfl rfl rfl rfl ?_
  refine k_heq (h' := [.inr (2, [.ref 1, .ref 6, .ref 11, .null, .null, .null, .int 0, .int 0]), .inr (1, [.int (nI 20), .ref 2, .ref 3, .ref 4, .ref 5, .int 0]), zI 20, zI 20, zI 20, zI 20, .inr (1, [.int (nI 8), .ref 7, .ref 8, .ref 9, .ref 10, .int 0]), zI 8, zI 8, zI 8, zI 8, .inr (0, [.ref 12, .ref 13, .ref 14, .ref 15, .ref 16, .ref 17, .ref 18, .ref 19, .ref 20, .int 0]), zI 60, zI 60, zI 60, zI 60, zI 60, zI 60, zI 60, zI 60, zI 60, zB 1000]) rfl ?_
  refine k_putF (q := (2, 3)) (z := (RX2, TX2, 8)) (ty := .array .boolean) rfl rfl rfl rfl rfl rfl rfl (fun ad => ⟨rfl, rfl⟩) dp2_init_49 rfl rfl (by decide) ?_
  refine k_heq (h' := [.inr (2, [.ref 1, .ref 6, .ref 11, .ref 21, .null, .null, .int 0, .int 0]), .inr (1, [.int (nI 20), .ref 2, .ref 3, .ref 4, .ref 5, .int 0]), zI 20, zI 20, zI 20, zI 20, .inr (1, [.int (nI 8), .ref 7, .ref 8, .ref 9, .ref 10, .int 0]), zI 8, zI 8, zI 8, zI 8, .inr (0, [.ref 12, .ref 13, .ref 14, .ref 15, .ref 16, .ref 17, .ref 18, .ref 19, .ref 20, .int 0]), zI 60, zI 60, zI 60, zI 60, zI 60, zI 60, zI 60, zI 60, zI 60, zB 1000]) rfl ?_
  refine k_go 99 [55] T2_init_ok (fun K hK => ?_)
  refine hK _ ?_
  refine k_newI (N := 6) rfl d2_init_55 (Nat.le_of_ble_eq_true rfl) (Nat.le_of_ble_eq_true rfl) rfl rfl rfl rfl ?_
  refine k_heq (h' := [.inr (2, [.ref 1, .ref 6, .ref 11, .ref 21, .null, .null, .int 0, .int 0]), .inr (1, [.int (nI 20), .ref 2, .ref 3, .ref 4, .ref 5, .int 0]), zI 20, zI 20, zI 20, zI 20, .inr (1, [.int (nI 8), .ref 7, .ref 8, .ref 9, .ref 10, .int 0]), zI 8, zI 8, zI 8, zI 8, .inr (0, [.ref 12, .ref 13, .ref 14, .ref 15, .ref 16, .ref 17, .ref 18, .ref 19, .ref 20, .int 0]), zI 60, zI 60, zI 60, zI 60, zI 60, zI 60, zI 60, zI 60, zI 60, zB 1000, zI 6]) rfl ?_
  refine k_putF (q := (2, 4)) (z := (RX2, TX2, 8)) (ty := .array .int) rfl rfl rfl rfl rfl rfl rfl (fun ad => ⟨rfl, rfl⟩) dp2_init_57 rfl rfl (by decide) ?_
  refine k_heq (h' := [.inr (2, [.ref 1, .ref 6, .ref 11, .ref 21, .ref 22, .null, .int 0, .int 0]), .inr (1, [.int (nI 20), .ref 2, .ref 3, .ref 4, .ref 5, .int 0]), zI 20, zI 20, zI 20, zI 20, .inr (1, [.int (nI 8), .ref 7, .ref 8, .ref 9, .ref 10, .int 0]), zI 8, zI 8, zI 8, zI 8, .inr (0, [.ref 12, .ref 13, .ref 14, .ref 15, .ref 16, .ref 17, .ref 18, .ref 19, .ref 20, .int 0]), zI 60, zI 60, zI 60, zI 60, zI 60, zI 60, zI 60, zI 60, zI 60, zB 1000, zI 6]) rfl ?_
  refine k_go 99 [63] T2_init_ok (fun K hK => ?_)
  refine hK _ ?_
  refine k_newI (N := 6) rfl d2_init_63 (Nat.le_of_ble_eq_true rfl) (Nat.le_of_ble_eq_true rfl) rfl rfl rfl rfl ?_
  refine k_heq (h' := [.inr (2, [.ref 1, .ref 6, .ref 11, .ref 21, .ref 22, .null, .int 0, .int 0]), .inr (1, [.int (nI 20), .ref 2, .ref 3, .ref 4, .ref 5, .int 0]), zI 20, zI 20, zI 20, zI 20, .inr (1, [.int (nI 8), .ref 7, .ref 8, .ref 9, .ref 10, .int 0]), zI 8, zI 8, zI 8, zI 8, .inr (0, [.ref 12, .ref 13, .ref 14, .ref 15, .ref 16, .ref 17, .ref 18, .ref 19, .ref 20, .int 0]), zI 60, zI 60, zI 60, zI 60, zI 60, zI 60, zI 60, zI 60, zI 60, zB 1000, zI 6, zI 6]) rfl ?_
  refine k_putF (q := (2, 5)) (z := (RX2, TX2, 8)) (ty := .array .int) rfl rfl rfl rfl rfl rfl rfl (fun ad => ⟨rfl, rfl⟩) dp2_init_65 rfl rfl (by decide) ?_
  refine k_heq (h' := [.inr (2, [.ref 1, .ref 6, .ref 11, .ref 21, .ref 22, .ref 23, .int 0, .int 0]), .inr (1, [.int (nI 20), .ref 2, .ref 3, .ref 4, .ref 5, .int 0]), zI 20, zI 20, zI 20, zI 20, .inr (1, [.int (nI 8), .ref 7, .ref 8, .ref 9, .ref 10, .int 0]), zI 8, zI 8, zI 8, zI 8, .inr (0, [.ref 12, .ref 13, .ref 14, .ref 15, .ref 16, .ref 17, .ref 18, .ref 19, .ref 20, .int 0]), zI 60, zI 60, zI 60, zI 60, zI 60, zI 60, zI 60, zI 60, zI 60, zB 1000, zI 6, zI 6]) rfl ?_
  refine k_go 99 [69] T2_init_ok (fun K hK => ?_)
  refine hK _ ?_
  refine k_heq (h' := hC (cF (fun _ => 0)) (cA (fun _ _ => 0))) rfl ?_
  refine k_callV (Y' := Y2_forgetAll) (as := []) (st := []) m2_forget0 rfl c2_39 rfl rfl rfl d2_init_69 (Nat.le_of_ble_eq_true rfl) (Nat.le_of_ble_eq_true rfl) rfl rfl ?_
  exact k_return d2_init_72 rfl rfl rfl (Nat.le_of_ble_eq_true rfl) (Nat.le_of_ble_eq_true rfl)
theorem dp3_init_9 : decode (k_cc Y3_init) 9 = .ok (.putfield 7, 3) := by decide +kernel
theorem dp3_init_17 : decode (k_cc Y3_init) 17 = .ok (.putfield 13, 3) := by decide +kernel
theorem dp3_init_25 : decode (k_cc Y3_init) 25 = .ok (.putfield 16, 3) := by decide +kernel
theorem dp3_init_33 : decode (k_cc Y3_init) 33 = .ok (.putfield 19, 3) := by decide +kernel
theorem dp3_init_41 : decode (k_cc Y3_init) 41 = .ok (.putfield 22, 3) := by decide +kernel
theorem dp3_init_49 : decode (k_cc Y3_init) 49 = .ok (.putfield 25, 3) := by decide +kernel
theorem dp3_init_57 : decode (k_cc Y3_init) 57 = .ok (.putfield 28, 3) := by decide +kernel
theorem dp3_init_65 : decode (k_cc Y3_init) 65 = .ok (.putfield 31, 3) := by decide +kernel
theorem dp3_init_73 : decode (k_cc Y3_init) 73 = .ok (.putfield 34, 3) := by decide +kernel
theorem dp3_init_81 : decode (k_cc Y3_init) 81 = .ok (.putfield 37, 3) := by decide +kernel
theorem dp3_init_89 : decode (k_cc Y3_init) 89 = .ok (.putfield 40, 3) := by decide +kernel
theorem dp3_init_97 : decode (k_cc Y3_init) 97 = .ok (.putfield 43, 3) := by decide +kernel
theorem dp3_init_105 : decode (k_cc Y3_init) 105 = .ok (.putfield 46, 3) := by decide +kernel
theorem dp3_init_113 : decode (k_cc Y3_init) 113 = .ok (.putfield 49, 3) := by decide +kernel
theorem dp3_init_122 : decode (k_cc Y3_init) 122 = .ok (.putfield 52, 3) := by decide +kernel
theorem dp3_init_131 : decode (k_cc Y3_init) 131 = .ok (.putfield 56, 3) := by decide +kernel
theorem dp3_init_140 : decode (k_cc Y3_init) 140 = .ok (.putfield 59, 3) := by decide +kernel
theorem dp3_init_148 : decode (k_cc Y3_init) 148 = .ok (.putfield 62, 3) := by decide +kernel
theorem dp3_init_156 : decode (k_cc Y3_init) 156 = .ok (.putfield 65, 3) := by decide +kernel
section IM
variable {F : Nat → Int32} {A : Nat → Nat → Int32} {g : Nat → Nat} {b : Nat → Nat → Nat}
theorem hM_eq {G G' : Nat → Int32} {B B' : Nat → Nat → Int32} (h1 : G = G') (h2 : B = B') : hC F A ++ hM G B = hC F A ++ hM G' B' := by rw [h1, h2]
theorem m3_init_loop : ∀ (n i : Nat), 6 - i < n → i ≤ 6 →
    k_W Y3_init none (.inl none, hC F A ++ hM (cF g) (cA (rowA b 0 (flR (b 0) (fun c => c) 6))), 19, 3538) (161, [(1, .int (nI i)), (0, .ref 24)], [], hC F A ++ hM (cF g) (cA (rowA b 0 (flR (b 0) (fun c => c) i))), 19, 3538) := by
  intro n
  induction n with
  | zero => intro i h; omega
  | succ n ih =>
    intro i hn hi
    refine k_go 99 [161] T3_init_ok (fun K hK => ?_)
    refine b_ge (a := i) (b := 6) (by omega) (by omega) (fun h => ?_) (fun h => ?_)
    · have e : i = 6 := by omega
      subst e
      refine hK _ ?_
      exact k_return d3_init_180 rfl rfl rfl (Nat.le_refl _) (Nat.le_refl _)
    · refine k_at (j := i) (by omega) ?_
      refine k_eq (z := nI (i + 1)) (nI_add i 1) ?_
      refine hK _ ?_
      refine k_heq (hM_eq rfl ((cA_up (rowA b 0 (flR (b 0) (fun c => c) i)) 0 i i).trans (congrArg cA ((up2_row b 0 i i _).trans (congrArg (rowA b 0) (flR_s (b 0) (fun c => c) i)))))) ?_
      exact ih (i + 1) (by omega) (by omega)
theorem m3_init : k_Met Y3_init [.ref 24] (hC F A ++ [.inr (3, [.int 0, .int 0, .int 0, .null, .int 0, .null, .null, .null, .null, .int 0, .null, .null, .null, .null, .int 0, .null, .null, .null, .null, .null, .null, .null, .null, .null, .null])]) (.inl none, hC F A ++ hM (cF (fun _ => 0)) (cA (rowA (fun _ _ => 0) 0 (flR (fun _ => 0) (fun c => c) 6))), 19, 3538) := by
  refine k_intro (by decide +kernel) rfl rfl rfl ?_
  have lo := m3_init_loop (F := F) (A := A) (g := (fun _ => 0)) (b := (fun _ _ => 0)) 7 0 (by omega) (by omega)
  rw [flR_0, rowA_self] at lo
  refine k_go 99 [1] T3_init_ok (fun K hK => ?_)
  refine hK _ ?_
  refine k_objInit (by decide +kernel) d3_init_1 rfl rfl rfl ?_
  refine k_go 99 [7] T3_init_ok (fun K hK => ?_)
  refine hK _ ?_
  refine k_newI (N := 6) rfl d3_init_7 (Nat.le_of_ble_eq_true rfl) (Nat.le_of_ble_eq_true rfl) rfl rfl rfl rfl ?_
  refine k_heq (h' := hC F A ++ [.inr (3, [.int 0, .int 0, .int 0, .null, .int 0, .null, .null, .null, .null, .int 0, .null, .null, .null, .null, .int 0, .null, .null, .null, .null, .null, .null, .null, .null, .null, .null]), zI 6]) rfl ?_
  refine k_putF (q := (3, 3)) (z := (RX3, TX3, 25)) (ty := .array .int) rfl rfl rfl rfl rfl rfl rfl (fun ad => ⟨rfl, rfl⟩) dp3_init_9 rfl rfl (by decide) ?_
  refine k_heq (h' := hC F A ++ [.inr (3, [.int 0, .int 0, .int 0, .ref 25, .int 0, .null, .null, .null, .null, .int 0, .null, .null, .null, .null, .int 0, .null, .null, .null, .null, .null, .null, .null, .null, .null, .null]), zI 6]) rfl ?_
  refine k_go 99 [15] T3_init_ok (fun K hK => ?_)
  refine hK _ ?_
  refine k_newI (N := 20) rfl d3_init_15 (Nat.le_of_ble_eq_true rfl) (Nat.le_of_ble_eq_true rfl) rfl rfl rfl rfl ?_
  refine k_heq (h' := hC F A ++ [.inr (3, [.int 0, .int 0, .int 0, .ref 25, .int 0, .null, .null, .null, .null, .int 0, .null, .null, .null, .null, .int 0, .null, .null, .null, .null, .null, .null, .null, .null, .null, .null]), zI 6, zI 20]) rfl ?_
  refine k_putF (q := (3, 5)) (z := (RX3, TX3, 25)) (ty := .array .int) rfl rfl rfl rfl rfl rfl rfl (fun ad => ⟨rfl, rfl⟩) dp3_init_17 rfl rfl (by decide) ?_
  refine k_heq (h' := hC F A ++ [.inr (3, [.int 0, .int 0, .int 0, .ref 25, .int 0, .ref 26, .null, .null, .null, .int 0, .null, .null, .null, .null, .int 0, .null, .null, .null, .null, .null, .null, .null, .null, .null, .null]), zI 6, zI 20]) rfl ?_
  refine k_go 99 [23] T3_init_ok (fun K hK => ?_)
  refine hK _ ?_
  refine k_newI (N := 20) rfl d3_init_23 (Nat.le_of_ble_eq_true rfl) (Nat.le_of_ble_eq_true rfl) rfl rfl rfl rfl ?_
  refine k_heq (h' := hC F A ++ [.inr (3, [.int 0, .int 0, .int 0, .ref 25, .int 0, .ref 26, .null, .null, .null, .int 0, .null, .null, .null, .null, .int 0, .null, .null, .null, .null, .null, .null, .null, .null, .null, .null]), zI 6, zI 20, zI 20]) rfl ?_
  refine k_putF (q := (3, 6)) (z := (RX3, TX3, 25)) (ty := .array .int) rfl rfl rfl rfl rfl rfl rfl (fun ad => ⟨rfl, rfl⟩) dp3_init_25 rfl rfl (by decide) ?_
  refine k_heq (h' := hC F A ++ [.inr (3, [.int 0, .int 0, .int 0, .ref 25, .int 0, .ref 26, .ref 27, .null, .null, .int 0, .null, .null, .null, .null, .int 0, .null, .null, .null, .null, .null, .null, .null, .null, .null, .null]), zI 6, zI 20, zI 20]) rfl ?_
  refine k_go 99 [31] T3_init_ok (fun K hK => ?_)
  refine hK _ ?_
  refine k_newI (N := 20) rfl d3_init_31 (Nat.le_of_ble_eq_true rfl) (Nat.le_of_ble_eq_true rfl) rfl rfl rfl rfl ?_
  refine k_heq (h' := hC F A ++ [.inr (3, [.int 0, .int 0, .int 0, .ref 25, .int 0, .ref 26, .ref 27, .null, .null, .int 0, .null, .null, .null, .null, .int 0, .null, .null, .null, .null, .null, .null, .null, .null, .null, .null]), zI 6, zI 20, zI 20, zI 20]) rfl ?_
  refine k_putF (q := (3, 7)) (z := (RX3, TX3, 25)) (ty := .array .int) rfl rfl rfl rfl rfl rfl rfl (fun ad => ⟨rfl, rfl⟩) dp3_init_33 rfl rfl (by decide) ?_
  refine k_heq (h' := hC F A ++ [.inr (3, [.int 0, .int 0, .int 0, .ref 25, .int 0, .ref 26, .ref 27, .ref 28, .null, .int 0, .null, .null, .null, .null, .int 0, .null, .null, .null, .null, .null, .null, .null, .null, .null, .null]), zI 6, zI 20, zI 20, zI 20]) rfl ?_
  refine k_go 99 [39] T3_init_ok (fun K hK => ?_)
  refine hK _ ?_
  refine k_newI (N := 20) rfl d3_init_39 (Nat.le_of_ble_eq_true rfl) (Nat.le_of_ble_eq_true rfl) rfl rfl rfl rfl ?_
  refine k_heq (h' := hC F A ++ [.inr (3, [.int 0, .int 0, .int 0, .ref 25, .int 0, .ref 26, .ref 27, .ref 28, .null, .int 0, .null, .null, .null, .null, .int 0, .null, .null, .null, .null, .null, .null, .null, .null, .null, .null]), zI 6, zI 20, zI 20, zI 20, zI 20]) rfl ?_
  refine k_putF (q := (3, 8)) (z := (RX3, TX3, 25)) (ty := .array .int) rfl rfl rfl rfl rfl rfl rfl (fun ad => ⟨rfl, rfl⟩) dp3_init_41 rfl rfl (by decide) ?_
  refine k_heq (h' := hC F A ++ [.inr (3, [.int 0, .int 0, .int 0, .ref 25, .int 0, .ref 26, .ref 27, .ref 28, .ref 29, .int 0, .null, .null, .null, .null, .int 0, .null, .null, .null, .null, .null, .null, .null, .null, .null, .null]), zI 6, zI 20, zI 20, zI 20, zI 20]) rfl ?_
  refine k_go 99 [47] T3_init_ok (fun K hK => ?_)
  refine hK _ ?_
  refine k_newI (N := 8) rfl d3_init_47 (Nat.le_of_ble_eq_true rfl) (Nat.le_of_ble_eq_true rfl) rfl rfl rfl rfl ?_
  refine k_heq (h' := hC F A ++ [.inr (3, [.int 0, .int 0, .int 0, .ref 25, .int 0, .ref 26, .ref 27, .ref 28, .ref 29, .int 0, .null, .null, .null, .null, .int 0, .null, .null, .null, .null, .null, .null, .null, .null, .null, .null]), zI 6, zI 20, zI 20, zI 20, zI 20, zI 8]) rfl ?_
  refine k_putF (q := (3, 10)) (z := (RX3, TX3, 25)) (ty := .array .int) rfl rfl rfl rfl rfl rfl rfl (fun ad => ⟨rfl, rfl⟩) dp3_init_49 rfl rfl (by decide) ?_
  refine k_heq (h' := hC F A ++ [.inr (3, [.int 0, .int 0, .int 0, .ref 25, .int 0, .ref 26, .ref 27, .ref 28, .ref 29, .int 0, .ref 30, .null, .null, .null, .int 0, .null, .null, .null, .null, .null, .null, .null, .null, .null, .null]), zI 6, zI 20, zI 20, zI 20, zI 20, zI 8]) rfl ?_
  refine k_go 99 [55] T3_init_ok (fun K hK => ?_)
  refine hK _ ?_
  refine k_newI (N := 8) rfl d3_init_55 (Nat.le_of_ble_eq_true rfl) (Nat.le_of_ble_eq_true rfl) rfl rfl rfl rfl ?_
  refine k_heq (h' := hC F A ++ [.inr (3, [.int 0, .int 0, .int 0, .ref 25, .int 0, .ref 26, .ref 27, .ref 28, .ref 29, .int 0, .ref 30, .null, .null, .null, .int 0, .null, .null, .null, .null, .null, .null, .null, .null, .null, .null]), zI 6, zI 20, zI 20, zI 20, zI 20, zI 8, zI 8]) rfl ?_
  refine k_putF (q := (3, 11)) (z := (RX3, TX3, 25)) (ty := .array .int) rfl rfl rfl rfl rfl rfl rfl (fun ad => ⟨rfl, rfl⟩) dp3_init_57 rfl rfl (by decide) ?_
  refine k_heq (h' := hC F A ++ [.inr (3, [.int 0, .int 0, .int 0, .ref 25, .int 0, .ref 26, .ref 27, .ref 28, .ref 29, .int 0, .ref 30, .ref 31, .null, .null, .int 0, .null, .null, .null, .null, .null, .null, .null, .null, .null, .null]), zI 6, zI 20, zI 20, zI 20, zI 20, zI 8, zI 8]) rfl ?_
  refine k_go 99 [63] T3_init_ok (fun K hK => ?_)
  refine hK _ ?_
  refine k_newI (N := 8) rfl d3_init_63 (Nat.le_of_ble_eq_true rfl) (Nat.le_of_ble_eq_true rfl) rfl rfl rfl rfl ?_
  refine k_heq (h' := hC F A ++ [.inr (3, [.int 0, .int 0, .int 0, .ref 25, .int 0, .ref 26, .ref 27, .ref 28, .ref 29, .int 0, .ref 30, .ref 31, .null, .null, .int 0, .null, .null, .null, .null, .null, .null, .null, .null, .null, .null]), zI 6, zI 20, zI 20, zI 20, zI 20, zI 8, zI 8, zI 8]) rfl ?_
  refine k_putF (q := (3, 12)) (z := (RX3, TX3, 25)) (ty := .array .int) rfl rfl rfl rfl rfl rfl rfl (fun ad => ⟨rfl, rfl⟩) dp3_init_65 rfl rfl (by decide) ?_
  refine k_heq (h' := hC F A ++ [.inr (3, [.int 0, .int 0, .int 0, .ref 25, .int 0, .ref 26, .ref 27, .ref 28, .ref 29, .int 0, .ref 30, .ref 31, .ref 32, .null, .int 0, .null, .null, .null, .null, .null, .null, .null, .null, .null, .null]), zI 6, zI 20, zI 20, zI 20, zI 20, zI 8, zI 8, zI 8]) rfl ?_
  refine k_go 99 [71] T3_init_ok (fun K hK => ?_)
  refine hK _ ?_
  refine k_newI (N := 8) rfl d3_init_71 (Nat.le_of_ble_eq_true rfl) (Nat.le_of_ble_eq_true rfl) rfl rfl rfl rfl ?_
  refine k_heq (h' := hC F A ++ [.inr (3, [.int 0, .int 0, .int 0, .ref 25, .int 0, .ref 26, .ref 27, .ref 28, .ref 29, .int 0, .ref 30, .ref 31, .ref 32, .null, .int 0, .null, .null, .null, .null, .null, .null, .null, .null, .null, .null]), zI 6, zI 20, zI 20, zI 20, zI 20, zI 8, zI 8, zI 8, zI 8]) rfl ?_
  refine k_putF (q := (3, 13)) (z := (RX3, TX3, 25)) (ty := .array .int) rfl rfl rfl rfl rfl rfl rfl (fun ad => ⟨rfl, rfl⟩) dp3_init_73 rfl rfl (by decide) ?_
  refine k_heq (h' := hC F A ++ [.inr (3, [.int 0, .int 0, .int 0, .ref 25, .int 0, .ref 26, .ref 27, .ref 28, .ref 29, .int 0, .ref 30, .ref 31, .ref 32, .ref 33, .int 0, .null, .null, .null, .null, .null, .null, .null, .null, .null, .null]), zI 6, zI 20, zI 20, zI 20, zI 20, zI 8, zI 8, zI 8, zI 8]) rfl ?_
  refine k_go 99 [79] T3_init_ok (fun K hK => ?_)
  refine hK _ ?_
  refine k_newI (N := 60) rfl d3_init_79 (Nat.le_of_ble_eq_true rfl) (Nat.le_of_ble_eq_true rfl) rfl rfl rfl rfl ?_
  refine k_heq (h' := hC F A ++ [.inr (3, [.int 0, .int 0, .int 0, .ref 25, .int 0, .ref 26, .ref 27, .ref 28, .ref 29, .int 0, .ref 30, .ref 31, .ref 32, .ref 33, .int 0, .null, .null, .null, .null, .null, .null, .null, .null, .null, .null]), zI 6, zI 20, zI 20, zI 20, zI 20, zI 8, zI 8, zI 8, zI 8, zI 60]) rfl ?_
  refine k_putF (q := (3, 15)) (z := (RX3, TX3, 25)) (ty := .array .int) rfl rfl rfl rfl rfl rfl rfl (fun ad => ⟨rfl, rfl⟩) dp3_init_81 rfl rfl (by decide) ?_
  refine k_heq (h' := hC F A ++ [.inr (3, [.int 0, .int 0, .int 0, .ref 25, .int 0, .ref 26, .ref 27, .ref 28, .ref 29, .int 0, .ref 30, .ref 31, .ref 32, .ref 33, .int 0, .ref 34, .null, .null, .null, .null, .null, .null, .null, .null, .null]), zI 6, zI 20, zI 20, zI 20, zI 20, zI 8, zI 8, zI 8, zI 8, zI 60]) rfl ?_
  refine k_go 99 [87] T3_init_ok (fun K hK => ?_)
  refine hK _ ?_
  refine k_newI (N := 60) rfl d3_init_87 (Nat.le_of_ble_eq_true rfl) (Nat.le_of_ble_eq_true rfl) rfl rfl rfl rfl ?_
  refine k_heq (h' := hC F A ++ [.inr (3, [.int 0, .int 0, .int 0, .ref 25, .int 0, .ref 26, .ref 27, .ref 28, .ref 29, .int 0, .ref 30, .ref 31, .ref 32, .ref 33, .int 0, .ref 34, .null, .null, .null, .null, .null, .null, .null, .null, .null]), zI 6, zI 20, zI 20, zI 20, zI 20, zI 8, zI 8, zI 8, zI 8, zI 60, zI 60]) rfl ?_
  refine k_putF (q := (3, 16)) (z := (RX3, TX3, 25)) (ty := .array .int) rfl rfl rfl rfl rfl rfl rfl (fun ad => ⟨rfl, rfl⟩) dp3_init_89 rfl rfl (by decide) ?_
  refine k_heq (h' := hC F A ++ [.inr (3, [.int 0, .int 0, .int 0, .ref 25, .int 0, .ref 26, .ref 27, .ref 28, .ref 29, .int 0, .ref 30, .ref 31, .ref 32, .ref 33, .int 0, .ref 34, .ref 35, .null, .null, .null, .null, .null, .null, .null, .null]), zI 6, zI 20, zI 20, zI 20, zI 20, zI 8, zI 8, zI 8, zI 8, zI 60, zI 60]) rfl ?_
  refine k_go 99 [95] T3_init_ok (fun K hK => ?_)
  refine hK _ ?_
  refine k_newI (N := 60) rfl d3_init_95 (Nat.le_of_ble_eq_true rfl) (Nat.le_of_ble_eq_true rfl) rfl rfl rfl rfl ?_
  refine k_heq (h' := hC F A ++ [.inr (3, [.int 0, .int 0, .int 0, .ref 25, .int 0, .ref 26, .ref 27, .ref 28, .ref 29, .int 0, .ref 30, .ref 31, .ref 32, .ref 33, .int 0, .ref 34, .ref 35, .null, .null, .null, .null, .null, .null, .null, .null]), zI 6, zI 20, zI 20, zI 20, zI 20, zI 8, zI 8, zI 8, zI 8, zI 60, zI 60, zI 60]) rfl ?_
  refine k_putF (q := (3, 17)) (z := (RX3, TX3, 25)) (ty := .array .int) rfl rfl rfl rfl rfl rfl rfl (fun ad => ⟨rfl, rfl⟩) dp3_init_97 rfl rfl (by decide) ?_
  refine k_heq (h' := hC F A ++ [.inr (3, [.int 0, .int 0, .int 0, .ref 25, .int 0, .ref 26, .ref 27, .ref 28, .ref 29, .int 0, .ref 30, .ref 31, .ref 32, .ref 33, .int 0, .ref 34, .ref 35, .ref 36, .null, .null, .null, .null, .null, .null, .null]), zI 6, zI 20, zI 20, zI 20, zI 20, zI 8, zI 8, zI 8, zI 8, zI 60, zI 60, zI 60]) rfl ?_
  refine k_go 99 [103] T3_init_ok (fun K hK => ?_)
  refine hK _ ?_
  refine k_newI (N := 60) rfl d3_init_103 (Nat.le_of_ble_eq_true rfl) (Nat.le_of_ble_eq_true rfl) rfl rfl rfl rfl ?_
  refine k_heq (h' := hC F A ++ [.inr (3, [.int 0, .int 0, .int 0, .ref 25, .int 0, .ref 26, .ref 27, .ref 28, .ref 29, .int 0, .ref 30, .ref 31, .ref 32, .ref 33, .int 0, .ref 34, .ref 35, .ref 36, .null, .null, .null, .null, .null, .null, .null]), zI 6, zI 20, zI 20, zI 20, zI 20, zI 8, zI 8, zI 8, zI 8, zI 60, zI 60, zI 60, zI 60]) rfl ?_
  refine k_putF (q := (3, 18)) (z := (RX3, TX3, 25)) (ty := .array .int) rfl rfl rfl rfl rfl rfl rfl (fun ad => ⟨rfl, rfl⟩) dp3_init_105 rfl rfl (by decide) ?_
  refine k_heq (h' := hC F A ++ [.inr (3, [.int 0, .int 0, .int 0, .ref 25, .int 0, .ref 26, .ref 27, .ref 28, .ref 29, .int 0, .ref 30, .ref 31, .ref 32, .ref 33, .int 0, .ref 34, .ref 35, .ref 36, .ref 37, .null, .null, .null, .null, .null, .null]), zI 6, zI 20, zI 20, zI 20, zI 20, zI 8, zI 8, zI 8, zI 8, zI 60, zI 60, zI 60, zI 60]) rfl ?_
  refine k_go 99 [111] T3_init_ok (fun K hK => ?_)
  refine hK _ ?_
  refine k_newI (N := 60) rfl d3_init_111 (Nat.le_of_ble_eq_true rfl) (Nat.le_of_ble_eq_true rfl) rfl rfl rfl rfl ?_
  refine k_heq (h' := hC F A ++ [.inr (3, [.int 0, .int 0, .int 0, .ref 25, .int 0, .ref 26, .ref 27, .ref 28, .ref 29, .int 0, .ref 30, .ref 31, .ref 32, .ref 33, .int 0, .ref 34, .ref 35, .ref 36, .ref 37, .null, .null, .null, .null, .null, .null]), zI 6, zI 20, zI 20, zI 20, zI 20, zI 8, zI 8, zI 8, zI 8, zI 60, zI 60, zI 60, zI 60, zI 60]) rfl ?_
  refine k_putF (q := (3, 19)) (z := (RX3, TX3, 25)) (ty := .array .int) rfl rfl rfl rfl rfl rfl rfl (fun ad => ⟨rfl, rfl⟩) dp3_init_113 rfl rfl (by decide) ?_
  refine k_heq (h' := hC F A ++ [.inr (3, [.int 0, .int 0, .int 0, .ref 25, .int 0, .ref 26, .ref 27, .ref 28, .ref 29, .int 0, .ref 30, .ref 31, .ref 32, .ref 33, .int 0, .ref 34, .ref 35, .ref 36, .ref 37, .ref 38, .null, .null, .null, .null, .null]), zI 6, zI 20, zI 20, zI 20, zI 20, zI 8, zI 8, zI 8, zI 8, zI 60, zI 60, zI 60, zI 60, zI 60]) rfl ?_
  refine k_go 99 [120] T3_init_ok (fun K hK => ?_)
  refine hK _ ?_
  refine k_newB (N := 1000) rfl d3_init_120 (Nat.le_of_ble_eq_true rfl) (Nat.le_of_ble_eq_true rfl) rfl rfl rfl rfl ?_
  refine k_heq (h' := hC F A ++ [.inr (3, [.int 0, .int 0, .int 0, .ref 25, .int 0, .ref 26, .ref 27, .ref 28, .ref 29, .int 0, .ref 30, .ref 31, .ref 32, .ref 33, .int 0, .ref 34, .ref 35, .ref 36, .ref 37, .ref 38, .null, .null, .null, .null, .null]), zI 6, zI 20, zI 20, zI 20, zI 20, zI 8, zI 8, zI 8, zI 8, zI 60, zI 60, zI 60, zI 60, zI 60, zB 1000]) rfl ?_
  refine k_putF (q := (3, 20)) (z := (RX3, TX3, 25)) (ty := .array .boolean) rfl rfl rfl rfl rfl rfl rfl (fun ad => ⟨rfl, rfl⟩) dp3_init_122 rfl rfl (by decide) ?_
  refine k_heq (h' := hC F A ++ [.inr (3, [.int 0, .int 0, .int 0, .ref 25, .int 0, .ref 26, .ref 27, .ref 28, .ref 29, .int 0, .ref 30, .ref 31, .ref 32, .ref 33, .int 0, .ref 34, .ref 35, .ref 36, .ref 37, .ref 38, .ref 39, .null, .null, .null, .null]), zI 6, zI 20, zI 20, zI 20, zI 20, zI 8, zI 8, zI 8, zI 8, zI 60, zI 60, zI 60, zI 60, zI 60, zB 1000]) rfl ?_
  refine k_go 99 [129] T3_init_ok (fun K hK => ?_)
  refine hK _ ?_
  refine k_newI (N := 1000) rfl d3_init_129 (Nat.le_of_ble_eq_true rfl) (Nat.le_of_ble_eq_true rfl) rfl rfl rfl rfl ?_
  refine k_heq (h' := hC F A ++ [.inr (3, [.int 0, .int 0, .int 0, .ref 25, .int 0, .ref 26, .ref 27, .ref 28, .ref 29, .int 0, .ref 30, .ref 31, .ref 32, .ref 33, .int 0, .ref 34, .ref 35, .ref 36, .ref 37, .ref 38, .ref 39, .null, .null, .null, .null]), zI 6, zI 20, zI 20, zI 20, zI 20, zI 8, zI 8, zI 8, zI 8, zI 60, zI 60, zI 60, zI 60, zI 60, zB 1000, zI 1000]) rfl ?_
  refine k_putF (q := (3, 21)) (z := (RX3, TX3, 25)) (ty := .array .int) rfl rfl rfl rfl rfl rfl rfl (fun ad => ⟨rfl, rfl⟩) dp3_init_131 rfl rfl (by decide) ?_
  refine k_heq (h' := hC F A ++ [.inr (3, [.int 0, .int 0, .int 0, .ref 25, .int 0, .ref 26, .ref 27, .ref 28, .ref 29, .int 0, .ref 30, .ref 31, .ref 32, .ref 33, .int 0, .ref 34, .ref 35, .ref 36, .ref 37, .ref 38, .ref 39, .ref 40, .null, .null, .null]), zI 6, zI 20, zI 20, zI 20, zI 20, zI 8, zI 8, zI 8, zI 8, zI 60, zI 60, zI 60, zI 60, zI 60, zB 1000, zI 1000]) rfl ?_
  refine k_go 99 [138] T3_init_ok (fun K hK => ?_)
  refine hK _ ?_
  refine k_newI (N := 1000) rfl d3_init_138 (Nat.le_of_ble_eq_true rfl) (Nat.le_of_ble_eq_true rfl) rfl rfl rfl rfl ?_
  refine k_heq (h' := hC F A ++ [.inr (3, [.int 0, .int 0, .int 0, .ref 25, .int 0, .ref 26, .ref 27, .ref 28, .ref 29, .int 0, .ref 30, .ref 31, .ref 32, .ref 33, .int 0, .ref 34, .ref 35, .ref 36, .ref 37, .ref 38, .ref 39, .ref 40, .null, .null, .null]), zI 6, zI 20, zI 20, zI 20, zI 20, zI 8, zI 8, zI 8, zI 8, zI 60, zI 60, zI 60, zI 60, zI 60, zB 1000, zI 1000, zI 1000]) rfl ?_
  refine k_putF (q := (3, 22)) (z := (RX3, TX3, 25)) (ty := .array .int) rfl rfl rfl rfl rfl rfl rfl (fun ad => ⟨rfl, rfl⟩) dp3_init_140 rfl rfl (by decide) ?_
  refine k_heq (h' := hC F A ++ [.inr (3, [.int 0, .int 0, .int 0, .ref 25, .int 0, .ref 26, .ref 27, .ref 28, .ref 29, .int 0, .ref 30, .ref 31, .ref 32, .ref 33, .int 0, .ref 34, .ref 35, .ref 36, .ref 37, .ref 38, .ref 39, .ref 40, .ref 41, .null, .null]), zI 6, zI 20, zI 20, zI 20, zI 20, zI 8, zI 8, zI 8, zI 8, zI 60, zI 60, zI 60, zI 60, zI 60, zB 1000, zI 1000, zI 1000]) rfl ?_
  refine k_go 99 [146] T3_init_ok (fun K hK => ?_)
  refine hK _ ?_
  refine k_newI (N := 60) rfl d3_init_146 (Nat.le_of_ble_eq_true rfl) (Nat.le_of_ble_eq_true rfl) rfl rfl rfl rfl ?_
  refine k_heq (h' := hC F A ++ [.inr (3, [.int 0, .int 0, .int 0, .ref 25, .int 0, .ref 26, .ref 27, .ref 28, .ref 29, .int 0, .ref 30, .ref 31, .ref 32, .ref 33, .int 0, .ref 34, .ref 35, .ref 36, .ref 37, .ref 38, .ref 39, .ref 40, .ref 41, .null, .null]), zI 6, zI 20, zI 20, zI 20, zI 20, zI 8, zI 8, zI 8, zI 8, zI 60, zI 60, zI 60, zI 60, zI 60, zB 1000, zI 1000, zI 1000, zI 60]) rfl ?_
  refine k_putF (q := (3, 23)) (z := (RX3, TX3, 25)) (ty := .array .int) rfl rfl rfl rfl rfl rfl rfl (fun ad => ⟨rfl, rfl⟩) dp3_init_148 rfl rfl (by decide) ?_
  refine k_heq (h' := hC F A ++ [.inr (3, [.int 0, .int 0, .int 0, .ref 25, .int 0, .ref 26, .ref 27, .ref 28, .ref 29, .int 0, .ref 30, .ref 31, .ref 32, .ref 33, .int 0, .ref 34, .ref 35, .ref 36, .ref 37, .ref 38, .ref 39, .ref 40, .ref 41, .ref 42, .null]), zI 6, zI 20, zI 20, zI 20, zI 20, zI 8, zI 8, zI 8, zI 8, zI 60, zI 60, zI 60, zI 60, zI 60, zB 1000, zI 1000, zI 1000, zI 60]) rfl ?_
  refine k_go 99 [154] T3_init_ok (fun K hK => ?_)
  refine hK _ ?_
  refine k_newI (N := 60) rfl d3_init_154 (Nat.le_of_ble_eq_true rfl) (Nat.le_of_ble_eq_true rfl) rfl rfl rfl rfl ?_
  refine k_heq (h' := hC F A ++ [.inr (3, [.int 0, .int 0, .int 0, .ref 25, .int 0, .ref 26, .ref 27, .ref 28, .ref 29, .int 0, .ref 30, .ref 31, .ref 32, .ref 33, .int 0, .ref 34, .ref 35, .ref 36, .ref 37, .ref 38, .ref 39, .ref 40, .ref 41, .ref 42, .null]), zI 6, zI 20, zI 20, zI 20, zI 20, zI 8, zI 8, zI 8, zI 8, zI 60, zI 60, zI 60, zI 60, zI 60, zB 1000, zI 1000, zI 1000, zI 60, zI 60]) rfl ?_
  refine k_putF (q := (3, 24)) (z := (RX3, TX3, 25)) (ty := .array .int) rfl rfl rfl rfl rfl rfl rfl (fun ad => ⟨rfl, rfl⟩) dp3_init_156 rfl rfl (by decide) ?_
  refine k_heq (h' := hC F A ++ [.inr (3, [.int 0, .int 0, .int 0, .ref 25, .int 0, .ref 26, .ref 27, .ref 28, .ref 29, .int 0, .ref 30, .ref 31, .ref 32, .ref 33, .int 0, .ref 34, .ref 35, .ref 36, .ref 37, .ref 38, .ref 39, .ref 40, .ref 41, .ref 42, .ref 43]), zI 6, zI 20, zI 20, zI 20, zI 20, zI 8, zI 8, zI 8, zI 8, zI 60, zI 60, zI 60, zI 60, zI 60, zB 1000, zI 1000, zI 1000, zI 60, zI 60]) rfl ?_
  refine k_go 99 [161] T3_init_ok (fun K hK => ?_)
  refine hK _ ?_
  refine k_heq (h' := hC F A ++ hM (cF (fun _ => 0)) (cA (fun _ _ => 0))) rfl ?_
  exact lo
end IM
end
section
section L4
variable {F F1 : Nat → Int32} {A A1 : Nat → Nat → Int32} {G : Nat → Int32} {B : Nat → Nat → Int32} {o : Nat → Int64} {x y z w r : Int32}
theorem h4_day_ok (hM : k_Met Y2_day [.ref 0, .int x] (hA F A G B o) (.inl none, hA F1 A1 G B o, 0, 0)) : k_Met Y4_day [.ref 0, .int x] (hA F A G B o) (.inl (some (.int (nI 0))), hA F1 A1 G B o, 0, 0) := by
  refine k_introH (by decide +kernel) rfl (by decide) rfl rfl ?_
  refine k_go 99 [] T4_day_ok (fun K hK => ?_)
  refine hK _ ?_
  refine k_callV (Y' := Y2_day) (as := [.int x]) (st := []) hM rfl c4_7 rfl rfl rfl d4_day_2 (Nat.le_of_ble_eq_true rfl) (Nat.le_of_ble_eq_true rfl) rfl rfl ?_
  refine k_go 99 [] T4_day_ok (fun K hK => ?_)
  refine hK _ ?_
  exact k_ireturn d4_day_15 rfl rfl rfl rfl (Nat.le_of_ble_eq_true rfl) (Nat.le_of_ble_eq_true rfl)
theorem h4_day_ex1 (hM : k_Met Y2_day [.ref 0, .int x] (hA F A G B o) (.inr "java/lang/IllegalArgumentException", hA F A G B o, 1, 6)) : k_Met Y4_day [.ref 0, .int x] (hA F A G B o) (.inl (some (.int (nI 1))), hA F A G B o, 1, 6) := by
  refine k_introH (by decide +kernel) rfl (by decide) rfl rfl ?_
  refine k_go 99 [] T4_day_ok (fun K hK => ?_)
  refine hK _ ?_
  refine k_callVC (Y' := Y2_day) (as := [.int x]) (st := []) [] ((0, 5, 8, 13), "java/lang/IllegalArgumentException") [(0, 5, 11, 15)] hM rfl c4_7 rfl rfl rfl d4_day_2 (Nat.le_of_ble_eq_true rfl) (Nat.le_of_ble_eq_true rfl) rfl (by decide +kernel) (by decide +kernel) rfl rfl rfl rfl ?_
  refine k_go 99 [] T4_day_ok (fun K hK => ?_)
  refine hK _ ?_
  exact k_ireturn d4_day_10 rfl rfl rfl rfl (Nat.le_of_ble_eq_true rfl) (Nat.le_of_ble_eq_true rfl)
theorem h4_day_ex2 (hM : k_Met Y2_day [.ref 0, .int x] (hA F A G B o) (.inr "java/lang/NegativeArraySizeException", hA F A G B o, 1, 6)) : k_Met Y4_day [.ref 0, .int x] (hA F A G B o) (.inl (some (.int (nI 2))), hA F A G B o, 1, 6) := by
  refine k_introH (by decide +kernel) rfl (by decide) rfl rfl ?_
  refine k_go 99 [] T4_day_ok (fun K hK => ?_)
  refine hK _ ?_
  refine k_callVC (Y' := Y2_day) (as := [.int x]) (st := []) [((0, 5, 8, 13), "java/lang/IllegalArgumentException")] ((0, 5, 11, 15), "java/lang/NegativeArraySizeException") [] hM rfl c4_7 rfl rfl rfl d4_day_2 (Nat.le_of_ble_eq_true rfl) (Nat.le_of_ble_eq_true rfl) rfl (by decide +kernel) (by decide +kernel) rfl rfl rfl rfl ?_
  refine k_go 99 [] T4_day_ok (fun K hK => ?_)
  refine hK _ ?_
  exact k_ireturn d4_day_13 rfl rfl rfl rfl (Nat.le_of_ble_eq_true rfl) (Nat.le_of_ble_eq_true rfl)
theorem h4_unit_ok (hM : k_Met Y2_unit [.ref 0, .int x, .int y, .int z, .int w] (hA F A G B o) (.inl (some (.int r)), hA F1 A1 G B o, 0, 0)) : k_Met Y4_unit [.ref 0, .int x, .int y, .int z, .int w, .ref 44] (hA F A G B o) (.inl (some (.int (nI 0))), hA F1 A1 G B (vp_updL o 0 r.toInt64), 0, 0) := by
  refine k_introH (by decide +kernel) rfl (by decide) rfl rfl ?_
  refine k_go 99 [] T4_unit_ok (fun K hK => ?_)
  refine hK _ ?_
  refine k_callV (Y' := Y2_unit) (as := [.int x, .int y, .int z, .int w]) (st := [.int (nI 0), .ref 44]) hM rfl c4_17 rfl rfl rfl d4_unit_9 (Nat.le_of_ble_eq_true rfl) (Nat.le_of_ble_eq_true rfl) rfl rfl ?_
  refine k_go 99 [] T4_unit_ok (fun K hK => ?_)
  refine k_at (j := 0) (by decide) ?_
  refine hK _ ?_
  exact k_ireturn d4_unit_26 rfl rfl rfl rfl (Nat.le_of_ble_eq_true rfl) (Nat.le_of_ble_eq_true rfl)
theorem h4_unit_ex1 (hM : k_Met Y2_unit [.ref 0, .int x, .int y, .int z, .int w] (hA F A G B o) (.inr "java/lang/IndexOutOfBoundsException", hA F A G B o, 1, 6)) : k_Met Y4_unit [.ref 0, .int x, .int y, .int z, .int w, .ref 44] (hA F A G B o) (.inl (some (.int (nI 1))), hA F A G B o, 1, 6) := by
  refine k_introH (by decide +kernel) rfl (by decide) rfl rfl ?_
  refine k_go 99 [] T4_unit_ok (fun K hK => ?_)
  refine hK _ ?_
  refine k_callVC (Y' := Y2_unit) (as := [.int x, .int y, .int z, .int w]) (st := [.int (nI 0), .ref 44]) [] ((0, 14, 17, 21), "java/lang/IndexOutOfBoundsException") [(0, 14, 21, 23)] hM rfl c4_17 rfl rfl rfl d4_unit_9 (Nat.le_of_ble_eq_true rfl) (Nat.le_of_ble_eq_true rfl) rfl (by decide +kernel) (by decide +kernel) rfl rfl rfl rfl ?_
  refine k_go 99 [] T4_unit_ok (fun K hK => ?_)
  refine hK _ ?_
  exact k_ireturn d4_unit_20 rfl rfl rfl rfl (Nat.le_of_ble_eq_true rfl) (Nat.le_of_ble_eq_true rfl)
theorem h4_unit_ex2 (hM : k_Met Y2_unit [.ref 0, .int x, .int y, .int z, .int w] (hA F A G B o) (.inr "java/lang/UnsupportedOperationException", hA F A G B o, 1, 6)) : k_Met Y4_unit [.ref 0, .int x, .int y, .int z, .int w, .ref 44] (hA F A G B o) (.inl (some (.int (nI 2))), hA F A G B o, 1, 6) := by
  refine k_introH (by decide +kernel) rfl (by decide) rfl rfl ?_
  refine k_go 99 [] T4_unit_ok (fun K hK => ?_)
  refine hK _ ?_
  refine k_callVC (Y' := Y2_unit) (as := [.int x, .int y, .int z, .int w]) (st := [.int (nI 0), .ref 44]) [((0, 14, 17, 21), "java/lang/IndexOutOfBoundsException")] ((0, 14, 21, 23), "java/lang/UnsupportedOperationException") [] hM rfl c4_17 rfl rfl rfl d4_unit_9 (Nat.le_of_ble_eq_true rfl) (Nat.le_of_ble_eq_true rfl) rfl (by decide +kernel) (by decide +kernel) rfl rfl rfl rfl ?_
  refine k_go 99 [] T4_unit_ok (fun K hK => ?_)
  refine hK _ ?_
  exact k_ireturn d4_unit_24 rfl rfl rfl rfl (Nat.le_of_ble_eq_true rfl) (Nat.le_of_ble_eq_true rfl)
theorem h4_go_ok (hM : k_Met Y2_go [.ref 0, .int x, .int y, .int z, .int w] (hA F A G B o) (.inl none, hA F1 A1 G B o, 0, 0)) : k_Met Y4_go [.ref 0, .int x, .int y, .int z, .int w] (hA F A G B o) (.inl (some (.int (nI 0))), hA F1 A1 G B o, 0, 0) := by
  refine k_introH (by decide +kernel) rfl (by decide) rfl rfl ?_
  refine k_go 99 [] T4_go_ok (fun K hK => ?_)
  refine hK _ ?_
  refine k_callV (Y' := Y2_go) (as := [.int x, .int y, .int z, .int w]) (st := []) hM rfl c4_25 rfl rfl rfl d4_go_6 (Nat.le_of_ble_eq_true rfl) (Nat.le_of_ble_eq_true rfl) rfl rfl ?_
  refine k_go 99 [] T4_go_ok (fun K hK => ?_)
  refine hK _ ?_
  exact k_ireturn d4_go_21 rfl rfl rfl rfl (Nat.le_of_ble_eq_true rfl) (Nat.le_of_ble_eq_true rfl)
theorem h4_go_ex1 (hM : k_Met Y2_go [.ref 0, .int x, .int y, .int z, .int w] (hA F A G B o) (.inr "java/lang/IllegalArgumentException", hA F A G B o, 1, 6)) : k_Met Y4_go [.ref 0, .int x, .int y, .int z, .int w] (hA F A G B o) (.inl (some (.int (nI 1))), hA F A G B o, 1, 6) := by
  refine k_introH (by decide +kernel) rfl (by decide) rfl rfl ?_
  refine k_go 99 [] T4_go_ok (fun K hK => ?_)
  refine hK _ ?_
  refine k_callVC (Y' := Y2_go) (as := [.int x, .int y, .int z, .int w]) (st := []) [] ((0, 9, 12, 13), "java/lang/IllegalArgumentException") [(0, 9, 16, 21)] hM rfl c4_25 rfl rfl rfl d4_go_6 (Nat.le_of_ble_eq_true rfl) (Nat.le_of_ble_eq_true rfl) rfl (by decide +kernel) (by decide +kernel) rfl rfl rfl rfl ?_
  refine k_go 99 [] T4_go_ok (fun K hK => ?_)
  refine hK _ ?_
  exact k_ireturn d4_go_15 rfl rfl rfl rfl (Nat.le_of_ble_eq_true rfl) (Nat.le_of_ble_eq_true rfl)
theorem h4_go_ex2 (hM : k_Met Y2_go [.ref 0, .int x, .int y, .int z, .int w] (hA F A G B o) (.inr "java/lang/IndexOutOfBoundsException", hA F A G B o, 1, 6)) : k_Met Y4_go [.ref 0, .int x, .int y, .int z, .int w] (hA F A G B o) (.inl (some (.int (nI 2))), hA F A G B o, 1, 6) := by
  refine k_introH (by decide +kernel) rfl (by decide) rfl rfl ?_
  refine k_go 99 [] T4_go_ok (fun K hK => ?_)
  refine hK _ ?_
  refine k_callVC (Y' := Y2_go) (as := [.int x, .int y, .int z, .int w]) (st := []) [((0, 9, 12, 13), "java/lang/IllegalArgumentException")] ((0, 9, 16, 21), "java/lang/IndexOutOfBoundsException") [] hM rfl c4_25 rfl rfl rfl d4_go_6 (Nat.le_of_ble_eq_true rfl) (Nat.le_of_ble_eq_true rfl) rfl (by decide +kernel) (by decide +kernel) rfl rfl rfl rfl ?_
  refine k_go 99 [] T4_go_ok (fun K hK => ?_)
  refine hK _ ?_
  exact k_ireturn d4_go_19 rfl rfl rfl rfl (Nat.le_of_ble_eq_true rfl) (Nat.le_of_ble_eq_true rfl)
theorem h4_repeater_ok (hM : k_Met Y2_repeater [.ref 0, .int x, .int y, .int z, .int w] (hA F A G B o) (.inl (some (.int r)), hA F1 A1 G B o, 0, 0)) : k_Met Y4_repeater [.ref 0, .int x, .int y, .int z, .int w, .ref 44] (hA F A G B o) (.inl (some (.int (nI 0))), hA F1 A1 G B (vp_updL o 0 r.toInt64), 0, 0) := by
  refine k_introH (by decide +kernel) rfl (by decide) rfl rfl ?_
  refine k_go 99 [] T4_repeater_ok (fun K hK => ?_)
  refine hK _ ?_
  refine k_callV (Y' := Y2_repeater) (as := [.int x, .int y, .int z, .int w]) (st := [.int (nI 0), .ref 44]) hM rfl c4_29 rfl rfl rfl d4_repeater_9 (Nat.le_of_ble_eq_true rfl) (Nat.le_of_ble_eq_true rfl) rfl rfl ?_
  refine k_go 99 [] T4_repeater_ok (fun K hK => ?_)
  refine k_at (j := 0) (by decide) ?_
  refine hK _ ?_
  exact k_ireturn d4_repeater_26 rfl rfl rfl rfl (Nat.le_of_ble_eq_true rfl) (Nat.le_of_ble_eq_true rfl)
theorem h4_repeater_ex1 (hM : k_Met Y2_repeater [.ref 0, .int x, .int y, .int z, .int w] (hA F A G B o) (.inr "java/lang/IndexOutOfBoundsException", hA F A G B o, 1, 6)) : k_Met Y4_repeater [.ref 0, .int x, .int y, .int z, .int w, .ref 44] (hA F A G B o) (.inl (some (.int (nI 1))), hA F A G B o, 1, 6) := by
  refine k_introH (by decide +kernel) rfl (by decide) rfl rfl ?_
  refine k_go 99 [] T4_repeater_ok (fun K hK => ?_)
  refine hK _ ?_
  refine k_callVC (Y' := Y2_repeater) (as := [.int x, .int y, .int z, .int w]) (st := [.int (nI 0), .ref 44]) [] ((0, 14, 17, 21), "java/lang/IndexOutOfBoundsException") [(0, 14, 21, 23)] hM rfl c4_29 rfl rfl rfl d4_repeater_9 (Nat.le_of_ble_eq_true rfl) (Nat.le_of_ble_eq_true rfl) rfl (by decide +kernel) (by decide +kernel) rfl rfl rfl rfl ?_
  refine k_go 99 [] T4_repeater_ok (fun K hK => ?_)
  refine hK _ ?_
  exact k_ireturn d4_repeater_20 rfl rfl rfl rfl (Nat.le_of_ble_eq_true rfl) (Nat.le_of_ble_eq_true rfl)
theorem h4_repeater_ex2 (hM : k_Met Y2_repeater [.ref 0, .int x, .int y, .int z, .int w] (hA F A G B o) (.inr "java/lang/UnsupportedOperationException", hA F A G B o, 1, 6)) : k_Met Y4_repeater [.ref 0, .int x, .int y, .int z, .int w, .ref 44] (hA F A G B o) (.inl (some (.int (nI 2))), hA F A G B o, 1, 6) := by
  refine k_introH (by decide +kernel) rfl (by decide) rfl rfl ?_
  refine k_go 99 [] T4_repeater_ok (fun K hK => ?_)
  refine hK _ ?_
  refine k_callVC (Y' := Y2_repeater) (as := [.int x, .int y, .int z, .int w]) (st := [.int (nI 0), .ref 44]) [((0, 14, 17, 21), "java/lang/IndexOutOfBoundsException")] ((0, 14, 21, 23), "java/lang/UnsupportedOperationException") [] hM rfl c4_29 rfl rfl rfl d4_repeater_9 (Nat.le_of_ble_eq_true rfl) (Nat.le_of_ble_eq_true rfl) rfl (by decide +kernel) (by decide +kernel) rfl rfl rfl rfl ?_
  refine k_go 99 [] T4_repeater_ok (fun K hK => ?_)
  refine hK _ ?_
  exact k_ireturn d4_repeater_24 rfl rfl rfl rfl (Nat.le_of_ble_eq_true rfl) (Nat.le_of_ble_eq_true rfl)
theorem h4_patch_ok1 (hM : k_Met Y2_patch [.ref 0, .int x, .int y] (hA F A G B o) (.inl (some (.int 1)), hA F1 A1 G B o, 0, 0)) : k_Met Y4_patch [.ref 0, .int x, .int y, .ref 44] (hA F A G B o) (.inl (some (.int (nI 0))), hA F1 A1 G B (vp_updL o 0 (lN 1)), 0, 0) := by
  refine k_introH (by decide +kernel) rfl (by decide) rfl rfl ?_
  refine k_go 99 [] T4_patch_ok (fun K hK => ?_)
  refine hK _ ?_
  refine k_callV (Y' := Y2_patch) (as := [.int x, .int y]) (st := [.int (nI 0), .ref 44]) hM rfl c4_32 rfl rfl rfl d4_patch_5 (Nat.le_of_ble_eq_true rfl) (Nat.le_of_ble_eq_true rfl) rfl rfl ?_
  refine k_go 99 [] T4_patch_ok (fun K hK => ?_)
  refine And.intro (fun q => absurd (show (1 : Int32) = 0 from q) (by decide)) (fun _ => ?_)
  refine k_at (j := 0) (by decide) ?_
  refine hK _ ?_
  exact k_ireturn d4_patch_25 rfl rfl rfl rfl (Nat.le_of_ble_eq_true rfl) (Nat.le_of_ble_eq_true rfl)
theorem h4_patch_ok0 (hM : k_Met Y2_patch [.ref 0, .int x, .int y] (hA F A G B o) (.inl (some (.int 0)), hA F1 A1 G B o, 0, 0)) : k_Met Y4_patch [.ref 0, .int x, .int y, .ref 44] (hA F A G B o) (.inl (some (.int (nI 0))), hA F1 A1 G B (vp_updL o 0 (lN 0)), 0, 0) := by
  refine k_introH (by decide +kernel) rfl (by decide) rfl rfl ?_
  refine k_go 99 [] T4_patch_ok (fun K hK => ?_)
  refine hK _ ?_
  refine k_callV (Y' := Y2_patch) (as := [.int x, .int y]) (st := [.int (nI 0), .ref 44]) hM rfl c4_32 rfl rfl rfl d4_patch_5 (Nat.le_of_ble_eq_true rfl) (Nat.le_of_ble_eq_true rfl) rfl rfl ?_
  refine k_go 99 [] T4_patch_ok (fun K hK => ?_)
  refine And.intro (fun _ => ?_) (fun q => absurd rfl q)
  refine k_at (j := 0) (by decide) ?_
  refine hK _ ?_
  exact k_ireturn d4_patch_25 rfl rfl rfl rfl (Nat.le_of_ble_eq_true rfl) (Nat.le_of_ble_eq_true rfl)
theorem h4_patch_ex1 (hM : k_Met Y2_patch [.ref 0, .int x, .int y] (hA F A G B o) (.inr "java/lang/IndexOutOfBoundsException", hA F A G B o, 1, 6)) : k_Met Y4_patch [.ref 0, .int x, .int y, .ref 44] (hA F A G B o) (.inl (some (.int (nI 1))), hA F A G B o, 1, 6) := by
  refine k_introH (by decide +kernel) rfl (by decide) rfl rfl ?_
  refine k_go 99 [] T4_patch_ok (fun K hK => ?_)
  refine hK _ ?_
  refine k_callVC (Y' := Y2_patch) (as := [.int x, .int y]) (st := [.int (nI 0), .ref 44]) [] ((0, 17, 20, 21), "java/lang/IndexOutOfBoundsException") [] hM rfl c4_32 rfl rfl rfl d4_patch_5 (Nat.le_of_ble_eq_true rfl) (Nat.le_of_ble_eq_true rfl) rfl (by decide +kernel) (by decide +kernel) rfl rfl rfl rfl ?_
  refine k_go 99 [] T4_patch_ok (fun K hK => ?_)
  refine hK _ ?_
  exact k_ireturn d4_patch_23 rfl rfl rfl rfl (Nat.le_of_ble_eq_true rfl) (Nat.le_of_ble_eq_true rfl)
theorem h4_limit_ok (hM : k_Met Y2_limit [.ref 0, .int x] (hA F A G B o) (.inl none, hA F1 A1 G B o, 0, 0)) : k_Met Y4_limit [.ref 0, .int x] (hA F A G B o) (.inl (some (.int (nI 0))), hA F1 A1 G B o, 0, 0) := by
  refine k_introH (by decide +kernel) rfl (by decide) rfl rfl ?_
  refine k_go 99 [] T4_limit_ok (fun K hK => ?_)
  refine hK _ ?_
  refine k_callV (Y' := Y2_limit) (as := [.int x]) (st := []) hM rfl c4_36 rfl rfl rfl d4_limit_2 (Nat.le_of_ble_eq_true rfl) (Nat.le_of_ble_eq_true rfl) rfl rfl ?_
  refine k_go 99 [] T4_limit_ok (fun K hK => ?_)
  refine hK _ ?_
  exact k_ireturn d4_limit_12 rfl rfl rfl rfl (Nat.le_of_ble_eq_true rfl) (Nat.le_of_ble_eq_true rfl)
theorem h4_limit_ex1 (hM : k_Met Y2_limit [.ref 0, .int x] (hA F A G B o) (.inr "java/lang/IndexOutOfBoundsException", hA F A G B o, 1, 6)) : k_Met Y4_limit [.ref 0, .int x] (hA F A G B o) (.inl (some (.int (nI 1))), hA F A G B o, 1, 6) := by
  refine k_introH (by decide +kernel) rfl (by decide) rfl rfl ?_
  refine k_go 99 [] T4_limit_ok (fun K hK => ?_)
  refine hK _ ?_
  refine k_callVC (Y' := Y2_limit) (as := [.int x]) (st := []) [] ((0, 5, 8, 21), "java/lang/IndexOutOfBoundsException") [] hM rfl c4_36 rfl rfl rfl d4_limit_2 (Nat.le_of_ble_eq_true rfl) (Nat.le_of_ble_eq_true rfl) rfl (by decide +kernel) (by decide +kernel) rfl rfl rfl rfl ?_
  refine k_go 99 [] T4_limit_ok (fun K hK => ?_)
  refine hK _ ?_
  exact k_ireturn d4_limit_10 rfl rfl rfl rfl (Nat.le_of_ble_eq_true rfl) (Nat.le_of_ble_eq_true rfl)
theorem h4_speak_ok (hM : k_Met Y2_speak [.ref 0, .int x, .int y, .int z, .int w] (hA F A G B o) (.inl (some (.int r)), hA F1 A1 G B o, 0, 0)) : k_Met Y4_speak [.ref 0, .int x, .int y, .int z, .int w, .ref 44] (hA F A G B o) (.inl (some (.int (nI 0))), hA F1 A1 G B (vp_updL o 0 r.toInt64), 0, 0) := by
  refine k_introH (by decide +kernel) rfl (by decide) rfl rfl ?_
  refine k_go 99 [] T4_speak_ok (fun K hK => ?_)
  refine hK _ ?_
  refine k_callV (Y' := Y2_speak) (as := [.int x, .int y, .int z, .int w]) (st := [.int (nI 0), .ref 44]) hM rfl c4_39 rfl rfl rfl d4_speak_9 (Nat.le_of_ble_eq_true rfl) (Nat.le_of_ble_eq_true rfl) rfl rfl ?_
  refine k_go 99 [] T4_speak_ok (fun K hK => ?_)
  refine k_at (j := 0) (by decide) ?_
  refine hK _ ?_
  exact k_ireturn d4_speak_34 rfl rfl rfl rfl (Nat.le_of_ble_eq_true rfl) (Nat.le_of_ble_eq_true rfl)
theorem h4_speak_ex1 (hM : k_Met Y2_speak [.ref 0, .int x, .int y, .int z, .int w] (hA F A G B o) (.inr "java/lang/IllegalArgumentException", hA F A G B o, 1, 6)) : k_Met Y4_speak [.ref 0, .int x, .int y, .int z, .int w, .ref 44] (hA F A G B o) (.inl (some (.int (nI 1))), hA F A G B o, 1, 6) := by
  refine k_introH (by decide +kernel) rfl (by decide) rfl rfl ?_
  refine k_go 99 [] T4_speak_ok (fun K hK => ?_)
  refine hK _ ?_
  refine k_callVC (Y' := Y2_speak) (as := [.int x, .int y, .int z, .int w]) (st := [.int (nI 0), .ref 44]) [] ((0, 14, 17, 13), "java/lang/IllegalArgumentException") [(0, 14, 21, 21), (0, 14, 25, 42), (0, 14, 29, 23)] hM rfl c4_39 rfl rfl rfl d4_speak_9 (Nat.le_of_ble_eq_true rfl) (Nat.le_of_ble_eq_true rfl) rfl (by decide +kernel) (by decide +kernel) rfl rfl rfl rfl ?_
  refine k_go 99 [] T4_speak_ok (fun K hK => ?_)
  refine hK _ ?_
  exact k_ireturn d4_speak_20 rfl rfl rfl rfl (Nat.le_of_ble_eq_true rfl) (Nat.le_of_ble_eq_true rfl)
theorem h4_speak_ex2 (hM : k_Met Y2_speak [.ref 0, .int x, .int y, .int z, .int w] (hA F A G B o) (.inr "java/lang/IndexOutOfBoundsException", hA F A G B o, 1, 6)) : k_Met Y4_speak [.ref 0, .int x, .int y, .int z, .int w, .ref 44] (hA F A G B o) (.inl (some (.int (nI 2))), hA F A G B o, 1, 6) := by
  refine k_introH (by decide +kernel) rfl (by decide) rfl rfl ?_
  refine k_go 99 [] T4_speak_ok (fun K hK => ?_)
  refine hK _ ?_
  refine k_callVC (Y' := Y2_speak) (as := [.int x, .int y, .int z, .int w]) (st := [.int (nI 0), .ref 44]) [((0, 14, 17, 13), "java/lang/IllegalArgumentException")] ((0, 14, 21, 21), "java/lang/IndexOutOfBoundsException") [(0, 14, 25, 42), (0, 14, 29, 23)] hM rfl c4_39 rfl rfl rfl d4_speak_9 (Nat.le_of_ble_eq_true rfl) (Nat.le_of_ble_eq_true rfl) rfl (by decide +kernel) (by decide +kernel) rfl rfl rfl rfl ?_
  refine k_go 99 [] T4_speak_ok (fun K hK => ?_)
  refine hK _ ?_
  exact k_ireturn d4_speak_24 rfl rfl rfl rfl (Nat.le_of_ble_eq_true rfl) (Nat.le_of_ble_eq_true rfl)
theorem h4_speak_ex3 (hM : k_Met Y2_speak [.ref 0, .int x, .int y, .int z, .int w] (hA F A G B o) (.inr "java/lang/IllegalStateException", hA F A G B o, 1, 6)) : k_Met Y4_speak [.ref 0, .int x, .int y, .int z, .int w, .ref 44] (hA F A G B o) (.inl (some (.int (nI 3))), hA F A G B o, 1, 6) := by
  refine k_introH (by decide +kernel) rfl (by decide) rfl rfl ?_
  refine k_go 99 [] T4_speak_ok (fun K hK => ?_)
  refine hK _ ?_
  refine k_callVC (Y' := Y2_speak) (as := [.int x, .int y, .int z, .int w]) (st := [.int (nI 0), .ref 44]) [((0, 14, 17, 13), "java/lang/IllegalArgumentException"), ((0, 14, 21, 21), "java/lang/IndexOutOfBoundsException")] ((0, 14, 25, 42), "java/lang/IllegalStateException") [(0, 14, 29, 23)] hM rfl c4_39 rfl rfl rfl d4_speak_9 (Nat.le_of_ble_eq_true rfl) (Nat.le_of_ble_eq_true rfl) rfl (by decide +kernel) (by decide +kernel) rfl rfl rfl rfl ?_
  refine k_go 99 [] T4_speak_ok (fun K hK => ?_)
  refine hK _ ?_
  exact k_ireturn d4_speak_28 rfl rfl rfl rfl (Nat.le_of_ble_eq_true rfl) (Nat.le_of_ble_eq_true rfl)
theorem h4_speak_ex4 (hM : k_Met Y2_speak [.ref 0, .int x, .int y, .int z, .int w] (hA F A G B o) (.inr "java/lang/UnsupportedOperationException", hA F A G B o, 1, 6)) : k_Met Y4_speak [.ref 0, .int x, .int y, .int z, .int w, .ref 44] (hA F A G B o) (.inl (some (.int (nI 4))), hA F A G B o, 1, 6) := by
  refine k_introH (by decide +kernel) rfl (by decide) rfl rfl ?_
  refine k_go 99 [] T4_speak_ok (fun K hK => ?_)
  refine hK _ ?_
  refine k_callVC (Y' := Y2_speak) (as := [.int x, .int y, .int z, .int w]) (st := [.int (nI 0), .ref 44]) [((0, 14, 17, 13), "java/lang/IllegalArgumentException"), ((0, 14, 21, 21), "java/lang/IndexOutOfBoundsException"), ((0, 14, 25, 42), "java/lang/IllegalStateException")] ((0, 14, 29, 23), "java/lang/UnsupportedOperationException") [] hM rfl c4_39 rfl rfl rfl d4_speak_9 (Nat.le_of_ble_eq_true rfl) (Nat.le_of_ble_eq_true rfl) rfl (by decide +kernel) (by decide +kernel) rfl rfl rfl rfl ?_
  refine k_go 99 [] T4_speak_ok (fun K hK => ?_)
  refine hK _ ?_
  exact k_ireturn d4_speak_32 rfl rfl rfl rfl (Nat.le_of_ble_eq_true rfl) (Nat.le_of_ble_eq_true rfl)
theorem h4_relay_ok (hM : k_Met Y2_relay [.ref 0, .int x, .int y, .int z, .int w] (hA F A G B o) (.inl (some (.int r)), hA F1 A1 G B o, 0, 0)) : k_Met Y4_relay [.ref 0, .int x, .int y, .int z, .int w, .ref 44] (hA F A G B o) (.inl (some (.int (nI 0))), hA F1 A1 G B (vp_updL o 0 r.toInt64), 0, 0) := by
  refine k_introH (by decide +kernel) rfl (by decide) rfl rfl ?_
  refine k_go 99 [] T4_relay_ok (fun K hK => ?_)
  refine hK _ ?_
  refine k_callV (Y' := Y2_relay) (as := [.int x, .int y, .int z, .int w]) (st := [.int (nI 0), .ref 44]) hM rfl c4_44 rfl rfl rfl d4_relay_9 (Nat.le_of_ble_eq_true rfl) (Nat.le_of_ble_eq_true rfl) rfl rfl ?_
  refine k_go 99 [] T4_relay_ok (fun K hK => ?_)
  refine k_at (j := 0) (by decide) ?_
  refine hK _ ?_
  exact k_ireturn d4_relay_34 rfl rfl rfl rfl (Nat.le_of_ble_eq_true rfl) (Nat.le_of_ble_eq_true rfl)
theorem h4_relay_ex1 (hM : k_Met Y2_relay [.ref 0, .int x, .int y, .int z, .int w] (hA F A G B o) (.inr "java/lang/IllegalArgumentException", hA F A G B o, 1, 6)) : k_Met Y4_relay [.ref 0, .int x, .int y, .int z, .int w, .ref 44] (hA F A G B o) (.inl (some (.int (nI 1))), hA F A G B o, 1, 6) := by
  refine k_introH (by decide +kernel) rfl (by decide) rfl rfl ?_
  refine k_go 99 [] T4_relay_ok (fun K hK => ?_)
  refine hK _ ?_
  refine k_callVC (Y' := Y2_relay) (as := [.int x, .int y, .int z, .int w]) (st := [.int (nI 0), .ref 44]) [] ((0, 14, 17, 13), "java/lang/IllegalArgumentException") [(0, 14, 21, 21), (0, 14, 25, 42), (0, 14, 29, 23)] hM rfl c4_44 rfl rfl rfl d4_relay_9 (Nat.le_of_ble_eq_true rfl) (Nat.le_of_ble_eq_true rfl) rfl (by decide +kernel) (by decide +kernel) rfl rfl rfl rfl ?_
  refine k_go 99 [] T4_relay_ok (fun K hK => ?_)
  refine hK _ ?_
  exact k_ireturn d4_relay_20 rfl rfl rfl rfl (Nat.le_of_ble_eq_true rfl) (Nat.le_of_ble_eq_true rfl)
theorem h4_relay_ex2 (hM : k_Met Y2_relay [.ref 0, .int x, .int y, .int z, .int w] (hA F A G B o) (.inr "java/lang/IndexOutOfBoundsException", hA F A G B o, 1, 6)) : k_Met Y4_relay [.ref 0, .int x, .int y, .int z, .int w, .ref 44] (hA F A G B o) (.inl (some (.int (nI 2))), hA F A G B o, 1, 6) := by
  refine k_introH (by decide +kernel) rfl (by decide) rfl rfl ?_
  refine k_go 99 [] T4_relay_ok (fun K hK => ?_)
  refine hK _ ?_
  refine k_callVC (Y' := Y2_relay) (as := [.int x, .int y, .int z, .int w]) (st := [.int (nI 0), .ref 44]) [((0, 14, 17, 13), "java/lang/IllegalArgumentException")] ((0, 14, 21, 21), "java/lang/IndexOutOfBoundsException") [(0, 14, 25, 42), (0, 14, 29, 23)] hM rfl c4_44 rfl rfl rfl d4_relay_9 (Nat.le_of_ble_eq_true rfl) (Nat.le_of_ble_eq_true rfl) rfl (by decide +kernel) (by decide +kernel) rfl rfl rfl rfl ?_
  refine k_go 99 [] T4_relay_ok (fun K hK => ?_)
  refine hK _ ?_
  exact k_ireturn d4_relay_24 rfl rfl rfl rfl (Nat.le_of_ble_eq_true rfl) (Nat.le_of_ble_eq_true rfl)
theorem h4_relay_ex3 (hM : k_Met Y2_relay [.ref 0, .int x, .int y, .int z, .int w] (hA F A G B o) (.inr "java/lang/IllegalStateException", hA F A G B o, 1, 6)) : k_Met Y4_relay [.ref 0, .int x, .int y, .int z, .int w, .ref 44] (hA F A G B o) (.inl (some (.int (nI 3))), hA F A G B o, 1, 6) := by
  refine k_introH (by decide +kernel) rfl (by decide) rfl rfl ?_
  refine k_go 99 [] T4_relay_ok (fun K hK => ?_)
  refine hK _ ?_
  refine k_callVC (Y' := Y2_relay) (as := [.int x, .int y, .int z, .int w]) (st := [.int (nI 0), .ref 44]) [((0, 14, 17, 13), "java/lang/IllegalArgumentException"), ((0, 14, 21, 21), "java/lang/IndexOutOfBoundsException")] ((0, 14, 25, 42), "java/lang/IllegalStateException") [(0, 14, 29, 23)] hM rfl c4_44 rfl rfl rfl d4_relay_9 (Nat.le_of_ble_eq_true rfl) (Nat.le_of_ble_eq_true rfl) rfl (by decide +kernel) (by decide +kernel) rfl rfl rfl rfl ?_
  refine k_go 99 [] T4_relay_ok (fun K hK => ?_)
  refine hK _ ?_
  exact k_ireturn d4_relay_28 rfl rfl rfl rfl (Nat.le_of_ble_eq_true rfl) (Nat.le_of_ble_eq_true rfl)
theorem h4_relay_ex4 (hM : k_Met Y2_relay [.ref 0, .int x, .int y, .int z, .int w] (hA F A G B o) (.inr "java/lang/UnsupportedOperationException", hA F A G B o, 1, 6)) : k_Met Y4_relay [.ref 0, .int x, .int y, .int z, .int w, .ref 44] (hA F A G B o) (.inl (some (.int (nI 4))), hA F A G B o, 1, 6) := by
  refine k_introH (by decide +kernel) rfl (by decide) rfl rfl ?_
  refine k_go 99 [] T4_relay_ok (fun K hK => ?_)
  refine hK _ ?_
  refine k_callVC (Y' := Y2_relay) (as := [.int x, .int y, .int z, .int w]) (st := [.int (nI 0), .ref 44]) [((0, 14, 17, 13), "java/lang/IllegalArgumentException"), ((0, 14, 21, 21), "java/lang/IndexOutOfBoundsException"), ((0, 14, 25, 42), "java/lang/IllegalStateException")] ((0, 14, 29, 23), "java/lang/UnsupportedOperationException") [] hM rfl c4_44 rfl rfl rfl d4_relay_9 (Nat.le_of_ble_eq_true rfl) (Nat.le_of_ble_eq_true rfl) rfl (by decide +kernel) (by decide +kernel) rfl rfl rfl rfl ?_
  refine k_go 99 [] T4_relay_ok (fun K hK => ?_)
  refine hK _ ?_
  exact k_ireturn d4_relay_32 rfl rfl rfl rfl (Nat.le_of_ble_eq_true rfl) (Nat.le_of_ble_eq_true rfl)
theorem h4_lose_ok1 (hM : k_Met Y2_lose [.ref 0, .int x] (hA F A G B o) (.inl (some (.int 1)), hA F1 A1 G B o, 0, 0)) : k_Met Y4_lose [.ref 0, .int x, .ref 44] (hA F A G B o) (.inl (some (.int (nI 0))), hA F1 A1 G B (vp_updL o 0 (lN 1)), 0, 0) := by
  refine k_introH (by decide +kernel) rfl (by decide) rfl rfl ?_
  refine k_go 99 [] T4_lose_ok (fun K hK => ?_)
  refine hK _ ?_
  refine k_callV (Y' := Y2_lose) (as := [.int x]) (st := [.int (nI 0), .ref 44]) hM rfl c4_47 rfl rfl rfl d4_lose_4 (Nat.le_of_ble_eq_true rfl) (Nat.le_of_ble_eq_true rfl) rfl rfl ?_
  refine k_go 99 [] T4_lose_ok (fun K hK => ?_)
  refine And.intro (fun q => absurd (show (1 : Int32) = 0 from q) (by decide)) (fun _ => ?_)
  refine k_at (j := 0) (by decide) ?_
  refine hK _ ?_
  exact k_ireturn d4_lose_23 rfl rfl rfl rfl (Nat.le_of_ble_eq_true rfl) (Nat.le_of_ble_eq_true rfl)
theorem h4_lose_ok0 (hM : k_Met Y2_lose [.ref 0, .int x] (hA F A G B o) (.inl (some (.int 0)), hA F1 A1 G B o, 0, 0)) : k_Met Y4_lose [.ref 0, .int x, .ref 44] (hA F A G B o) (.inl (some (.int (nI 0))), hA F1 A1 G B (vp_updL o 0 (lN 0)), 0, 0) := by
  refine k_introH (by decide +kernel) rfl (by decide) rfl rfl ?_
  refine k_go 99 [] T4_lose_ok (fun K hK => ?_)
  refine hK _ ?_
  refine k_callV (Y' := Y2_lose) (as := [.int x]) (st := [.int (nI 0), .ref 44]) hM rfl c4_47 rfl rfl rfl d4_lose_4 (Nat.le_of_ble_eq_true rfl) (Nat.le_of_ble_eq_true rfl) rfl rfl ?_
  refine k_go 99 [] T4_lose_ok (fun K hK => ?_)
  refine And.intro (fun _ => ?_) (fun q => absurd rfl q)
  refine k_at (j := 0) (by decide) ?_
  refine hK _ ?_
  exact k_ireturn d4_lose_23 rfl rfl rfl rfl (Nat.le_of_ble_eq_true rfl) (Nat.le_of_ble_eq_true rfl)
theorem h4_lose_ex1 (hM : k_Met Y2_lose [.ref 0, .int x] (hA F A G B o) (.inr "java/lang/ArrayIndexOutOfBoundsException", hA F A G B o, 1, 6)) : k_Met Y4_lose [.ref 0, .int x, .ref 44] (hA F A G B o) (.inl (some (.int (nI 1))), hA F A G B o, 1, 6) := by
  refine k_introH (by decide +kernel) rfl (by decide) rfl rfl ?_
  refine k_go 99 [] T4_lose_ok (fun K hK => ?_)
  refine hK _ ?_
  refine k_callVC (Y' := Y2_lose) (as := [.int x]) (st := [.int (nI 0), .ref 44]) [] ((0, 16, 19, 51), "java/lang/ArrayIndexOutOfBoundsException") [] hM rfl c4_47 rfl rfl rfl d4_lose_4 (Nat.le_of_ble_eq_true rfl) (Nat.le_of_ble_eq_true rfl) rfl (by decide +kernel) (by decide +kernel) rfl rfl rfl rfl ?_
  refine k_go 99 [] T4_lose_ok (fun K hK => ?_)
  refine hK _ ?_
  exact k_ireturn d4_lose_21 rfl rfl rfl rfl (Nat.le_of_ble_eq_true rfl) (Nat.le_of_ble_eq_true rfl)
theorem h4_hears_ok (hM : k_Met Y2_hears [.ref 0, .int x, .int y] (hA F A G B o) (.inl (some (.int r)), hA F1 A1 G B o, 0, 0)) : k_Met Y4_hears [.ref 0, .int x, .int y, .ref 44] (hA F A G B o) (.inl (some (.int (nI 0))), hA F1 A1 G B (vp_updL o 0 r.toInt64), 0, 0) := by
  refine k_introH (by decide +kernel) rfl (by decide) rfl rfl ?_
  refine k_go 99 [] T4_hears_ok (fun K hK => ?_)
  refine hK _ ?_
  refine k_callV (Y' := Y2_hears) (as := [.int x, .int y]) (st := [.int (nI 0), .ref 44]) hM rfl c4_53 rfl rfl rfl d4_hears_5 (Nat.le_of_ble_eq_true rfl) (Nat.le_of_ble_eq_true rfl) rfl rfl ?_
  refine k_go 99 [] T4_hears_ok (fun K hK => ?_)
  refine k_at (j := 0) (by decide) ?_
  refine hK _ ?_
  exact k_ireturn d4_hears_22 rfl rfl rfl rfl (Nat.le_of_ble_eq_true rfl) (Nat.le_of_ble_eq_true rfl)
theorem h4_hears_ex1 (hM : k_Met Y2_hears [.ref 0, .int x, .int y] (hA F A G B o) (.inr "java/lang/IllegalArgumentException", hA F A G B o, 1, 6)) : k_Met Y4_hears [.ref 0, .int x, .int y, .ref 44] (hA F A G B o) (.inl (some (.int (nI 1))), hA F A G B o, 1, 6) := by
  refine k_introH (by decide +kernel) rfl (by decide) rfl rfl ?_
  refine k_go 99 [] T4_hears_ok (fun K hK => ?_)
  refine hK _ ?_
  refine k_callVC (Y' := Y2_hears) (as := [.int x, .int y]) (st := [.int (nI 0), .ref 44]) [] ((0, 10, 13, 13), "java/lang/IllegalArgumentException") [(0, 10, 17, 51)] hM rfl c4_53 rfl rfl rfl d4_hears_5 (Nat.le_of_ble_eq_true rfl) (Nat.le_of_ble_eq_true rfl) rfl (by decide +kernel) (by decide +kernel) rfl rfl rfl rfl ?_
  refine k_go 99 [] T4_hears_ok (fun K hK => ?_)
  refine hK _ ?_
  exact k_ireturn d4_hears_16 rfl rfl rfl rfl (Nat.le_of_ble_eq_true rfl) (Nat.le_of_ble_eq_true rfl)
theorem h4_hears_ex2 (hM : k_Met Y2_hears [.ref 0, .int x, .int y] (hA F A G B o) (.inr "java/lang/ArrayIndexOutOfBoundsException", hA F A G B o, 1, 6)) : k_Met Y4_hears [.ref 0, .int x, .int y, .ref 44] (hA F A G B o) (.inl (some (.int (nI 2))), hA F A G B o, 1, 6) := by
  refine k_introH (by decide +kernel) rfl (by decide) rfl rfl ?_
  refine k_go 99 [] T4_hears_ok (fun K hK => ?_)
  refine hK _ ?_
  refine k_callVC (Y' := Y2_hears) (as := [.int x, .int y]) (st := [.int (nI 0), .ref 44]) [((0, 10, 13, 13), "java/lang/IllegalArgumentException")] ((0, 10, 17, 51), "java/lang/ArrayIndexOutOfBoundsException") [] hM rfl c4_53 rfl rfl rfl d4_hears_5 (Nat.le_of_ble_eq_true rfl) (Nat.le_of_ble_eq_true rfl) rfl (by decide +kernel) (by decide +kernel) rfl rfl rfl rfl ?_
  refine k_go 99 [] T4_hears_ok (fun K hK => ?_)
  refine hK _ ?_
  exact k_ireturn d4_hears_20 rfl rfl rfl rfl (Nat.le_of_ble_eq_true rfl) (Nat.le_of_ble_eq_true rfl)
theorem h4_on_ok (hM : k_Met Y2_on [.ref 0, .int x, .int y] (hA F A G B o) (.inl (some (.int r)), hA F1 A1 G B o, 0, 0)) : k_Met Y4_on [.ref 0, .int x, .int y, .ref 44] (hA F A G B o) (.inl (some (.int (nI 0))), hA F1 A1 G B (vp_updL o 0 r.toInt64), 0, 0) := by
  refine k_introH (by decide +kernel) rfl (by decide) rfl rfl ?_
  refine k_go 99 [] T4_on_ok (fun K hK => ?_)
  refine hK _ ?_
  refine k_callV (Y' := Y2_on) (as := [.int x, .int y]) (st := [.int (nI 0), .ref 44]) hM rfl c4_57 rfl rfl rfl d4_on_5 (Nat.le_of_ble_eq_true rfl) (Nat.le_of_ble_eq_true rfl) rfl rfl ?_
  refine k_go 99 [] T4_on_ok (fun K hK => ?_)
  refine k_at (j := 0) (by decide) ?_
  refine hK _ ?_
  exact k_ireturn d4_on_22 rfl rfl rfl rfl (Nat.le_of_ble_eq_true rfl) (Nat.le_of_ble_eq_true rfl)
theorem h4_on_ex1 (hM : k_Met Y2_on [.ref 0, .int x, .int y] (hA F A G B o) (.inr "java/lang/IllegalArgumentException", hA F A G B o, 1, 6)) : k_Met Y4_on [.ref 0, .int x, .int y, .ref 44] (hA F A G B o) (.inl (some (.int (nI 1))), hA F A G B o, 1, 6) := by
  refine k_introH (by decide +kernel) rfl (by decide) rfl rfl ?_
  refine k_go 99 [] T4_on_ok (fun K hK => ?_)
  refine hK _ ?_
  refine k_callVC (Y' := Y2_on) (as := [.int x, .int y]) (st := [.int (nI 0), .ref 44]) [] ((0, 10, 13, 13), "java/lang/IllegalArgumentException") [(0, 10, 17, 51)] hM rfl c4_57 rfl rfl rfl d4_on_5 (Nat.le_of_ble_eq_true rfl) (Nat.le_of_ble_eq_true rfl) rfl (by decide +kernel) (by decide +kernel) rfl rfl rfl rfl ?_
  refine k_go 99 [] T4_on_ok (fun K hK => ?_)
  refine hK _ ?_
  exact k_ireturn d4_on_16 rfl rfl rfl rfl (Nat.le_of_ble_eq_true rfl) (Nat.le_of_ble_eq_true rfl)
theorem h4_on_ex2 (hM : k_Met Y2_on [.ref 0, .int x, .int y] (hA F A G B o) (.inr "java/lang/ArrayIndexOutOfBoundsException", hA F A G B o, 1, 6)) : k_Met Y4_on [.ref 0, .int x, .int y, .ref 44] (hA F A G B o) (.inl (some (.int (nI 2))), hA F A G B o, 1, 6) := by
  refine k_introH (by decide +kernel) rfl (by decide) rfl rfl ?_
  refine k_go 99 [] T4_on_ok (fun K hK => ?_)
  refine hK _ ?_
  refine k_callVC (Y' := Y2_on) (as := [.int x, .int y]) (st := [.int (nI 0), .ref 44]) [((0, 10, 13, 13), "java/lang/IllegalArgumentException")] ((0, 10, 17, 51), "java/lang/ArrayIndexOutOfBoundsException") [] hM rfl c4_57 rfl rfl rfl d4_on_5 (Nat.le_of_ble_eq_true rfl) (Nat.le_of_ble_eq_true rfl) rfl (by decide +kernel) (by decide +kernel) rfl rfl rfl rfl ?_
  refine k_go 99 [] T4_on_ok (fun K hK => ?_)
  refine hK _ ?_
  exact k_ireturn d4_on_20 rfl rfl rfl rfl (Nat.le_of_ble_eq_true rfl) (Nat.le_of_ble_eq_true rfl)
theorem h4_ended_ok (hM : k_Met Y2_ended [.ref 0, .int x] (hA F A G B o) (.inl (some (.int r)), hA F1 A1 G B o, 0, 0)) : k_Met Y4_ended [.ref 0, .int x, .ref 44] (hA F A G B o) (.inl (some (.int (nI 0))), hA F1 A1 G B (vp_updL o 0 r.toInt64), 0, 0) := by
  refine k_introH (by decide +kernel) rfl (by decide) rfl rfl ?_
  refine k_go 99 [] T4_ended_ok (fun K hK => ?_)
  refine hK _ ?_
  refine k_callV (Y' := Y2_ended) (as := [.int x]) (st := [.int (nI 0), .ref 44]) hM rfl c4_60 rfl rfl rfl d4_ended_4 (Nat.le_of_ble_eq_true rfl) (Nat.le_of_ble_eq_true rfl) rfl rfl ?_
  refine k_go 99 [] T4_ended_ok (fun K hK => ?_)
  refine k_at (j := 0) (by decide) ?_
  refine hK _ ?_
  exact k_ireturn d4_ended_16 rfl rfl rfl rfl (Nat.le_of_ble_eq_true rfl) (Nat.le_of_ble_eq_true rfl)
theorem h4_ended_ex1 (hM : k_Met Y2_ended [.ref 0, .int x] (hA F A G B o) (.inr "java/lang/IllegalArgumentException", hA F A G B o, 1, 6)) : k_Met Y4_ended [.ref 0, .int x, .ref 44] (hA F A G B o) (.inl (some (.int (nI 1))), hA F A G B o, 1, 6) := by
  refine k_introH (by decide +kernel) rfl (by decide) rfl rfl ?_
  refine k_go 99 [] T4_ended_ok (fun K hK => ?_)
  refine hK _ ?_
  refine k_callVC (Y' := Y2_ended) (as := [.int x]) (st := [.int (nI 0), .ref 44]) [] ((0, 9, 12, 13), "java/lang/IllegalArgumentException") [] hM rfl c4_60 rfl rfl rfl d4_ended_4 (Nat.le_of_ble_eq_true rfl) (Nat.le_of_ble_eq_true rfl) rfl (by decide +kernel) (by decide +kernel) rfl rfl rfl rfl ?_
  refine k_go 99 [] T4_ended_ok (fun K hK => ?_)
  refine hK _ ?_
  exact k_ireturn d4_ended_14 rfl rfl rfl rfl (Nat.le_of_ble_eq_true rfl) (Nat.le_of_ble_eq_true rfl)
theorem h4_length_ok (hM : k_Met Y2_length [.ref 0, .int x] (hA F A G B o) (.inl (some (.int r)), hA F1 A1 G B o, 0, 0)) : k_Met Y4_length [.ref 0, .int x, .ref 44] (hA F A G B o) (.inl (some (.int (nI 0))), hA F1 A1 G B (vp_updL o 0 r.toInt64), 0, 0) := by
  refine k_introH (by decide +kernel) rfl (by decide) rfl rfl ?_
  refine k_go 99 [] T4_length_ok (fun K hK => ?_)
  refine hK _ ?_
  refine k_callV (Y' := Y2_length) (as := [.int x]) (st := [.int (nI 0), .ref 44]) hM rfl c4_64 rfl rfl rfl d4_length_4 (Nat.le_of_ble_eq_true rfl) (Nat.le_of_ble_eq_true rfl) rfl rfl ?_
  refine k_go 99 [] T4_length_ok (fun K hK => ?_)
  refine k_at (j := 0) (by decide) ?_
  refine hK _ ?_
  exact k_ireturn d4_length_16 rfl rfl rfl rfl (Nat.le_of_ble_eq_true rfl) (Nat.le_of_ble_eq_true rfl)
theorem h4_length_ex1 (hM : k_Met Y2_length [.ref 0, .int x] (hA F A G B o) (.inr "java/lang/IllegalArgumentException", hA F A G B o, 1, 6)) : k_Met Y4_length [.ref 0, .int x, .ref 44] (hA F A G B o) (.inl (some (.int (nI 1))), hA F A G B o, 1, 6) := by
  refine k_introH (by decide +kernel) rfl (by decide) rfl rfl ?_
  refine k_go 99 [] T4_length_ok (fun K hK => ?_)
  refine hK _ ?_
  refine k_callVC (Y' := Y2_length) (as := [.int x]) (st := [.int (nI 0), .ref 44]) [] ((0, 9, 12, 13), "java/lang/IllegalArgumentException") [] hM rfl c4_64 rfl rfl rfl d4_length_4 (Nat.le_of_ble_eq_true rfl) (Nat.le_of_ble_eq_true rfl) rfl (by decide +kernel) (by decide +kernel) rfl rfl rfl rfl ?_
  refine k_go 99 [] T4_length_ok (fun K hK => ?_)
  refine hK _ ?_
  exact k_ireturn d4_length_14 rfl rfl rfl rfl (Nat.le_of_ble_eq_true rfl) (Nat.le_of_ble_eq_true rfl)
theorem h4_unheard_ok (hM : k_Met Y2_unheard [.ref 0, .int x, .int y] (hA F A G B o) (.inl (some (.int r)), hA F1 A1 G B o, 0, 0)) : k_Met Y4_unheard [.ref 0, .int x, .int y, .ref 44] (hA F A G B o) (.inl (some (.int (nI 0))), hA F1 A1 G B (vp_updL o 0 r.toInt64), 0, 0) := by
  refine k_introH (by decide +kernel) rfl (by decide) rfl rfl ?_
  refine k_go 99 [] T4_unheard_ok (fun K hK => ?_)
  refine hK _ ?_
  refine k_callV (Y' := Y2_unheard) (as := [.int x, .int y]) (st := [.int (nI 0), .ref 44]) hM rfl c4_67 rfl rfl rfl d4_unheard_5 (Nat.le_of_ble_eq_true rfl) (Nat.le_of_ble_eq_true rfl) rfl rfl ?_
  refine k_go 99 [] T4_unheard_ok (fun K hK => ?_)
  refine k_at (j := 0) (by decide) ?_
  refine hK _ ?_
  exact k_ireturn d4_unheard_22 rfl rfl rfl rfl (Nat.le_of_ble_eq_true rfl) (Nat.le_of_ble_eq_true rfl)
theorem h4_unheard_ex1 (hM : k_Met Y2_unheard [.ref 0, .int x, .int y] (hA F A G B o) (.inr "java/lang/IllegalArgumentException", hA F A G B o, 1, 6)) : k_Met Y4_unheard [.ref 0, .int x, .int y, .ref 44] (hA F A G B o) (.inl (some (.int (nI 1))), hA F A G B o, 1, 6) := by
  refine k_introH (by decide +kernel) rfl (by decide) rfl rfl ?_
  refine k_go 99 [] T4_unheard_ok (fun K hK => ?_)
  refine hK _ ?_
  refine k_callVC (Y' := Y2_unheard) (as := [.int x, .int y]) (st := [.int (nI 0), .ref 44]) [] ((0, 10, 13, 13), "java/lang/IllegalArgumentException") [(0, 10, 17, 21)] hM rfl c4_67 rfl rfl rfl d4_unheard_5 (Nat.le_of_ble_eq_true rfl) (Nat.le_of_ble_eq_true rfl) rfl (by decide +kernel) (by decide +kernel) rfl rfl rfl rfl ?_
  refine k_go 99 [] T4_unheard_ok (fun K hK => ?_)
  refine hK _ ?_
  exact k_ireturn d4_unheard_16 rfl rfl rfl rfl (Nat.le_of_ble_eq_true rfl) (Nat.le_of_ble_eq_true rfl)
theorem h4_unheard_ex2 (hM : k_Met Y2_unheard [.ref 0, .int x, .int y] (hA F A G B o) (.inr "java/lang/IndexOutOfBoundsException", hA F A G B o, 1, 6)) : k_Met Y4_unheard [.ref 0, .int x, .int y, .ref 44] (hA F A G B o) (.inl (some (.int (nI 2))), hA F A G B o, 1, 6) := by
  refine k_introH (by decide +kernel) rfl (by decide) rfl rfl ?_
  refine k_go 99 [] T4_unheard_ok (fun K hK => ?_)
  refine hK _ ?_
  refine k_callVC (Y' := Y2_unheard) (as := [.int x, .int y]) (st := [.int (nI 0), .ref 44]) [((0, 10, 13, 13), "java/lang/IllegalArgumentException")] ((0, 10, 17, 21), "java/lang/IndexOutOfBoundsException") [] hM rfl c4_67 rfl rfl rfl d4_unheard_5 (Nat.le_of_ble_eq_true rfl) (Nat.le_of_ble_eq_true rfl) rfl (by decide +kernel) (by decide +kernel) rfl rfl rfl rfl ?_
  refine k_go 99 [] T4_unheard_ok (fun K hK => ?_)
  refine hK _ ?_
  exact k_ireturn d4_unheard_20 rfl rfl rfl rfl (Nat.le_of_ble_eq_true rfl) (Nat.le_of_ble_eq_true rfl)
theorem h4_used_ok (hM : k_Met Y2_used [.ref 0, .int x, .int y, .int z] (hA F A G B o) (.inl (some (.int r)), hA F1 A1 G B o, 0, 0)) : k_Met Y4_used [.ref 0, .int x, .int y, .int z, .ref 44] (hA F A G B o) (.inl (some (.int (nI 0))), hA F1 A1 G B (vp_updL o 0 r.toInt64), 0, 0) := by
  refine k_introH (by decide +kernel) rfl (by decide) rfl rfl ?_
  refine k_go 99 [] T4_used_ok (fun K hK => ?_)
  refine hK _ ?_
  refine k_callV (Y' := Y2_used) (as := [.int x, .int y, .int z]) (st := [.int (nI 0), .ref 44]) hM rfl c4_70 rfl rfl rfl d4_used_7 (Nat.le_of_ble_eq_true rfl) (Nat.le_of_ble_eq_true rfl) rfl rfl ?_
  refine k_go 99 [] T4_used_ok (fun K hK => ?_)
  refine k_at (j := 0) (by decide) ?_
  refine hK _ ?_
  exact k_ireturn d4_used_24 rfl rfl rfl rfl (Nat.le_of_ble_eq_true rfl) (Nat.le_of_ble_eq_true rfl)
theorem h4_used_ex1 (hM : k_Met Y2_used [.ref 0, .int x, .int y, .int z] (hA F A G B o) (.inr "java/lang/IllegalArgumentException", hA F A G B o, 1, 6)) : k_Met Y4_used [.ref 0, .int x, .int y, .int z, .ref 44] (hA F A G B o) (.inl (some (.int (nI 1))), hA F A G B o, 1, 6) := by
  refine k_introH (by decide +kernel) rfl (by decide) rfl rfl ?_
  refine k_go 99 [] T4_used_ok (fun K hK => ?_)
  refine hK _ ?_
  refine k_callVC (Y' := Y2_used) (as := [.int x, .int y, .int z]) (st := [.int (nI 0), .ref 44]) [] ((0, 12, 15, 13), "java/lang/IllegalArgumentException") [(0, 12, 19, 21)] hM rfl c4_70 rfl rfl rfl d4_used_7 (Nat.le_of_ble_eq_true rfl) (Nat.le_of_ble_eq_true rfl) rfl (by decide +kernel) (by decide +kernel) rfl rfl rfl rfl ?_
  refine k_go 99 [] T4_used_ok (fun K hK => ?_)
  refine hK _ ?_
  exact k_ireturn d4_used_18 rfl rfl rfl rfl (Nat.le_of_ble_eq_true rfl) (Nat.le_of_ble_eq_true rfl)
theorem h4_used_ex2 (hM : k_Met Y2_used [.ref 0, .int x, .int y, .int z] (hA F A G B o) (.inr "java/lang/IndexOutOfBoundsException", hA F A G B o, 1, 6)) : k_Met Y4_used [.ref 0, .int x, .int y, .int z, .ref 44] (hA F A G B o) (.inl (some (.int (nI 2))), hA F A G B o, 1, 6) := by
  refine k_introH (by decide +kernel) rfl (by decide) rfl rfl ?_
  refine k_go 99 [] T4_used_ok (fun K hK => ?_)
  refine hK _ ?_
  refine k_callVC (Y' := Y2_used) (as := [.int x, .int y, .int z]) (st := [.int (nI 0), .ref 44]) [((0, 12, 15, 13), "java/lang/IllegalArgumentException")] ((0, 12, 19, 21), "java/lang/IndexOutOfBoundsException") [] hM rfl c4_70 rfl rfl rfl d4_used_7 (Nat.le_of_ble_eq_true rfl) (Nat.le_of_ble_eq_true rfl) rfl (by decide +kernel) (by decide +kernel) rfl rfl rfl rfl ?_
  refine k_go 99 [] T4_used_ok (fun K hK => ?_)
  refine hK _ ?_
  exact k_ireturn d4_used_22 rfl rfl rfl rfl (Nat.le_of_ble_eq_true rfl) (Nat.le_of_ble_eq_true rfl)
end L4
end
section
theorem cmp_self (x : Int64) : lg_cmp x x = 0 := by
  unfold lg_cmp
  simp [Int64.lt_irrefl]
theorem and15 (x : Int32) : ∃ j : Nat, j < 16 ∧ x &&& nI 15 = nI j := by
  refine ⟨(x.toBitVec &&& 15#32).toNat, ?_, ?_⟩
  · rw [BitVec.toNat_and]
    exact Nat.lt_of_le_of_lt Nat.and_le_right (by decide)
  · apply Int32.toBitVec_inj.mp
    rw [Int32.toBitVec_and]
    show x.toBitVec &&& (nI 15).toBitVec = (Int32.ofNat (x.toBitVec &&& 15#32).toNat).toBitVec
    rw [show (nI 15).toBitVec = 15#32 from by decide]
    apply BitVec.eq_of_toNat_eq
    simp
abbrev ls0 (i : Nat) : List (Nat × Value) := [(4, .int (nI i)), (3, .ref 44), (2, .ref 24), (1, .ref 0), (0, .ref 1000000)]
section LC
variable {F F1 : Nat → Int32} {A A1 : Nat → Nat → Int32} {G G1 : Nat → Int32} {B B1 : Nat → Nat → Int32} {o o1 : Nat → Int64} {L : Nat} {xs : Nat → Int32} {G9 : k_G} {i nc ns k mc ms : Nat} {r : Int32} {v : Bool}
theorem m3_thr : k_Met Y3_thrown [.ref 24] (hA F A G B o) (.inl (some (.int (G 0))), hA F A G B o, 0, 0) := by
  refine k_intro (by decide +kernel) rfl rfl rfl ?_
  refine k_go 99 [] T3_thrown_ok (fun K hK => ?_)
  refine hK _ ?_
  exact k_ireturn d3_thrown_4 rfl rfl rfl rfl (Nat.le_of_ble_eq_true rfl) (Nat.le_of_ble_eq_true rfl)
theorem m3_thk (h : G 0 = nI k) : k_Met Y3_thrown [.ref 24] (hA F A G B o) (.inl (some (.int (nI k))), hA F A G B o, 0, 0) := by
  have := m3_thr (F := F) (A := A) (G := G) (B := B) (o := o)
  rw [h] at this
  exact this
theorem lc_day (hi : i + 4 < L) (hL : L ≤ 2560)
    (hH : k_Met Y4_day [.ref 0, .int (xs (i + 1))] (hA F A G B o) (.inl (some (.int (nI k))), hA F1 A1 G B o1, mc, ms))
    (hM : k_Met Y3_day [.ref 24, .int (xs (i + 1))] (hA F1 A1 G B o1) (.inl none, hA F1 A1 G1 B1 o1, 0, 0))
    (hT : G1 0 = nI k) (hk : k < 10) (h1 : nc + mc ≤ G9.2.2.1) (h2 : ns + ms ≤ G9.2.2.2)
    (next : k_W Y4_law (some (L, xs)) G9 (1158, ls0 i, [], hA F1 A1 G1 B1 o1, nc + mc, ns + ms)) : k_W Y4_law (some (L, xs)) G9 (112, ls0 i, [], hA F A G B o, nc, ns) := by
  have ht := m3_thk (F := F1) (A := A1) (B := B1) (o := o1) hT
  refine k_go 99 [1158] T4_law2_ok (fun K hK => ?_)
  refine k_eq (z := nI (i + 1)) (nI_add i 1) ?_
  refine k_sa (j := i + 1) (by omega) (by omega) ?_
  refine hK _ ?_
  refine k_callSW (Y' := Y4_day) (as := [.ref 0, .int (xs (i + 1))]) (st := []) hH rfl c4_78 rfl rfl d4_law_119 h1 h2 rfl rfl ?_
  refine k_go 99 [1158] T4_law2_ok (fun K hK => ?_)
  refine k_eq (z := nI (i + 1)) (nI_add i 1) ?_
  refine k_sa (j := i + 1) (by omega) (by omega) ?_
  refine hK _ ?_
  refine k_callV (Y' := Y3_day) (as := [.int (xs (i + 1))]) (st := []) hM rfl c4_83 rfl rfl rfl d4_law_131 h1 h2 rfl rfl ?_
  refine k_go 99 [1158] T4_law2_ok (fun K hK => ?_)
  refine hK _ ?_
  refine k_callV (Y' := Y3_thrown) (as := []) (st := []) ht rfl c4_84 rfl rfl rfl d4_law_135 h1 h2 rfl rfl ?_
  refine k_go 99 [1158] T4_law2_ok (fun K hK => ?_)
  refine b_eq (a := k) (b := k) (by omega) (by omega) (fun _ => ?_) (fun q => absurd rfl q)
  refine hK _ ?_
  refine k_sub5 (i1 := 4) (i2 := 3) (i3 := 2) (i4 := 1) (i5 := 0) rfl rfl rfl rfl rfl ?_
  exact next
theorem lc_unit (hi : i + 4 < L) (hL : L ≤ 2560)
    (hH : k_Met Y4_unit [.ref 0, .int (xs (i + 1)), .int (xs (i + 2)), .int (xs (i + 3)), .int (xs (i + 4)), .ref 44] (hA F A G B o) (.inl (some (.int (nI k))), hA F1 A1 G B o1, mc, ms))
    (hM : k_Met Y3_unit [.ref 24, .int (xs (i + 1)), .int (xs (i + 2)), .int (xs (i + 3)), .int (xs (i + 4))] (hA F1 A1 G B o1) (.inl (some (.int r)), hA F1 A1 G1 B1 o1, 0, 0))
    (hT : G1 0 = nI k) (hk : k < 10) (ho : k = 0 → o1 0 = r.toInt64) (h1 : nc + mc ≤ G9.2.2.1) (h2 : ns + ms ≤ G9.2.2.2)
    (next : k_W Y4_law (some (L, xs)) G9 (1158, ls0 i, [], hA F1 A1 G1 B1 o1, nc + mc, ns + ms)) : k_W Y4_law (some (L, xs)) G9 (148, ls0 i, [], hA F A G B o, nc, ns) := by
  have ht := m3_thk (F := F1) (A := A1) (B := B1) (o := o1) hT
  refine k_go 99 [1158] T4_law3_ok (fun K hK => ?_)
  refine k_eq (z := nI (i + 1)) (nI_add i 1) ?_
  refine k_sa (j := i + 1) (by omega) (by omega) ?_
  refine k_eq (z := nI (i + 2)) (nI_add i 2) ?_
  refine k_sa (j := i + 2) (by omega) (by omega) ?_
  refine k_eq (z := nI (i + 3)) (nI_add i 3) ?_
  refine k_sa (j := i + 3) (by omega) (by omega) ?_
  refine k_eq (z := nI (i + 4)) (nI_add i 4) ?_
  refine k_sa (j := i + 4) (by omega) (by omega) ?_
  refine hK _ ?_
  refine k_callSW (Y' := Y4_unit) (as := [.ref 0, .int (xs (i + 1)), .int (xs (i + 2)), .int (xs (i + 3)), .int (xs (i + 4)), .ref 44]) (st := []) hH rfl c4_88 rfl rfl d4_law_174 h1 h2 rfl rfl ?_
  refine k_go 99 [1158] T4_law3_ok (fun K hK => ?_)
  refine k_eq (z := nI (i + 1)) (nI_add i 1) ?_
  refine k_sa (j := i + 1) (by omega) (by omega) ?_
  refine k_eq (z := nI (i + 2)) (nI_add i 2) ?_
  refine k_sa (j := i + 2) (by omega) (by omega) ?_
  refine k_eq (z := nI (i + 3)) (nI_add i 3) ?_
  refine k_sa (j := i + 3) (by omega) (by omega) ?_
  refine k_eq (z := nI (i + 4)) (nI_add i 4) ?_
  refine k_sa (j := i + 4) (by omega) (by omega) ?_
  refine hK _ ?_
  refine k_callV (Y' := Y3_unit) (as := [.int (xs (i + 1)), .int (xs (i + 2)), .int (xs (i + 3)), .int (xs (i + 4))]) (st := []) hM rfl c4_91 rfl rfl rfl d4_law_204 h1 h2 rfl rfl ?_
  refine k_go 99 [1158] T4_law3_ok (fun K hK => ?_)
  refine hK _ ?_
  refine k_callV (Y' := Y3_thrown) (as := []) (st := []) ht rfl c4_84 rfl rfl rfl d4_law_210 h1 h2 rfl rfl ?_
  refine k_go 99 [1158] T4_law3_ok (fun K hK => ?_)
  refine b_eq (a := k) (b := k) (by omega) (by omega) (fun _ => ?_) (fun q => absurd rfl q)
  refine z_ne (a := k) (by omega) (fun _ => ?_) (fun h0 => ?_)
  · refine hK _ ?_
    refine k_sub5 (i1 := 4) (i2 := 3) (i3 := 2) (i4 := 1) (i5 := 0) rfl rfl rfl rfl rfl ?_
    exact next
  · have ho := ho h0
    refine k_at (j := 0) (by decide) ?_
    refine And.intro (fun _ => ?_) (fun q => absurd (by rw [ho]; exact cmp_self _) q)
    refine hK _ ?_
    refine k_sub5 (i1 := 4) (i2 := 3) (i3 := 2) (i4 := 1) (i5 := 0) rfl rfl rfl rfl rfl ?_
    exact next
theorem lc_go (hi : i + 4 < L) (hL : L ≤ 2560)
    (hH : k_Met Y4_go [.ref 0, .int (xs (i + 1)), .int (xs (i + 2)), .int (xs (i + 3)), .int (xs (i + 4))] (hA F A G B o) (.inl (some (.int (nI k))), hA F1 A1 G B o1, mc, ms))
    (hM : k_Met Y3_go [.ref 24, .int (xs (i + 1)), .int (xs (i + 2)), .int (xs (i + 3)), .int (xs (i + 4))] (hA F1 A1 G B o1) (.inl none, hA F1 A1 G1 B1 o1, 0, 0))
    (hT : G1 0 = nI k) (hk : k < 10) (h1 : nc + mc ≤ G9.2.2.1) (h2 : ns + ms ≤ G9.2.2.2)
    (next : k_W Y4_law (some (L, xs)) G9 (1158, ls0 i, [], hA F1 A1 G1 B1 o1, nc + mc, ns + ms)) : k_W Y4_law (some (L, xs)) G9 (240, ls0 i, [], hA F A G B o, nc, ns) := by
  have ht := m3_thk (F := F1) (A := A1) (B := B1) (o := o1) hT
  refine k_go 99 [1158] T4_law4_ok (fun K hK => ?_)
  refine k_eq (z := nI (i + 1)) (nI_add i 1) ?_
  refine k_sa (j := i + 1) (by omega) (by omega) ?_
  refine k_eq (z := nI (i + 2)) (nI_add i 2) ?_
  refine k_sa (j := i + 2) (by omega) (by omega) ?_
  refine k_eq (z := nI (i + 3)) (nI_add i 3) ?_
  refine k_sa (j := i + 3) (by omega) (by omega) ?_
  refine k_eq (z := nI (i + 4)) (nI_add i 4) ?_
  refine k_sa (j := i + 4) (by omega) (by omega) ?_
  refine hK _ ?_
  refine k_callSW (Y' := Y4_go) (as := [.ref 0, .int (xs (i + 1)), .int (xs (i + 2)), .int (xs (i + 3)), .int (xs (i + 4))]) (st := []) hH rfl c4_92 rfl rfl d4_law_265 h1 h2 rfl rfl ?_
  refine k_go 99 [1158] T4_law4_ok (fun K hK => ?_)
  refine k_eq (z := nI (i + 1)) (nI_add i 1) ?_
  refine k_sa (j := i + 1) (by omega) (by omega) ?_
  refine k_eq (z := nI (i + 2)) (nI_add i 2) ?_
  refine k_sa (j := i + 2) (by omega) (by omega) ?_
  refine k_eq (z := nI (i + 3)) (nI_add i 3) ?_
  refine k_sa (j := i + 3) (by omega) (by omega) ?_
  refine k_eq (z := nI (i + 4)) (nI_add i 4) ?_
  refine k_sa (j := i + 4) (by omega) (by omega) ?_
  refine hK _ ?_
  refine k_callV (Y' := Y3_go) (as := [.int (xs (i + 1)), .int (xs (i + 2)), .int (xs (i + 3)), .int (xs (i + 4))]) (st := []) hM rfl c4_95 rfl rfl rfl d4_law_295 h1 h2 rfl rfl ?_
  refine k_go 99 [1158] T4_law4_ok (fun K hK => ?_)
  refine hK _ ?_
  refine k_callV (Y' := Y3_thrown) (as := []) (st := []) ht rfl c4_84 rfl rfl rfl d4_law_299 h1 h2 rfl rfl ?_
  refine k_go 99 [1158] T4_law4_ok (fun K hK => ?_)
  refine b_eq (a := k) (b := k) (by omega) (by omega) (fun _ => ?_) (fun q => absurd rfl q)
  refine hK _ ?_
  refine k_sub5 (i1 := 4) (i2 := 3) (i3 := 2) (i4 := 1) (i5 := 0) rfl rfl rfl rfl rfl ?_
  exact next
theorem lc_repeater (hi : i + 4 < L) (hL : L ≤ 2560)
    (hH : k_Met Y4_repeater [.ref 0, .int (xs (i + 1)), .int (xs (i + 2)), .int (xs (i + 3)), .int (xs (i + 4)), .ref 44] (hA F A G B o) (.inl (some (.int (nI k))), hA F1 A1 G B o1, mc, ms))
    (hM : k_Met Y3_repeater [.ref 24, .int (xs (i + 1)), .int (xs (i + 2)), .int (xs (i + 3)), .int (xs (i + 4))] (hA F1 A1 G B o1) (.inl (some (.int r)), hA F1 A1 G1 B1 o1, 0, 0))
    (hT : G1 0 = nI k) (hk : k < 10) (ho : k = 0 → o1 0 = r.toInt64) (h1 : nc + mc ≤ G9.2.2.1) (h2 : ns + ms ≤ G9.2.2.2)
    (next : k_W Y4_law (some (L, xs)) G9 (1158, ls0 i, [], hA F1 A1 G1 B1 o1, nc + mc, ns + ms)) : k_W Y4_law (some (L, xs)) G9 (312, ls0 i, [], hA F A G B o, nc, ns) := by
  have ht := m3_thk (F := F1) (A := A1) (B := B1) (o := o1) hT
  refine k_go 99 [1158] T4_law5_ok (fun K hK => ?_)
  refine k_eq (z := nI (i + 1)) (nI_add i 1) ?_
  refine k_sa (j := i + 1) (by omega) (by omega) ?_
  refine k_eq (z := nI (i + 2)) (nI_add i 2) ?_
  refine k_sa (j := i + 2) (by omega) (by omega) ?_
  refine k_eq (z := nI (i + 3)) (nI_add i 3) ?_
  refine k_sa (j := i + 3) (by omega) (by omega) ?_
  refine k_eq (z := nI (i + 4)) (nI_add i 4) ?_
  refine k_sa (j := i + 4) (by omega) (by omega) ?_
  refine hK _ ?_
  refine k_callSW (Y' := Y4_repeater) (as := [.ref 0, .int (xs (i + 1)), .int (xs (i + 2)), .int (xs (i + 3)), .int (xs (i + 4)), .ref 44]) (st := []) hH rfl c4_96 rfl rfl d4_law_338 h1 h2 rfl rfl ?_
  refine k_go 99 [1158] T4_law5_ok (fun K hK => ?_)
  refine k_eq (z := nI (i + 1)) (nI_add i 1) ?_
  refine k_sa (j := i + 1) (by omega) (by omega) ?_
  refine k_eq (z := nI (i + 2)) (nI_add i 2) ?_
  refine k_sa (j := i + 2) (by omega) (by omega) ?_
  refine k_eq (z := nI (i + 3)) (nI_add i 3) ?_
  refine k_sa (j := i + 3) (by omega) (by omega) ?_
  refine k_eq (z := nI (i + 4)) (nI_add i 4) ?_
  refine k_sa (j := i + 4) (by omega) (by omega) ?_
  refine hK _ ?_
  refine k_callV (Y' := Y3_repeater) (as := [.int (xs (i + 1)), .int (xs (i + 2)), .int (xs (i + 3)), .int (xs (i + 4))]) (st := []) hM rfl c4_98 rfl rfl rfl d4_law_368 h1 h2 rfl rfl ?_
  refine k_go 99 [1158] T4_law5_ok (fun K hK => ?_)
  refine hK _ ?_
  refine k_callV (Y' := Y3_thrown) (as := []) (st := []) ht rfl c4_84 rfl rfl rfl d4_law_374 h1 h2 rfl rfl ?_
  refine k_go 99 [1158] T4_law5_ok (fun K hK => ?_)
  refine b_eq (a := k) (b := k) (by omega) (by omega) (fun _ => ?_) (fun q => absurd rfl q)
  refine z_ne (a := k) (by omega) (fun _ => ?_) (fun h0 => ?_)
  · refine hK _ ?_
    refine k_sub5 (i1 := 4) (i2 := 3) (i3 := 2) (i4 := 1) (i5 := 0) rfl rfl rfl rfl rfl ?_
    exact next
  · have ho := ho h0
    refine k_at (j := 0) (by decide) ?_
    refine And.intro (fun _ => ?_) (fun q => absurd (by rw [ho]; exact cmp_self _) q)
    refine hK _ ?_
    refine k_sub5 (i1 := 4) (i2 := 3) (i3 := 2) (i4 := 1) (i5 := 0) rfl rfl rfl rfl rfl ?_
    exact next
theorem lc_patch (hi : i + 4 < L) (hL : L ≤ 2560)
    (hH : k_Met Y4_patch [.ref 0, .int (xs (i + 1)), .int (xs (i + 2)), .ref 44] (hA F A G B o) (.inl (some (.int (nI k))), hA F1 A1 G B o1, mc, ms))
    (hM : k_Met Y3_patch [.ref 24, .int (xs (i + 1)), .int (xs (i + 2))] (hA F1 A1 G B o1) (.inl (some (.int (bB v))), hA F1 A1 G1 B1 o1, 0, 0))
    (hT : G1 0 = nI k) (hk : k < 10) (ho : k = 0 → o1 0 = lN (cond v 1 0)) (h1 : nc + mc ≤ G9.2.2.1) (h2 : ns + ms ≤ G9.2.2.2)
    (next : k_W Y4_law (some (L, xs)) G9 (1158, ls0 i, [], hA F1 A1 G1 B1 o1, nc + mc, ns + ms)) : k_W Y4_law (some (L, xs)) G9 (404, ls0 i, [], hA F A G B o, nc, ns) := by
  have ht := m3_thk (F := F1) (A := A1) (B := B1) (o := o1) hT
  refine k_go 99 [1158] T4_law6_ok (fun K hK => ?_)
  refine k_eq (z := nI (i + 1)) (nI_add i 1) ?_
  refine k_sa (j := i + 1) (by omega) (by omega) ?_
  refine k_eq (z := nI (i + 2)) (nI_add i 2) ?_
  refine k_sa (j := i + 2) (by omega) (by omega) ?_
  refine hK _ ?_
  refine k_callSW (Y' := Y4_patch) (as := [.ref 0, .int (xs (i + 1)), .int (xs (i + 2)), .ref 44]) (st := []) hH rfl c4_99 rfl rfl d4_law_418 h1 h2 rfl rfl ?_
  refine k_go 99 [1158] T4_law6_ok (fun K hK => ?_)
  refine k_eq (z := nI (i + 1)) (nI_add i 1) ?_
  refine k_sa (j := i + 1) (by omega) (by omega) ?_
  refine k_eq (z := nI (i + 2)) (nI_add i 2) ?_
  refine k_sa (j := i + 2) (by omega) (by omega) ?_
  refine hK _ ?_
  refine k_callV (Y' := Y3_patch) (as := [.int (xs (i + 1)), .int (xs (i + 2))]) (st := []) hM rfl c4_102 rfl rfl rfl d4_law_436 h1 h2 rfl rfl ?_
  refine k_go 99 [1158] T4_law6_ok (fun K hK => ?_)
  refine hK _ ?_
  refine k_callV (Y' := Y3_thrown) (as := []) (st := []) ht rfl c4_84 rfl rfl rfl d4_law_442 h1 h2 rfl rfl ?_
  refine k_go 99 [1158] T4_law6_ok (fun K hK => ?_)
  refine b_eq (a := k) (b := k) (by omega) (by omega) (fun _ => ?_) (fun q => absurd rfl q)
  refine z_ne (a := k) (by omega) (fun _ => ?_) (fun h0 => ?_)
  · refine hK _ ?_
    refine k_sub5 (i1 := 4) (i2 := 3) (i3 := 2) (i4 := 1) (i5 := 0) rfl rfl rfl rfl rfl ?_
    exact next
  · have ho := ho h0
    refine k_at (j := 0) (by decide) ?_
    refine q_eq (fun hv => ?_) (fun hv => ?_)
    · rw [hv] at ho
      refine And.intro (fun _ => ?_) (fun q => absurd (by rw [ho]; exact cmp_self _) q)
      refine hK _ ?_
      refine k_sub5 (i1 := 4) (i2 := 3) (i3 := 2) (i4 := 1) (i5 := 0) rfl rfl rfl rfl rfl ?_
      exact next
    · rw [hv] at ho
      refine And.intro (fun _ => ?_) (fun q => absurd (by rw [ho]; exact cmp_self _) q)
      refine hK _ ?_
      refine k_sub5 (i1 := 4) (i2 := 3) (i3 := 2) (i4 := 1) (i5 := 0) rfl rfl rfl rfl rfl ?_
      exact next
theorem lc_limit (hi : i + 4 < L) (hL : L ≤ 2560)
    (hH : k_Met Y4_limit [.ref 0, .int (xs (i + 1))] (hA F A G B o) (.inl (some (.int (nI k))), hA F1 A1 G B o1, mc, ms))
    (hM : k_Met Y3_limit [.ref 24, .int (xs (i + 1))] (hA F1 A1 G B o1) (.inl none, hA F1 A1 G1 B1 o1, 0, 0))
    (hT : G1 0 = nI k) (hk : k < 10) (h1 : nc + mc ≤ G9.2.2.1) (h2 : ns + ms ≤ G9.2.2.2)
    (next : k_W Y4_law (some (L, xs)) G9 (1158, ls0 i, [], hA F1 A1 G1 B1 o1, nc + mc, ns + ms)) : k_W Y4_law (some (L, xs)) G9 (479, ls0 i, [], hA F A G B o, nc, ns) := by
  have ht := m3_thk (F := F1) (A := A1) (B := B1) (o := o1) hT
  refine k_go 99 [1158] T4_law7_ok (fun K hK => ?_)
  refine k_eq (z := nI (i + 1)) (nI_add i 1) ?_
  refine k_sa (j := i + 1) (by omega) (by omega) ?_
  refine hK _ ?_
  refine k_callSW (Y' := Y4_limit) (as := [.ref 0, .int (xs (i + 1))]) (st := []) hH rfl c4_103 rfl rfl d4_law_486 h1 h2 rfl rfl ?_
  refine k_go 99 [1158] T4_law7_ok (fun K hK => ?_)
  refine k_eq (z := nI (i + 1)) (nI_add i 1) ?_
  refine k_sa (j := i + 1) (by omega) (by omega) ?_
  refine hK _ ?_
  refine k_callV (Y' := Y3_limit) (as := [.int (xs (i + 1))]) (st := []) hM rfl c4_105 rfl rfl rfl d4_law_498 h1 h2 rfl rfl ?_
  refine k_go 99 [1158] T4_law7_ok (fun K hK => ?_)
  refine hK _ ?_
  refine k_callV (Y' := Y3_thrown) (as := []) (st := []) ht rfl c4_84 rfl rfl rfl d4_law_502 h1 h2 rfl rfl ?_
  refine k_go 99 [1158] T4_law7_ok (fun K hK => ?_)
  refine b_eq (a := k) (b := k) (by omega) (by omega) (fun _ => ?_) (fun q => absurd rfl q)
  refine hK _ ?_
  refine k_sub5 (i1 := 4) (i2 := 3) (i3 := 2) (i4 := 1) (i5 := 0) rfl rfl rfl rfl rfl ?_
  exact next
theorem lc_speak (hi : i + 4 < L) (hL : L ≤ 2560)
    (hH : k_Met Y4_speak [.ref 0, .int (xs (i + 1)), .int (xs (i + 2)), .int (xs (i + 3)), .int (xs (i + 4)), .ref 44] (hA F A G B o) (.inl (some (.int (nI k))), hA F1 A1 G B o1, mc, ms))
    (hM : k_Met Y3_speak [.ref 24, .int (xs (i + 1)), .int (xs (i + 2)), .int (xs (i + 3)), .int (xs (i + 4))] (hA F1 A1 G B o1) (.inl (some (.int r)), hA F1 A1 G1 B1 o1, 0, 0))
    (hT : G1 0 = nI k) (hk : k < 10) (ho : k = 0 → o1 0 = r.toInt64) (h1 : nc + mc ≤ G9.2.2.1) (h2 : ns + ms ≤ G9.2.2.2)
    (next : k_W Y4_law (some (L, xs)) G9 (1158, ls0 i, [], hA F1 A1 G1 B1 o1, nc + mc, ns + ms)) : k_W Y4_law (some (L, xs)) G9 (515, ls0 i, [], hA F A G B o, nc, ns) := by
  have ht := m3_thk (F := F1) (A := A1) (B := B1) (o := o1) hT
  refine k_go 99 [1158] T4_law8_ok (fun K hK => ?_)
  refine k_eq (z := nI (i + 1)) (nI_add i 1) ?_
  refine k_sa (j := i + 1) (by omega) (by omega) ?_
  refine k_eq (z := nI (i + 2)) (nI_add i 2) ?_
  refine k_sa (j := i + 2) (by omega) (by omega) ?_
  refine k_eq (z := nI (i + 3)) (nI_add i 3) ?_
  refine k_sa (j := i + 3) (by omega) (by omega) ?_
  refine k_eq (z := nI (i + 4)) (nI_add i 4) ?_
  refine k_sa (j := i + 4) (by omega) (by omega) ?_
  refine hK _ ?_
  refine k_callSW (Y' := Y4_speak) (as := [.ref 0, .int (xs (i + 1)), .int (xs (i + 2)), .int (xs (i + 3)), .int (xs (i + 4)), .ref 44]) (st := []) hH rfl c4_106 rfl rfl d4_law_541 h1 h2 rfl rfl ?_
  refine k_go 99 [1158] T4_law8_ok (fun K hK => ?_)
  refine k_eq (z := nI (i + 1)) (nI_add i 1) ?_
  refine k_sa (j := i + 1) (by omega) (by omega) ?_
  refine k_eq (z := nI (i + 2)) (nI_add i 2) ?_
  refine k_sa (j := i + 2) (by omega) (by omega) ?_
  refine k_eq (z := nI (i + 3)) (nI_add i 3) ?_
  refine k_sa (j := i + 3) (by omega) (by omega) ?_
  refine k_eq (z := nI (i + 4)) (nI_add i 4) ?_
  refine k_sa (j := i + 4) (by omega) (by omega) ?_
  refine hK _ ?_
  refine k_callV (Y' := Y3_speak) (as := [.int (xs (i + 1)), .int (xs (i + 2)), .int (xs (i + 3)), .int (xs (i + 4))]) (st := []) hM rfl c4_108 rfl rfl rfl d4_law_571 h1 h2 rfl rfl ?_
  refine k_go 99 [1158] T4_law8_ok (fun K hK => ?_)
  refine hK _ ?_
  refine k_callV (Y' := Y3_thrown) (as := []) (st := []) ht rfl c4_84 rfl rfl rfl d4_law_577 h1 h2 rfl rfl ?_
  refine k_go 99 [1158] T4_law8_ok (fun K hK => ?_)
  refine b_eq (a := k) (b := k) (by omega) (by omega) (fun _ => ?_) (fun q => absurd rfl q)
  refine z_ne (a := k) (by omega) (fun _ => ?_) (fun h0 => ?_)
  · refine hK _ ?_
    refine k_sub5 (i1 := 4) (i2 := 3) (i3 := 2) (i4 := 1) (i5 := 0) rfl rfl rfl rfl rfl ?_
    exact next
  · have ho := ho h0
    refine k_at (j := 0) (by decide) ?_
    refine And.intro (fun _ => ?_) (fun q => absurd (by rw [ho]; exact cmp_self _) q)
    refine hK _ ?_
    refine k_sub5 (i1 := 4) (i2 := 3) (i3 := 2) (i4 := 1) (i5 := 0) rfl rfl rfl rfl rfl ?_
    exact next
theorem lc_relay (hi : i + 4 < L) (hL : L ≤ 2560)
    (hH : k_Met Y4_relay [.ref 0, .int (xs (i + 1)), .int (xs (i + 2)), .int (xs (i + 3)), .int (xs (i + 4)), .ref 44] (hA F A G B o) (.inl (some (.int (nI k))), hA F1 A1 G B o1, mc, ms))
    (hM : k_Met Y3_relay [.ref 24, .int (xs (i + 1)), .int (xs (i + 2)), .int (xs (i + 3)), .int (xs (i + 4))] (hA F1 A1 G B o1) (.inl (some (.int r)), hA F1 A1 G1 B1 o1, 0, 0))
    (hT : G1 0 = nI k) (hk : k < 10) (ho : k = 0 → o1 0 = r.toInt64) (h1 : nc + mc ≤ G9.2.2.1) (h2 : ns + ms ≤ G9.2.2.2)
    (next : k_W Y4_law (some (L, xs)) G9 (1158, ls0 i, [], hA F1 A1 G1 B1 o1, nc + mc, ns + ms)) : k_W Y4_law (some (L, xs)) G9 (607, ls0 i, [], hA F A G B o, nc, ns) := by
  have ht := m3_thk (F := F1) (A := A1) (B := B1) (o := o1) hT
  refine k_go 99 [1158] T4_law9_ok (fun K hK => ?_)
  refine k_eq (z := nI (i + 1)) (nI_add i 1) ?_
  refine k_sa (j := i + 1) (by omega) (by omega) ?_
  refine k_eq (z := nI (i + 2)) (nI_add i 2) ?_
  refine k_sa (j := i + 2) (by omega) (by omega) ?_
  refine k_eq (z := nI (i + 3)) (nI_add i 3) ?_
  refine k_sa (j := i + 3) (by omega) (by omega) ?_
  refine k_eq (z := nI (i + 4)) (nI_add i 4) ?_
  refine k_sa (j := i + 4) (by omega) (by omega) ?_
  refine hK _ ?_
  refine k_callSW (Y' := Y4_relay) (as := [.ref 0, .int (xs (i + 1)), .int (xs (i + 2)), .int (xs (i + 3)), .int (xs (i + 4)), .ref 44]) (st := []) hH rfl c4_109 rfl rfl d4_law_633 h1 h2 rfl rfl ?_
  refine k_go 99 [1158] T4_law9_ok (fun K hK => ?_)
  refine k_eq (z := nI (i + 1)) (nI_add i 1) ?_
  refine k_sa (j := i + 1) (by omega) (by omega) ?_
  refine k_eq (z := nI (i + 2)) (nI_add i 2) ?_
  refine k_sa (j := i + 2) (by omega) (by omega) ?_
  refine k_eq (z := nI (i + 3)) (nI_add i 3) ?_
  refine k_sa (j := i + 3) (by omega) (by omega) ?_
  refine k_eq (z := nI (i + 4)) (nI_add i 4) ?_
  refine k_sa (j := i + 4) (by omega) (by omega) ?_
  refine hK _ ?_
  refine k_callV (Y' := Y3_relay) (as := [.int (xs (i + 1)), .int (xs (i + 2)), .int (xs (i + 3)), .int (xs (i + 4))]) (st := []) hM rfl c4_111 rfl rfl rfl d4_law_663 h1 h2 rfl rfl ?_
  refine k_go 99 [1158] T4_law9_ok (fun K hK => ?_)
  refine hK _ ?_
  refine k_callV (Y' := Y3_thrown) (as := []) (st := []) ht rfl c4_84 rfl rfl rfl d4_law_669 h1 h2 rfl rfl ?_
  refine k_go 99 [1158] T4_law9_ok (fun K hK => ?_)
  refine b_eq (a := k) (b := k) (by omega) (by omega) (fun _ => ?_) (fun q => absurd rfl q)
  refine z_ne (a := k) (by omega) (fun _ => ?_) (fun h0 => ?_)
  · refine hK _ ?_
    refine k_sub5 (i1 := 4) (i2 := 3) (i3 := 2) (i4 := 1) (i5 := 0) rfl rfl rfl rfl rfl ?_
    exact next
  · have ho := ho h0
    refine k_at (j := 0) (by decide) ?_
    refine And.intro (fun _ => ?_) (fun q => absurd (by rw [ho]; exact cmp_self _) q)
    refine hK _ ?_
    refine k_sub5 (i1 := 4) (i2 := 3) (i3 := 2) (i4 := 1) (i5 := 0) rfl rfl rfl rfl rfl ?_
    exact next
theorem lc_lose (hi : i + 4 < L) (hL : L ≤ 2560)
    (hH : k_Met Y4_lose [.ref 0, .int (xs (i + 1)), .ref 44] (hA F A G B o) (.inl (some (.int (nI k))), hA F1 A1 G B o1, mc, ms))
    (hM : k_Met Y3_lose [.ref 24, .int (xs (i + 1))] (hA F1 A1 G B o1) (.inl (some (.int (bB v))), hA F1 A1 G1 B1 o1, 0, 0))
    (hT : G1 0 = nI k) (hk : k < 10) (ho : k = 0 → o1 0 = lN (cond v 1 0)) (h1 : nc + mc ≤ G9.2.2.1) (h2 : ns + ms ≤ G9.2.2.2)
    (next : k_W Y4_law (some (L, xs)) G9 (1158, ls0 i, [], hA F1 A1 G1 B1 o1, nc + mc, ns + ms)) : k_W Y4_law (some (L, xs)) G9 (699, ls0 i, [], hA F A G B o, nc, ns) := by
  have ht := m3_thk (F := F1) (A := A1) (B := B1) (o := o1) hT
  refine k_go 99 [1158] T4_law10_ok (fun K hK => ?_)
  refine k_eq (z := nI (i + 1)) (nI_add i 1) ?_
  refine k_sa (j := i + 1) (by omega) (by omega) ?_
  refine hK _ ?_
  refine k_callSW (Y' := Y4_lose) (as := [.ref 0, .int (xs (i + 1)), .ref 44]) (st := []) hH rfl c4_112 rfl rfl d4_law_707 h1 h2 rfl rfl ?_
  refine k_go 99 [1158] T4_law10_ok (fun K hK => ?_)
  refine k_eq (z := nI (i + 1)) (nI_add i 1) ?_
  refine k_sa (j := i + 1) (by omega) (by omega) ?_
  refine hK _ ?_
  refine k_callV (Y' := Y3_lose) (as := [.int (xs (i + 1))]) (st := []) hM rfl c4_115 rfl rfl rfl d4_law_719 h1 h2 rfl rfl ?_
  refine k_go 99 [1158] T4_law10_ok (fun K hK => ?_)
  refine hK _ ?_
  refine k_callV (Y' := Y3_thrown) (as := []) (st := []) ht rfl c4_84 rfl rfl rfl d4_law_725 h1 h2 rfl rfl ?_
  refine k_go 99 [1158] T4_law10_ok (fun K hK => ?_)
  refine b_eq (a := k) (b := k) (by omega) (by omega) (fun _ => ?_) (fun q => absurd rfl q)
  refine z_ne (a := k) (by omega) (fun _ => ?_) (fun h0 => ?_)
  · refine hK _ ?_
    refine k_sub5 (i1 := 4) (i2 := 3) (i3 := 2) (i4 := 1) (i5 := 0) rfl rfl rfl rfl rfl ?_
    exact next
  · have ho := ho h0
    refine k_at (j := 0) (by decide) ?_
    refine q_eq (fun hv => ?_) (fun hv => ?_)
    · rw [hv] at ho
      refine And.intro (fun _ => ?_) (fun q => absurd (by rw [ho]; exact cmp_self _) q)
      refine hK _ ?_
      refine k_sub5 (i1 := 4) (i2 := 3) (i3 := 2) (i4 := 1) (i5 := 0) rfl rfl rfl rfl rfl ?_
      exact next
    · rw [hv] at ho
      refine And.intro (fun _ => ?_) (fun q => absurd (by rw [ho]; exact cmp_self _) q)
      refine hK _ ?_
      refine k_sub5 (i1 := 4) (i2 := 3) (i3 := 2) (i4 := 1) (i5 := 0) rfl rfl rfl rfl rfl ?_
      exact next
theorem lc_hears (hi : i + 4 < L) (hL : L ≤ 2560)
    (hH : k_Met Y4_hears [.ref 0, .int (xs (i + 1)), .int (xs (i + 2)), .ref 44] (hA F A G B o) (.inl (some (.int (nI k))), hA F1 A1 G B o1, mc, ms))
    (hM : k_Met Y3_hears [.ref 24, .int (xs (i + 1)), .int (xs (i + 2))] (hA F1 A1 G B o1) (.inl (some (.int r)), hA F1 A1 G1 B1 o1, 0, 0))
    (hT : G1 0 = nI k) (hk : k < 10) (ho : k = 0 → o1 0 = r.toInt64) (h1 : nc + mc ≤ G9.2.2.1) (h2 : ns + ms ≤ G9.2.2.2)
    (next : k_W Y4_law (some (L, xs)) G9 (1158, ls0 i, [], hA F1 A1 G1 B1 o1, nc + mc, ns + ms)) : k_W Y4_law (some (L, xs)) G9 (762, ls0 i, [], hA F A G B o, nc, ns) := by
  have ht := m3_thk (F := F1) (A := A1) (B := B1) (o := o1) hT
  refine k_go 99 [1158] T4_law11_ok (fun K hK => ?_)
  refine k_eq (z := nI (i + 1)) (nI_add i 1) ?_
  refine k_sa (j := i + 1) (by omega) (by omega) ?_
  refine k_eq (z := nI (i + 2)) (nI_add i 2) ?_
  refine k_sa (j := i + 2) (by omega) (by omega) ?_
  refine hK _ ?_
  refine k_callSW (Y' := Y4_hears) (as := [.ref 0, .int (xs (i + 1)), .int (xs (i + 2)), .ref 44]) (st := []) hH rfl c4_116 rfl rfl d4_law_776 h1 h2 rfl rfl ?_
  refine k_go 99 [1158] T4_law11_ok (fun K hK => ?_)
  refine k_eq (z := nI (i + 1)) (nI_add i 1) ?_
  refine k_sa (j := i + 1) (by omega) (by omega) ?_
  refine k_eq (z := nI (i + 2)) (nI_add i 2) ?_
  refine k_sa (j := i + 2) (by omega) (by omega) ?_
  refine hK _ ?_
  refine k_callV (Y' := Y3_hears) (as := [.int (xs (i + 1)), .int (xs (i + 2))]) (st := []) hM rfl c4_118 rfl rfl rfl d4_law_794 h1 h2 rfl rfl ?_
  refine k_go 99 [1158] T4_law11_ok (fun K hK => ?_)
  refine hK _ ?_
  refine k_callV (Y' := Y3_thrown) (as := []) (st := []) ht rfl c4_84 rfl rfl rfl d4_law_800 h1 h2 rfl rfl ?_
  refine k_go 99 [1158] T4_law11_ok (fun K hK => ?_)
  refine b_eq (a := k) (b := k) (by omega) (by omega) (fun _ => ?_) (fun q => absurd rfl q)
  refine z_ne (a := k) (by omega) (fun _ => ?_) (fun h0 => ?_)
  · refine hK _ ?_
    refine k_sub5 (i1 := 4) (i2 := 3) (i3 := 2) (i4 := 1) (i5 := 0) rfl rfl rfl rfl rfl ?_
    exact next
  · have ho := ho h0
    refine k_at (j := 0) (by decide) ?_
    refine And.intro (fun _ => ?_) (fun q => absurd (by rw [ho]; exact cmp_self _) q)
    refine hK _ ?_
    refine k_sub5 (i1 := 4) (i2 := 3) (i3 := 2) (i4 := 1) (i5 := 0) rfl rfl rfl rfl rfl ?_
    exact next
theorem lc_on (hi : i + 4 < L) (hL : L ≤ 2560)
    (hH : k_Met Y4_on [.ref 0, .int (xs (i + 1)), .int (xs (i + 2)), .ref 44] (hA F A G B o) (.inl (some (.int (nI k))), hA F1 A1 G B o1, mc, ms))
    (hM : k_Met Y3_on [.ref 24, .int (xs (i + 1)), .int (xs (i + 2))] (hA F1 A1 G B o1) (.inl (some (.int r)), hA F1 A1 G1 B1 o1, 0, 0))
    (hT : G1 0 = nI k) (hk : k < 10) (ho : k = 0 → o1 0 = r.toInt64) (h1 : nc + mc ≤ G9.2.2.1) (h2 : ns + ms ≤ G9.2.2.2)
    (next : k_W Y4_law (some (L, xs)) G9 (1158, ls0 i, [], hA F1 A1 G1 B1 o1, nc + mc, ns + ms)) : k_W Y4_law (some (L, xs)) G9 (830, ls0 i, [], hA F A G B o, nc, ns) := by
  have ht := m3_thk (F := F1) (A := A1) (B := B1) (o := o1) hT
  refine k_go 99 [1158] T4_law12_ok (fun K hK => ?_)
  refine k_eq (z := nI (i + 1)) (nI_add i 1) ?_
  refine k_sa (j := i + 1) (by omega) (by omega) ?_
  refine k_eq (z := nI (i + 2)) (nI_add i 2) ?_
  refine k_sa (j := i + 2) (by omega) (by omega) ?_
  refine hK _ ?_
  refine k_callSW (Y' := Y4_on) (as := [.ref 0, .int (xs (i + 1)), .int (xs (i + 2)), .ref 44]) (st := []) hH rfl c4_119 rfl rfl d4_law_844 h1 h2 rfl rfl ?_
  refine k_go 99 [1158] T4_law12_ok (fun K hK => ?_)
  refine k_eq (z := nI (i + 1)) (nI_add i 1) ?_
  refine k_sa (j := i + 1) (by omega) (by omega) ?_
  refine k_eq (z := nI (i + 2)) (nI_add i 2) ?_
  refine k_sa (j := i + 2) (by omega) (by omega) ?_
  refine hK _ ?_
  refine k_callV (Y' := Y3_on) (as := [.int (xs (i + 1)), .int (xs (i + 2))]) (st := []) hM rfl c4_121 rfl rfl rfl d4_law_862 h1 h2 rfl rfl ?_
  refine k_go 99 [1158] T4_law12_ok (fun K hK => ?_)
  refine hK _ ?_
  refine k_callV (Y' := Y3_thrown) (as := []) (st := []) ht rfl c4_84 rfl rfl rfl d4_law_868 h1 h2 rfl rfl ?_
  refine k_go 99 [1158] T4_law12_ok (fun K hK => ?_)
  refine b_eq (a := k) (b := k) (by omega) (by omega) (fun _ => ?_) (fun q => absurd rfl q)
  refine z_ne (a := k) (by omega) (fun _ => ?_) (fun h0 => ?_)
  · refine hK _ ?_
    refine k_sub5 (i1 := 4) (i2 := 3) (i3 := 2) (i4 := 1) (i5 := 0) rfl rfl rfl rfl rfl ?_
    exact next
  · have ho := ho h0
    refine k_at (j := 0) (by decide) ?_
    refine And.intro (fun _ => ?_) (fun q => absurd (by rw [ho]; exact cmp_self _) q)
    refine hK _ ?_
    refine k_sub5 (i1 := 4) (i2 := 3) (i3 := 2) (i4 := 1) (i5 := 0) rfl rfl rfl rfl rfl ?_
    exact next
theorem lc_ended (hi : i + 4 < L) (hL : L ≤ 2560)
    (hH : k_Met Y4_ended [.ref 0, .int (xs (i + 1)), .ref 44] (hA F A G B o) (.inl (some (.int (nI k))), hA F1 A1 G B o1, mc, ms))
    (hM : k_Met Y3_ended [.ref 24, .int (xs (i + 1))] (hA F1 A1 G B o1) (.inl (some (.int r)), hA F1 A1 G1 B1 o1, 0, 0))
    (hT : G1 0 = nI k) (hk : k < 10) (ho : k = 0 → o1 0 = r.toInt64) (h1 : nc + mc ≤ G9.2.2.1) (h2 : ns + ms ≤ G9.2.2.2)
    (next : k_W Y4_law (some (L, xs)) G9 (1158, ls0 i, [], hA F1 A1 G1 B1 o1, nc + mc, ns + ms)) : k_W Y4_law (some (L, xs)) G9 (898, ls0 i, [], hA F A G B o, nc, ns) := by
  have ht := m3_thk (F := F1) (A := A1) (B := B1) (o := o1) hT
  refine k_go 99 [1158] T4_law13_ok (fun K hK => ?_)
  refine k_eq (z := nI (i + 1)) (nI_add i 1) ?_
  refine k_sa (j := i + 1) (by omega) (by omega) ?_
  refine hK _ ?_
  refine k_callSW (Y' := Y4_ended) (as := [.ref 0, .int (xs (i + 1)), .ref 44]) (st := []) hH rfl c4_122 rfl rfl d4_law_906 h1 h2 rfl rfl ?_
  refine k_go 99 [1158] T4_law13_ok (fun K hK => ?_)
  refine k_eq (z := nI (i + 1)) (nI_add i 1) ?_
  refine k_sa (j := i + 1) (by omega) (by omega) ?_
  refine hK _ ?_
  refine k_callV (Y' := Y3_ended) (as := [.int (xs (i + 1))]) (st := []) hM rfl c4_124 rfl rfl rfl d4_law_918 h1 h2 rfl rfl ?_
  refine k_go 99 [1158] T4_law13_ok (fun K hK => ?_)
  refine hK _ ?_
  refine k_callV (Y' := Y3_thrown) (as := []) (st := []) ht rfl c4_84 rfl rfl rfl d4_law_924 h1 h2 rfl rfl ?_
  refine k_go 99 [1158] T4_law13_ok (fun K hK => ?_)
  refine b_eq (a := k) (b := k) (by omega) (by omega) (fun _ => ?_) (fun q => absurd rfl q)
  refine z_ne (a := k) (by omega) (fun _ => ?_) (fun h0 => ?_)
  · refine hK _ ?_
    refine k_sub5 (i1 := 4) (i2 := 3) (i3 := 2) (i4 := 1) (i5 := 0) rfl rfl rfl rfl rfl ?_
    exact next
  · have ho := ho h0
    refine k_at (j := 0) (by decide) ?_
    refine And.intro (fun _ => ?_) (fun q => absurd (by rw [ho]; exact cmp_self _) q)
    refine hK _ ?_
    refine k_sub5 (i1 := 4) (i2 := 3) (i3 := 2) (i4 := 1) (i5 := 0) rfl rfl rfl rfl rfl ?_
    exact next
theorem lc_length (hi : i + 4 < L) (hL : L ≤ 2560)
    (hH : k_Met Y4_length [.ref 0, .int (xs (i + 1)), .ref 44] (hA F A G B o) (.inl (some (.int (nI k))), hA F1 A1 G B o1, mc, ms))
    (hM : k_Met Y3_length [.ref 24, .int (xs (i + 1))] (hA F1 A1 G B o1) (.inl (some (.int r)), hA F1 A1 G1 B1 o1, 0, 0))
    (hT : G1 0 = nI k) (hk : k < 10) (ho : k = 0 → o1 0 = r.toInt64) (h1 : nc + mc ≤ G9.2.2.1) (h2 : ns + ms ≤ G9.2.2.2)
    (next : k_W Y4_law (some (L, xs)) G9 (1158, ls0 i, [], hA F1 A1 G1 B1 o1, nc + mc, ns + ms)) : k_W Y4_law (some (L, xs)) G9 (954, ls0 i, [], hA F A G B o, nc, ns) := by
  have ht := m3_thk (F := F1) (A := A1) (B := B1) (o := o1) hT
  refine k_go 99 [1158] T4_law14_ok (fun K hK => ?_)
  refine k_eq (z := nI (i + 1)) (nI_add i 1) ?_
  refine k_sa (j := i + 1) (by omega) (by omega) ?_
  refine hK _ ?_
  refine k_callSW (Y' := Y4_length) (as := [.ref 0, .int (xs (i + 1)), .ref 44]) (st := []) hH rfl c4_125 rfl rfl d4_law_962 h1 h2 rfl rfl ?_
  refine k_go 99 [1158] T4_law14_ok (fun K hK => ?_)
  refine k_eq (z := nI (i + 1)) (nI_add i 1) ?_
  refine k_sa (j := i + 1) (by omega) (by omega) ?_
  refine hK _ ?_
  refine k_callV (Y' := Y3_length) (as := [.int (xs (i + 1))]) (st := []) hM rfl c4_127 rfl rfl rfl d4_law_974 h1 h2 rfl rfl ?_
  refine k_go 99 [1158] T4_law14_ok (fun K hK => ?_)
  refine hK _ ?_
  refine k_callV (Y' := Y3_thrown) (as := []) (st := []) ht rfl c4_84 rfl rfl rfl d4_law_980 h1 h2 rfl rfl ?_
  refine k_go 99 [1158] T4_law14_ok (fun K hK => ?_)
  refine b_eq (a := k) (b := k) (by omega) (by omega) (fun _ => ?_) (fun q => absurd rfl q)
  refine z_ne (a := k) (by omega) (fun _ => ?_) (fun h0 => ?_)
  · refine hK _ ?_
    refine k_sub5 (i1 := 4) (i2 := 3) (i3 := 2) (i4 := 1) (i5 := 0) rfl rfl rfl rfl rfl ?_
    exact next
  · have ho := ho h0
    refine k_at (j := 0) (by decide) ?_
    refine And.intro (fun _ => ?_) (fun q => absurd (by rw [ho]; exact cmp_self _) q)
    refine hK _ ?_
    refine k_sub5 (i1 := 4) (i2 := 3) (i3 := 2) (i4 := 1) (i5 := 0) rfl rfl rfl rfl rfl ?_
    exact next
theorem lc_unheard (hi : i + 4 < L) (hL : L ≤ 2560)
    (hH : k_Met Y4_unheard [.ref 0, .int (xs (i + 1)), .int (xs (i + 2)), .ref 44] (hA F A G B o) (.inl (some (.int (nI k))), hA F1 A1 G B o1, mc, ms))
    (hM : k_Met Y3_unheard [.ref 24, .int (xs (i + 1)), .int (xs (i + 2))] (hA F1 A1 G B o1) (.inl (some (.int r)), hA F1 A1 G1 B1 o1, 0, 0))
    (hT : G1 0 = nI k) (hk : k < 10) (ho : k = 0 → o1 0 = r.toInt64) (h1 : nc + mc ≤ G9.2.2.1) (h2 : ns + ms ≤ G9.2.2.2)
    (next : k_W Y4_law (some (L, xs)) G9 (1158, ls0 i, [], hA F1 A1 G1 B1 o1, nc + mc, ns + ms)) : k_W Y4_law (some (L, xs)) G9 (1010, ls0 i, [], hA F A G B o, nc, ns) := by
  have ht := m3_thk (F := F1) (A := A1) (B := B1) (o := o1) hT
  refine k_go 99 [1158] T4_law15_ok (fun K hK => ?_)
  refine k_eq (z := nI (i + 1)) (nI_add i 1) ?_
  refine k_sa (j := i + 1) (by omega) (by omega) ?_
  refine k_eq (z := nI (i + 2)) (nI_add i 2) ?_
  refine k_sa (j := i + 2) (by omega) (by omega) ?_
  refine hK _ ?_
  refine k_callSW (Y' := Y4_unheard) (as := [.ref 0, .int (xs (i + 1)), .int (xs (i + 2)), .ref 44]) (st := []) hH rfl c4_128 rfl rfl d4_law_1024 h1 h2 rfl rfl ?_
  refine k_go 99 [1158] T4_law15_ok (fun K hK => ?_)
  refine k_eq (z := nI (i + 1)) (nI_add i 1) ?_
  refine k_sa (j := i + 1) (by omega) (by omega) ?_
  refine k_eq (z := nI (i + 2)) (nI_add i 2) ?_
  refine k_sa (j := i + 2) (by omega) (by omega) ?_
  refine hK _ ?_
  refine k_callV (Y' := Y3_unheard) (as := [.int (xs (i + 1)), .int (xs (i + 2))]) (st := []) hM rfl c4_130 rfl rfl rfl d4_law_1042 h1 h2 rfl rfl ?_
  refine k_go 99 [1158] T4_law15_ok (fun K hK => ?_)
  refine hK _ ?_
  refine k_callV (Y' := Y3_thrown) (as := []) (st := []) ht rfl c4_84 rfl rfl rfl d4_law_1048 h1 h2 rfl rfl ?_
  refine k_go 99 [1158] T4_law15_ok (fun K hK => ?_)
  refine b_eq (a := k) (b := k) (by omega) (by omega) (fun _ => ?_) (fun q => absurd rfl q)
  refine z_ne (a := k) (by omega) (fun _ => ?_) (fun h0 => ?_)
  · refine hK _ ?_
    refine k_sub5 (i1 := 4) (i2 := 3) (i3 := 2) (i4 := 1) (i5 := 0) rfl rfl rfl rfl rfl ?_
    exact next
  · have ho := ho h0
    refine k_at (j := 0) (by decide) ?_
    refine And.intro (fun _ => ?_) (fun q => absurd (by rw [ho]; exact cmp_self _) q)
    refine hK _ ?_
    refine k_sub5 (i1 := 4) (i2 := 3) (i3 := 2) (i4 := 1) (i5 := 0) rfl rfl rfl rfl rfl ?_
    exact next
theorem lc_used (hi : i + 4 < L) (hL : L ≤ 2560)
    (hH : k_Met Y4_used [.ref 0, .int (xs (i + 1)), .int (xs (i + 2)), .int (xs (i + 3)), .ref 44] (hA F A G B o) (.inl (some (.int (nI k))), hA F1 A1 G B o1, mc, ms))
    (hM : k_Met Y3_used [.ref 24, .int (xs (i + 1)), .int (xs (i + 2)), .int (xs (i + 3))] (hA F1 A1 G B o1) (.inl (some (.int r)), hA F1 A1 G1 B1 o1, 0, 0))
    (hT : G1 0 = nI k) (hk : k < 10) (ho : k = 0 → o1 0 = r.toInt64) (h1 : nc + mc ≤ G9.2.2.1) (h2 : ns + ms ≤ G9.2.2.2)
    (next : k_W Y4_law (some (L, xs)) G9 (1158, ls0 i, [], hA F1 A1 G1 B1 o1, nc + mc, ns + ms)) : k_W Y4_law (some (L, xs)) G9 (1078, ls0 i, [], hA F A G B o, nc, ns) := by
  have ht := m3_thk (F := F1) (A := A1) (B := B1) (o := o1) hT
  refine k_go 99 [1158] T4_law16_ok (fun K hK => ?_)
  refine k_eq (z := nI (i + 1)) (nI_add i 1) ?_
  refine k_sa (j := i + 1) (by omega) (by omega) ?_
  refine k_eq (z := nI (i + 2)) (nI_add i 2) ?_
  refine k_sa (j := i + 2) (by omega) (by omega) ?_
  refine k_eq (z := nI (i + 3)) (nI_add i 3) ?_
  refine k_sa (j := i + 3) (by omega) (by omega) ?_
  refine hK _ ?_
  refine k_callSW (Y' := Y4_used) (as := [.ref 0, .int (xs (i + 1)), .int (xs (i + 2)), .int (xs (i + 3)), .ref 44]) (st := []) hH rfl c4_131 rfl rfl d4_law_1098 h1 h2 rfl rfl ?_
  refine k_go 99 [1158] T4_law16_ok (fun K hK => ?_)
  refine k_eq (z := nI (i + 1)) (nI_add i 1) ?_
  refine k_sa (j := i + 1) (by omega) (by omega) ?_
  refine k_eq (z := nI (i + 2)) (nI_add i 2) ?_
  refine k_sa (j := i + 2) (by omega) (by omega) ?_
  refine k_eq (z := nI (i + 3)) (nI_add i 3) ?_
  refine k_sa (j := i + 3) (by omega) (by omega) ?_
  refine hK _ ?_
  refine k_callV (Y' := Y3_used) (as := [.int (xs (i + 1)), .int (xs (i + 2)), .int (xs (i + 3))]) (st := []) hM rfl c4_134 rfl rfl rfl d4_law_1122 h1 h2 rfl rfl ?_
  refine k_go 99 [1158] T4_law16_ok (fun K hK => ?_)
  refine hK _ ?_
  refine k_callV (Y' := Y3_thrown) (as := []) (st := []) ht rfl c4_84 rfl rfl rfl d4_law_1128 h1 h2 rfl rfl ?_
  refine k_go 99 [1158] T4_law16_ok (fun K hK => ?_)
  refine b_eq (a := k) (b := k) (by omega) (by omega) (fun _ => ?_) (fun q => absurd rfl q)
  refine z_ne (a := k) (by omega) (fun _ => ?_) (fun h0 => ?_)
  · refine hK _ ?_
    refine k_sub5 (i1 := 4) (i2 := 3) (i3 := 2) (i4 := 1) (i5 := 0) rfl rfl rfl rfl rfl ?_
    exact next
  · have ho := ho h0
    refine k_at (j := 0) (by decide) ?_
    refine And.intro (fun _ => ?_) (fun q => absurd (by rw [ho]; exact cmp_self _) q)
    refine hK _ ?_
    refine k_sub5 (i1 := 4) (i2 := 3) (i3 := 2) (i4 := 1) (i5 := 0) rfl rfl rfl rfl rfl ?_
    exact next
end LC
end
section
/-- what a plan knows of one group: its latest message, and for each message first slot, slots, ending -/
abbrev Vw : Type := Nat × (Nat → Nat × Nat × Nat)
def vset (v : Vw) (m : Nat) (t : Nat × Nat × Nat) : Vw := (v.1, fun j => if j = m then t else v.2 j)
def mq (lm w : Nat) : Nat := if 0 < lm ∧ lm < max 1 w then lm else max 1 w
def eo (lm w : Nat) : Nat := if mq lm w < w then 2 else 0
def ptT (T lm : Nat) (wd : Nat → Nat) (m s : Nat) : Nat × Nat × Nat := (s, min (mq lm (wd m)) (T - s), if mq lm (wd m) ≤ T - s then eo lm (wd m) else 4)
def vput (T lm : Nat) (wd : Nat → Nat) (v : Vw) (m s : Nat) : Vw := (m, fun j => if j = m then ptT T lm wd m s else v.2 j)
def vcut (v : Vw) (l s : Nat) : Vw := if s - (v.2 l).1 + 1 < (v.2 l).2.1 then vset v l ((v.2 l).1, s - (v.2 l).1 + 1, 1) else v
abbrev vOn (v : Vw) (m s : Nat) : Prop := (v.2 m).1 ≤ s ∧ s < (v.2 m).1 + (v.2 m).2.1
def vstep (T lm : Nat) (wd rk : Nat → Nat) (v : Vw) (m s : Nat) : Vw :=
  if v.1 = NONE ∨ ¬ vOn v v.1 s then vput T lm wd v m s
  else if rk v.1 < rk m then vput T lm wd (vcut v v.1 s) m (s + 1) else vset v m (s, 0, 3)
def pstep (T lm : Nat) (wd rk bg gm : Nat → Nat) (mt : Nat → Bool) (γ : Nat) (v : Vw) (m : Nat) : Vw :=
  if gm m = γ then (if mt m = true then vset v m (bg m, 0, 3) else vstep T lm wd rk v m (bg m)) else v
abbrev gmA (a : Nat → Nat → Nat) (m : Nat) : Nat := a 18 (a 9 m)
def view (γ : Nat) (a : Nat → Nat → Nat) : Vw := (a 19 γ, fun m => if gmA a m = γ then (a 13 m, a 14 m, a 15 m) else (0, 0, 0))
theorem mq_pos (lm w : Nat) : 0 < mq lm w := by
  unfold mq
  split <;> omega
theorem up2_same (a : Nat → Nat → Nat) (k j v : Nat) : up2 a k j v k = up1 (a k) j v := by unfold up2; rw [if_pos rfl]
theorem up2_ne {a : Nat → Nat → Nat} {k i j v : Nat} (h : i ≠ k) : up2 a k j v i = a i := by unfold up2; rw [if_neg h]
theorem up1_same (f : Nat → Nat) (k v : Nat) : up1 f k v k = v := by unfold up1; rw [if_pos rfl]
theorem up1_ne {f : Nat → Nat} {k j v : Nat} (h : j ≠ k) : up1 f k v j = f j := by unfold up1; rw [if_neg h]
theorem up1_up1 (f : Nat → Nat) (k v w : Nat) : up1 (up1 f k v) k w = up1 f k w := by
  funext j; unfold up1; split <;> rfl
theorem up2_row' {a a' : Nat → Nat → Nat} (h : ∀ k, a k = a' k) : a = a' := funext h
theorem sOn_13 (a : Nat → Nat → Nat) (m x y z : Nat) : sOn a m x y z 13 = up1 (a 13) m x := rfl
theorem sOn_14r (a : Nat → Nat → Nat) (m x y z : Nat) : sOn a m x y z 14 = up1 (a 14) m y := rfl
theorem sOn_15 (a : Nat → Nat → Nat) (m x y z : Nat) : sOn a m x y z 15 = up1 (a 15) m z := rfl
theorem sOn_ne {a : Nat → Nat → Nat} {m x y z k : Nat} (h13 : k ≠ 13) (h14 : k ≠ 14) (h15 : k ≠ 15) : sOn a m x y z k = a k := by
  unfold sOn; rw [up2_ne h15, up2_ne h14, up2_ne h13]
theorem sOn_sOn (a : Nat → Nat → Nat) (m x y z x' y' z' : Nat) : sOn (sOn a m x y z) m x' y' z' = sOn a m x' y' z' := by
  funext k
  by_cases h13 : k = 13
  · subst h13; rw [sOn_13, sOn_13, sOn_13, up1_up1]
  · by_cases h14 : k = 14
    · subst h14; rw [sOn_14r, sOn_14r, sOn_14r, up1_up1]
    · by_cases h15 : k = 15
      · subst h15; rw [sOn_15, sOn_15, sOn_15, up1_up1]
      · rw [sOn_ne h13 h14 h15, sOn_ne h13 h14 h15, sOn_ne h13 h14 h15]
theorem putA_eq (f : Nat → Nat) (a : Nat → Nat → Nat) (m s : Nat) : putA f a m s = sOn (up2 a 19 (gmA a m) m) m s (ptT (f 0) (f 1) (a 11) m s).2.1 (ptT (f 0) (f 1) (a 11) m s).2.2 := by
  unfold putA ptT
  dsimp only
  by_cases h1 : f 1 = 0 ∨ max 1 (a 11 m) ≤ f 1
  · have e1 : mq (f 1) (a 11 m) = max 1 (a 11 m) := by unfold mq; rw [if_neg (by omega)]
    have e2 : eo (f 1) (a 11 m) = 0 := by unfold eo; rw [e1, if_neg (by omega)]
    rw [if_pos h1, e1, e2]
    by_cases h2 : max 1 (a 11 m) ≤ f 0 - s
    · rw [if_pos h2, if_pos h2, Nat.min_eq_left h2]
    · rw [if_neg h2, if_neg h2, sOn_sOn, Nat.min_eq_right (by omega)]
  · have e1 : mq (f 1) (a 11 m) = f 1 := by unfold mq; rw [if_pos (by omega)]
    have e2 : eo (f 1) (a 11 m) = 2 := by unfold eo; rw [e1, if_pos (by omega)]
    rw [if_neg h1, e1, e2]
    by_cases h2 : f 1 ≤ f 0 - s
    · rw [if_pos h2, if_pos h2, Nat.min_eq_left h2]
    · rw [if_neg h2, if_neg h2, sOn_sOn, Nat.min_eq_right (by omega)]
theorem view_eq {γ : Nat} {a : Nat → Nat → Nat} {v : Vw} (h1 : a 19 γ = v.1) (h2 : ∀ m, (if gmA a m = γ then (a 13 m, a 14 m, a 15 m) else (0, 0, 0)) = v.2 m) : view γ a = v := by
  unfold view
  rw [h1]
  exact Prod.ext rfl (funext h2)
theorem view_sOn {γ : Nat} {a : Nat → Nat → Nat} {m x y z : Nat} (h : gmA a m = γ) : view γ (sOn a m x y z) = vset (view γ a) m (x, y, z) := by
  refine view_eq rfl (fun j => ?_)
  show (if gmA a j = γ then (up1 (a 13) m x j, up1 (a 14) m y j, up1 (a 15) m z j) else (0, 0, 0)) = if j = m then (x, y, z) else (if gmA a j = γ then (a 13 j, a 14 j, a 15 j) else (0, 0, 0))
  by_cases hj : j = m
  · subst hj
    rw [if_pos h, if_pos rfl, up1_same, up1_same, up1_same]
  · rw [if_neg hj, up1_ne hj, up1_ne hj, up1_ne hj]
theorem view_sOn' {γ : Nat} {a : Nat → Nat → Nat} {m x y z : Nat} (h : gmA a m ≠ γ) : view γ (sOn a m x y z) = view γ a := by
  refine view_eq rfl (fun j => ?_)
  show (if gmA a j = γ then (up1 (a 13) m x j, up1 (a 14) m y j, up1 (a 15) m z j) else (0, 0, 0)) = (if gmA a j = γ then (a 13 j, a 14 j, a 15 j) else (0, 0, 0))
  by_cases hj : j = m
  · subst hj
    rw [if_neg h, if_neg h]
  · rw [up1_ne hj, up1_ne hj, up1_ne hj]
theorem view_put {γ : Nat} {f : Nat → Nat} {a : Nat → Nat → Nat} {m s : Nat} (h : gmA a m = γ) : view γ (putA f a m s) = vput (f 0) (f 1) (a 11) (view γ a) m s := by
  rw [putA_eq, view_sOn (a := up2 a 19 (gmA a m) m) (m := m) h]
  refine Prod.ext ?_ (funext (fun j => ?_))
  · show up1 (a 19) (gmA a m) m γ = m
    rw [h, up1_same]
  · rfl
theorem view_put' {γ : Nat} {f : Nat → Nat} {a : Nat → Nat → Nat} {m s : Nat} (h : gmA a m ≠ γ) : view γ (putA f a m s) = view γ a := by
  rw [putA_eq, view_sOn' (a := up2 a 19 (gmA a m) m) (m := m) h]
  refine Prod.ext ?_ rfl
  show up1 (a 19) (gmA a m) m γ = a 19 γ
  rw [up1_ne (Ne.symm h)]
theorem view_at {γ : Nat} {a : Nat → Nat → Nat} {m : Nat} (h : gmA a m = γ) : (view γ a).2 m = (a 13 m, a 14 m, a 15 m) := if_pos h
theorem view_cut {γ : Nat} {a : Nat → Nat → Nat} {l s : Nat} (h : gmA a l = γ) : view γ (cutA a l s) = vcut (view γ a) l s := by
  unfold cutA vcut
  rw [view_at h]
  dsimp only
  split
  · exact view_sOn h
  · rfl
theorem view_cut' {γ : Nat} {a : Nat → Nat → Nat} {l s : Nat} (h : gmA a l ≠ γ) : view γ (cutA a l s) = view γ a := by
  unfold cutA
  split
  · exact view_sOn' h
  · rfl
theorem cutA_st (a : Nat → Nat → Nat) (l s k : Nat) (h13 : k ≠ 13) (h14 : k ≠ 14) (h15 : k ≠ 15) : cutA a l s k = a k := by
  unfold cutA
  split
  · exact sOn_ne h13 h14 h15
  · rfl
theorem planA_view {γ : Nat} {f : Nat → Nat} {a : Nat → Nat → Nat} {p : Nat} (h19 : a 19 (gmA a (a 16 p)) = NONE ∨ gmA a (a 19 (gmA a (a 16 p))) = gmA a (a 16 p)) {mt : Nat → Bool} (hmt : mt (a 16 p) = meB f a p) :
    view γ (planA f a p) = pstep (f 0) (f 1) (a 11) (a 12) (a 10) (gmA a) mt γ (view γ a) (a 16 p) := by
  unfold planA planX pstep
  rw [hmt]
  generalize a 16 p = m at h19 ⊢
  by_cases hg : gmA a m = γ
  · rw [if_pos hg]
    by_cases hm : meB f a p = true
    · rw [if_pos hm, if_pos hm]
      exact view_sOn hg
    · rw [if_neg hm, if_neg hm]
      unfold vstep
      have e1 : (view γ a).1 = a 19 (a 18 (a 9 m)) := by show a 19 γ = _; rw [← hg]
      rw [e1]
      by_cases hl : a 19 (a 18 (a 9 m)) = NONE
      · rw [if_pos (Or.inl hl), if_pos (Or.inl hl)]
        exact view_put hg
      · have hgl : gmA a (a 19 (a 18 (a 9 m))) = γ := by
          rcases h19 with h | h
          · exact absurd h hl
          · exact h.trans hg
        have eo : vOn (view γ a) (a 19 (a 18 (a 9 m))) (a 10 m) ↔ onP a (a 19 (a 18 (a 9 m))) (a 10 m) := by
          unfold vOn
          rw [view_at hgl]
        by_cases ho : onP a (a 19 (a 18 (a 9 m))) (a 10 m)
        · have c1 : ¬ (a 19 (a 18 (a 9 m)) = NONE ∨ ¬ onP a (a 19 (a 18 (a 9 m))) (a 10 m)) := fun q => q.elim hl (fun z => z ho)
          have c2 : ¬ (a 19 (a 18 (a 9 m)) = NONE ∨ ¬ vOn (view γ a) (a 19 (a 18 (a 9 m))) (a 10 m)) := fun q => q.elim hl (fun z => z (eo.mpr ho))
          rw [if_neg c1, if_neg c2]
          by_cases hr : a 12 (a 19 (a 18 (a 9 m))) < a 12 m
          · rw [if_pos hr, if_pos hr]
            have s11 : cutA a (a 19 (a 18 (a 9 m))) (a 10 m) 11 = a 11 := cutA_st _ _ _ _ (by decide) (by decide) (by decide)
            have s18 : cutA a (a 19 (a 18 (a 9 m))) (a 10 m) 18 = a 18 := cutA_st _ _ _ _ (by decide) (by decide) (by decide)
            have s9 : cutA a (a 19 (a 18 (a 9 m))) (a 10 m) 9 = a 9 := cutA_st _ _ _ _ (by decide) (by decide) (by decide)
            have hg2 : gmA (cutA a (a 19 (a 18 (a 9 m))) (a 10 m)) m = γ := by unfold gmA; rw [s18, s9]; exact hg
            rw [view_put hg2, view_cut hgl, s11]
          · rw [if_neg hr, if_neg hr]
            exact view_sOn hg
        · rw [if_pos (Or.inr ho), if_pos (Or.inr (fun q => ho (eo.mp q)))]
          exact view_put hg
  · rw [if_neg hg]
    by_cases hm : meB f a p = true
    · rw [if_pos hm]
      exact view_sOn' hg
    · rw [if_neg hm]
      by_cases hl : a 19 (a 18 (a 9 m)) = NONE ∨ ¬ onP a (a 19 (a 18 (a 9 m))) (a 10 m)
      · rw [if_pos hl]
        exact view_put' hg
      · rw [if_neg hl]
        by_cases hr : a 12 (a 19 (a 18 (a 9 m))) < a 12 m
        · rw [if_pos hr]
          have s18 : cutA a (a 19 (a 18 (a 9 m))) (a 10 m) 18 = a 18 := cutA_st _ _ _ _ (by decide) (by decide) (by decide)
          have s9 : cutA a (a 19 (a 18 (a 9 m))) (a 10 m) 9 = a 9 := cutA_st _ _ _ _ (by decide) (by decide) (by decide)
          have hg2 : gmA (cutA a (a 19 (a 18 (a 9 m))) (a 10 m)) m ≠ γ := by unfold gmA; rw [s18, s9]; exact hg
          have hgl : gmA a (a 19 (a 18 (a 9 m))) ≠ γ := by
            rcases h19 with h | h
            · exact absurd (Or.inl h) hl
            · rw [h]; exact hg
          rw [view_put' hg2, view_cut' hgl]
        · rw [if_neg hr]
          exact view_sOn' hg
end
section
theorem exB_iff {P : Nat → Bool} : ∀ (n i : Nat), exB P n i = true ↔ ∃ j, i ≤ j ∧ j < i + n ∧ P j = true := by
  intro n
  induction n with
  | zero => intro i; constructor
            · intro h; cases h
            · rintro ⟨j, h1, h2, _⟩; omega
  | succ n ih =>
    intro i
    show (P i || exB P n (i + 1)) = true ↔ _
    rw [Bool.or_eq_true, ih (i + 1)]
    constructor
    · rintro (h | ⟨j, h1, h2, h3⟩)
      · exact ⟨i, by omega, by omega, h⟩
      · exact ⟨j, by omega, by omega, h3⟩
    · rintro ⟨j, h1, h2, h3⟩
      by_cases hj : j = i
      · subst hj; exact Or.inl h3
      · exact Or.inr ⟨j, by omega, by omega, h3⟩
theorem dnS_iff {a : Nat → Nat → Nat} {m : Nat} : ∀ (k : Nat) (b : Bool), dnS a m k b = true ↔ b = true ∨ ∃ q, q < k ∧ (∀ j, q ≤ j → j < k → a 10 (a 16 j) = a 10 m) ∧ kpP a (a 16 q) m := by
  intro k
  induction k with
  | zero => intro b; constructor
            · intro h; exact Or.inl h
            · rintro (h | ⟨q, h, _⟩)
              · exact h
              · omega
  | succ k ih =>
    intro b
    show (if a 10 (a 16 k) = a 10 m then dnS a m k (b || decide (kpP a (a 16 k) m)) else b) = true ↔ _
    by_cases h : a 10 (a 16 k) = a 10 m
    · rw [if_pos h, ih, Bool.or_eq_true, decide_eq_true_eq]
      constructor
      · rintro ((h1 | h1) | ⟨q, h1, h2, h3⟩)
        · exact Or.inl h1
        · refine Or.inr ⟨k, by omega, fun j h2 h3 => ?_, h1⟩
          have : j = k := by omega
          rw [this]; exact h
        · refine Or.inr ⟨q, by omega, fun j h4 h5 => ?_, h3⟩
          by_cases hj : j = k
          · rw [hj]; exact h
          · exact h2 j h4 (by omega)
      · rintro (h1 | ⟨q, h1, h2, h3⟩)
        · exact Or.inl (Or.inl h1)
        · by_cases hq : q = k
          · subst hq; exact Or.inl (Or.inr h3)
          · exact Or.inr ⟨q, by omega, fun j h4 h5 => h2 j h4 (by omega), h3⟩
    · rw [if_neg h]
      constructor
      · exact fun h1 => Or.inl h1
      · rintro (h1 | ⟨q, h1, h2, h3⟩)
        · exact h1
        · exact absurd (h2 k (by omega) (by omega)) h
theorem upS_iff {a : Nat → Nat → Nat} {m : Nat} : ∀ (n p : Nat) (b : Bool), upS a m n p b = true ↔ b = true ∨ ∃ q, p ≤ q ∧ q < p + n ∧ (∀ j, p ≤ j → j ≤ q → a 10 (a 16 j) = a 10 m) ∧ kpP a (a 16 q) m := by
  intro n
  induction n with
  | zero => intro p b; constructor
            · intro h; exact Or.inl h
            · rintro (h | ⟨q, h, h1, _⟩)
              · exact h
              · omega
  | succ n ih =>
    intro p b
    show (if a 10 (a 16 p) = a 10 m then upS a m n (p + 1) (b || decide (kpP a (a 16 p) m)) else b) = true ↔ _
    by_cases h : a 10 (a 16 p) = a 10 m
    · rw [if_pos h, ih, Bool.or_eq_true, decide_eq_true_eq]
      constructor
      · rintro ((h1 | h1) | ⟨q, h1, h2, h3, h4⟩)
        · exact Or.inl h1
        · refine Or.inr ⟨p, by omega, by omega, fun j h2 h3 => ?_, h1⟩
          have : j = p := by omega
          rw [this]; exact h
        · refine Or.inr ⟨q, by omega, by omega, fun j h5 h6 => ?_, h4⟩
          by_cases hj : j = p
          · rw [hj]; exact h
          · exact h3 j (by omega) h6
      · rintro (h1 | ⟨q, h1, h2, h3, h4⟩)
        · exact Or.inl (Or.inl h1)
        · by_cases hq : q = p
          · subst hq; exact Or.inl (Or.inr h4)
          · exact Or.inr ⟨q, by omega, by omega, fun j h5 h6 => h3 j (by omega) h6, h4⟩
    · rw [if_neg h]
      constructor
      · exact fun h1 => Or.inl h1
      · rintro (h1 | ⟨q, h1, h2, h3, h4⟩)
        · exact h1
        · exact absurd (h3 p (by omega) (by omega)) h
/-- the places are sorted by begin, and each message has one -/
def Srt (N : Nat) (r bg : Nat → Nat) : Prop :=
  (∀ i j, i < j → j < N → bg (r i) ≤ bg (r j)) ∧ (∀ i j, i < j → j < N → r i ≠ r j) ∧ (∀ m, m < N → ∃ p, p < N ∧ r p = m) ∧ ∀ p, p < N → r p < N
def mtB (N : Nat) (rk bg gm : Nat → Nat) (m : Nat) : Bool := exB (fun q => decide (q ≠ m) && decide (bg q = bg m) && decide (gm q = gm m) && decide (rk m ≤ rk q)) N 0
theorem mtB_iff {N : Nat} {rk bg gm : Nat → Nat} {m : Nat} : mtB N rk bg gm m = true ↔ ∃ q, q < N ∧ q ≠ m ∧ bg q = bg m ∧ gm q = gm m ∧ rk m ≤ rk q := by
  unfold mtB
  rw [exB_iff]
  constructor
  · rintro ⟨j, _, h2, h3⟩
    simp only [Bool.and_eq_true, decide_eq_true_eq] at h3
    exact ⟨j, by omega, h3.1.1.1, h3.1.1.2, h3.1.2, h3.2⟩
  · rintro ⟨j, h1, h2, h3, h4, h5⟩
    refine ⟨j, by omega, by omega, ?_⟩
    simp only [Bool.and_eq_true, decide_eq_true_eq]
    exact ⟨⟨⟨h2, h3⟩, h4⟩, h5⟩
theorem meB_mt {f : Nat → Nat} {a : Nat → Nat → Nat} (S : Srt (f 4) (a 16) (a 10)) {p : Nat} (hp : p < f 4) : mtB (f 4) (a 12) (a 10) (gmA a) (a 16 p) = meB f a p := by
  obtain ⟨s1, s2, s3, s4⟩ := S
  rw [Bool.eq_iff_iff, mtB_iff]
  unfold meB
  rw [upS_iff, dnS_iff]
  constructor
  · rintro ⟨m', h1, h2, h3, h4, h5⟩
    obtain ⟨q, hq, rfl⟩ := s3 m' h1
    have hqp : q ≠ p := fun e => h2 (by rw [e])
    by_cases hlt : q < p
    · refine Or.inl (Or.inr ⟨q, hlt, fun j h6 h7 => ?_, h4, h5⟩)
      have e1 : a 10 (a 16 q) ≤ a 10 (a 16 j) := by
        by_cases e : q = j
        · rw [e]; exact Nat.le_refl _
        · exact s1 q j (by omega) (by omega)
      have e2 := s1 j p h7 hp
      omega
    · refine Or.inr ⟨q, by omega, by omega, fun j h6 h7 => ?_, h4, h5⟩
      have e1 : a 10 (a 16 j) ≤ a 10 (a 16 q) := by
        by_cases e : j = q
        · rw [e]; exact Nat.le_refl _
        · exact s1 j q (by omega) (by omega)
      have e2 := s1 p j (by omega) (by omega)
      omega
  · rintro ((h | ⟨q, h1, h2, h3⟩) | ⟨q, h1, h2, h3, h4⟩)
    · cases h
    · exact ⟨a 16 q, s4 q (by omega), s2 q p h1 hp, h2 q (by omega) h1, h3.1, h3.2⟩
    · exact ⟨a 16 q, s4 q (by omega), Ne.symm (s2 p q (by omega) (by omega)), h3 q (by omega) (by omega), h4.1, h4.2⟩
theorem planA_st {f : Nat → Nat} {a : Nat → Nat → Nat} {p k : Nat} (h13 : k ≠ 13) (h14 : k ≠ 14) (h15 : k ≠ 15) (h19 : k ≠ 19) : planA f a p k = a k := by
  have put : ∀ (a : Nat → Nat → Nat) (m s : Nat), putA f a m s k = a k := fun a m s => by
    rw [putA_eq, sOn_ne h13 h14 h15, up2_ne h19]
  unfold planA planX
  split
  · exact sOn_ne h13 h14 h15
  · split
    · exact put _ _ _
    · split
      · rw [put, cutA_st _ _ _ _ h13 h14 h15]
      · exact sOn_ne h13 h14 h15
def L19 (a : Nat → Nat → Nat) : Prop := ∀ j, j < 6 → a 19 j = NONE ∨ gmA a (a 19 j) = j
theorem L19_plan {f : Nat → Nat} {a : Nat → Nat → Nat} {p : Nat} (h : L19 a) : L19 (planA f a p) := by
  have s18 : planA f a p 18 = a 18 := planA_st (by decide) (by decide) (by decide) (by decide)
  have s9 : planA f a p 9 = a 9 := planA_st (by decide) (by decide) (by decide) (by decide)
  intro j hj
  show planA f a p 19 j = NONE ∨ planA f a p 18 (planA f a p 9 (planA f a p 19 j)) = j
  rw [s18, s9]
  have put : ∀ (b : Nat → Nat → Nat) (m s : Nat), b 18 = a 18 → b 9 = a 9 → b 19 = a 19 → putA f b m s 19 j = NONE ∨ a 18 (a 9 (putA f b m s 19 j)) = j := by
    intro b m s e18 e9 e19
    rw [putA_eq, sOn_ne (by decide) (by decide) (by decide), up2_same]
    unfold up1
    split
    · next e => right; rw [e]; show _ = b 18 (b 9 m); rw [e18, e9]
    · rw [e19]; exact h j hj
  unfold planA planX
  split
  · rw [sOn_ne (by decide) (by decide) (by decide)]; exact h j hj
  · split
    · exact put a _ _ rfl rfl rfl
    · split
      · exact put _ _ _ (cutA_st _ _ _ _ (by decide) (by decide) (by decide)) (cutA_st _ _ _ _ (by decide) (by decide) (by decide)) (cutA_st _ _ _ _ (by decide) (by decide) (by decide))
      · rw [sOn_ne (by decide) (by decide) (by decide)]; exact h j hj
theorem planN_st {f : Nat → Nat} {a : Nat → Nat → Nat} {k : Nat} (h13 : k ≠ 13) (h14 : k ≠ 14) (h15 : k ≠ 15) (h19 : k ≠ 19) : ∀ n, planN f a n k = a k := by
  intro n
  induction n with
  | zero => rfl
  | succ n ih => show planA f (planN f a n) n k = a k
                 rw [planA_st h13 h14 h15 h19, ih]
theorem L19_planN {f : Nat → Nat} {a : Nat → Nat → Nat} (h : L19 a) : ∀ n, L19 (planN f a n) := by
  intro n
  induction n with
  | zero => exact h
  | succ n ih => exact L19_plan ih
theorem planN_view {f : Nat → Nat} {a : Nat → Nat → Nat} (S : Srt (f 4) (a 16) (a 10)) (h19 : L19 a) (h18 : ∀ j, a 18 j < 6) (γ : Nat) : ∀ n, n ≤ f 4 →
    view γ (planN f a n) = ((List.range n).map (a 16)).foldl (pstep (f 0) (f 1) (a 11) (a 12) (a 10) (gmA a) (mtB (f 4) (a 12) (a 10) (gmA a)) γ) (view γ a) := by
  intro n
  induction n with
  | zero => intro _; rfl
  | succ n ih =>
    intro hn
    have e : ∀ k, k ≠ 13 → k ≠ 14 → k ≠ 15 → k ≠ 19 → planN f a n k = a k := fun k h1 h2 h3 h4 => planN_st h1 h2 h3 h4 n
    have e9 := e 9 (by decide) (by decide) (by decide) (by decide)
    have e10 := e 10 (by decide) (by decide) (by decide) (by decide)
    have e11 := e 11 (by decide) (by decide) (by decide) (by decide)
    have e12 := e 12 (by decide) (by decide) (by decide) (by decide)
    have e16 := e 16 (by decide) (by decide) (by decide) (by decide)
    have e18 := e 18 (by decide) (by decide) (by decide) (by decide)
    have eg : gmA (planN f a n) = gmA a := by funext m; show planN f a n 18 (planN f a n 9 m) = _; rw [e18, e9]
    have S2 : Srt (f 4) (planN f a n 16) (planN f a n 10) := by rw [e16, e10]; exact S
    have hme := meB_mt (f := f) (a := planN f a n) S2 (p := n) (by omega)
    rw [eg, e12, e10] at hme
    have h19n : planN f a n 19 (gmA (planN f a n) (planN f a n 16 n)) = NONE ∨ gmA (planN f a n) (planN f a n 19 (gmA (planN f a n) (planN f a n 16 n))) = gmA (planN f a n) (planN f a n 16 n) := by
      refine L19_planN h19 n _ ?_
      rw [eg]; exact h18 _
    have hv := planA_view (γ := γ) h19n (mt := mtB (f 4) (a 12) (a 10) (gmA a)) hme
    rw [eg, e10, e11, e12, e16] at hv
    show view γ (planA f (planN f a n) n) = _
    rw [hv, ih (by omega), List.range_succ, List.map_append, List.foldl_append]
    rfl
section FO
variable {T lm : Nat} {wd rk bg gm : Nat → Nat} {mt : Nat → Bool} {γ : Nat}
theorem fold_none {s : Nat} : ∀ (B : List Nat) (v : Vw), (∀ m ∈ B, bg m = s) → (∀ m ∈ B, gm m = γ → mt m = true) →
    B.foldl (pstep T lm wd rk bg gm mt γ) v = (v.1, fun m => if m ∈ B ∧ gm m = γ then (s, 0, 3) else v.2 m) := by
  intro B
  induction B with
  | nil => intro v _ _; refine Prod.ext rfl (funext fun m => ?_); simp
  | cons x B ih =>
    intro v h1 h2
    rw [List.foldl_cons, ih _ (fun m hm => h1 m (List.mem_cons_of_mem _ hm)) (fun m hm => h2 m (List.mem_cons_of_mem _ hm))]
    unfold pstep
    by_cases hg : gm x = γ
    · rw [if_pos hg, if_pos (h2 x List.mem_cons_self hg), h1 x List.mem_cons_self]
      refine Prod.ext rfl (funext fun m => ?_)
      show (if m ∈ B ∧ gm m = γ then (s, 0, 3) else (if m = x then (s, 0, 3) else v.2 m)) = if m ∈ x :: B ∧ gm m = γ then (s, 0, 3) else v.2 m
      by_cases hm : m = x
      · subst hm
        rw [if_pos rfl, if_pos (c := m ∈ m :: B ∧ gm m = γ) ⟨List.mem_cons_self, hg⟩]; split <;> rfl
      · rw [if_neg hm]
        simp [List.mem_cons, hm]
    · rw [if_neg hg]
      refine Prod.ext rfl (funext fun m => ?_)
      show (if m ∈ B ∧ gm m = γ then (s, 0, 3) else v.2 m) = if m ∈ x :: B ∧ gm m = γ then (s, 0, 3) else v.2 m
      by_cases hm : m = x
      · subst hm
        rw [if_neg (fun q => hg q.2), if_neg (fun q => hg q.2)]
      · simp [List.mem_cons, hm]
theorem vset_ne {v : Vw} {x m : Nat} {t : Nat × Nat × Nat} (h : m ≠ x) : (vset v x t).2 m = v.2 m := if_neg h
theorem vstep_set {v : Vw} {x c s : Nat} {t : Nat × Nat × Nat} (hc : x ≠ c) (hl : x ≠ v.1) : vstep T lm wd rk (vset v x t) c s = vset (vstep T lm wd rk v c s) x t := by
  have e1 : (vset v x t).1 = v.1 := rfl
  have e2 : (vset v x t).2 v.1 = v.2 v.1 := if_neg (Ne.symm hl)
  have cm : ∀ (g : Nat → Nat × Nat × Nat) (y z : Nat × Nat × Nat) (q : Nat), x ≠ q → (fun j => if j = q then y else (if j = x then z else g j)) = fun j => if j = x then z else (if j = q then y else g j) := by
    intro g y z q hq
    funext j
    by_cases h1 : j = q
    · rw [if_pos h1, if_neg (fun e => hq (e.symm.trans h1)), if_pos h1]
    · by_cases h2 : j = x
      · rw [if_neg h1, if_pos h2, if_pos h2]
      · rw [if_neg h1, if_neg h2, if_neg h2, if_neg h1]
  have cut : vcut (vset v x t) v.1 s = vset (vcut v v.1 s) x t := by
    unfold vcut
    rw [e2]
    split
    · exact Prod.ext rfl (cm v.2 _ t v.1 hl)
    · rfl
  unfold vstep
  unfold vOn
  rw [e1, e2]
  split
  · exact Prod.ext rfl (cm v.2 _ t c hc)
  · split
    · rw [cut]
      exact Prod.ext rfl (cm _ _ t c hc)
    · exact Prod.ext rfl (cm v.2 _ t c hc)
theorem fold_one {s c : Nat} : ∀ (B : List Nat) (v : Vw), B.Nodup → (∀ m ∈ B, bg m = s) → c ∈ B → gm c = γ → mt c = false → (∀ m ∈ B, m ≠ c → gm m = γ → mt m = true) → v.1 ∉ B →
    B.foldl (pstep T lm wd rk bg gm mt γ) v = ((vstep T lm wd rk v c s).1, fun m => if m ∈ B ∧ gm m = γ ∧ m ≠ c then (s, 0, 3) else (vstep T lm wd rk v c s).2 m) := by
  intro B
  induction B with
  | nil => intro v _ _ h; cases h
  | cons x B ih =>
    intro v hnd h1 hc hgc hmc h2 hl
    have hnd1 := (List.nodup_cons.mp hnd).1
    have hnd2 := (List.nodup_cons.mp hnd).2
    rw [List.foldl_cons]
    by_cases hx : x = c
    · subst hx
      rw [fold_none (s := s) B _ (fun m hm => h1 m (List.mem_cons_of_mem _ hm)) (fun m hm hg => h2 m (List.mem_cons_of_mem _ hm) (fun e => hnd1 (e ▸ hm)) hg)]
      unfold pstep
      rw [if_pos hgc, if_neg (by rw [hmc]; decide), h1 x List.mem_cons_self]
      refine Prod.ext rfl (funext fun m => ?_)
      dsimp only
      by_cases hm : m ∈ B ∧ gm m = γ
      · rw [if_pos hm, if_pos ⟨List.mem_cons_of_mem _ hm.1, hm.2, fun e => hnd1 (e ▸ hm.1)⟩]
      · rw [if_neg hm, if_neg]
        rintro ⟨q1, q2, q3⟩
        rcases List.mem_cons.mp q1 with q | q
        · exact q3 q
        · exact hm ⟨q, q2⟩
    · have hcB : c ∈ B := by
        rcases List.mem_cons.mp hc with q | q
        · exact absurd q.symm hx
        · exact q
      have hlx : x ≠ v.1 := fun e => hl (e ▸ List.mem_cons_self)
      have hlB : v.1 ∉ B := fun q => hl (List.mem_cons_of_mem _ q)
      by_cases hg : gm x = γ
      · have e0 : pstep T lm wd rk bg gm mt γ v x = vset v x (s, 0, 3) := by
          unfold pstep
          rw [if_pos hg, if_pos (h2 x List.mem_cons_self hx hg), h1 x List.mem_cons_self]
        rw [e0, ih (vset v x (s, 0, 3)) hnd2 (fun m hm => h1 m (List.mem_cons_of_mem _ hm)) hcB hgc hmc (fun m hm => h2 m (List.mem_cons_of_mem _ hm)) hlB, vstep_set hx hlx]
        refine Prod.ext rfl (funext fun m => ?_)
        dsimp only
        by_cases hm : m = x
        · subst hm
          rw [if_neg (fun q => hnd1 q.1), if_pos ⟨List.mem_cons_self, hg, hx⟩]
          exact if_pos rfl
        · rw [vset_ne hm]
          simp [List.mem_cons, hm]
      · have e0 : pstep T lm wd rk bg gm mt γ v x = v := by
          unfold pstep
          rw [if_neg hg]
        rw [e0, ih _ hnd2 (fun m hm => h1 m (List.mem_cons_of_mem _ hm)) hcB hgc hmc (fun m hm => h2 m (List.mem_cons_of_mem _ hm)) hlB]
        refine Prod.ext rfl (funext fun m => ?_)
        dsimp only
        by_cases hm : m = x
        · subst hm
          rw [if_neg (fun q => hg q.2.1), if_neg (fun q => hg q.2.1)]
        · simp [List.mem_cons, hm]
theorem filt_split {s : Nat} : ∀ (O : List Nat), O.Pairwise (fun x y => bg x ≤ bg y) → O.filter (fun m => decide (bg m < s + 1)) = O.filter (fun m => decide (bg m < s)) ++ O.filter (fun m => decide (bg m = s)) := by
  intro O
  induction O with
  | nil => intro _; rfl
  | cons x O ih =>
    intro h
    have hx := (List.pairwise_cons.mp h).1
    have hO := (List.pairwise_cons.mp h).2
    have ih := ih hO
    by_cases h1 : bg x < s
    · rw [List.filter_cons_of_pos (by simpa using Nat.lt_succ_of_lt h1), List.filter_cons_of_pos (by simpa using h1), List.filter_cons_of_neg (by simp; omega), ih]
      rfl
    · have none : O.filter (fun m => decide (bg m < s)) = [] := by
        rw [List.filter_eq_nil_iff]
        intro m hm
        have := hx m hm
        simp; omega
      rw [none, List.nil_append] at ih
      have e1 : (x :: O).filter (fun m => decide (bg m < s)) = [] := by rw [List.filter_cons_of_neg (by simpa using h1), none]
      rw [e1, List.nil_append]
      by_cases h2 : bg x = s
      · rw [List.filter_cons_of_pos (by simp; omega), List.filter_cons_of_pos (by simpa using h2), ih]
      · rw [List.filter_cons_of_neg (by simp; omega), List.filter_cons_of_neg (by simpa using h2), ih]
end FO
end
section
abbrev gmM (b : Nat → Nat → Nat) (m : Nat) : Nat := b 0 (b 13 m)
abbrev inG (b : Nat → Nat → Nat) (c s m : Nat) : Prop := gmM b m = c ∧ b 10 m = s
def CInv (b : Nat → Nat → Nat) (c s i : Nat) (q : k_T3) : Prop :=
  (∀ k, k ≠ 17 → k ≠ 18 → q.1 k = b k) ∧
  (∀ m, q.1 17 m = if m < i ∧ inG b c s m then 3 else b 17 m) ∧ (∀ m, q.1 18 m = if m < i ∧ inG b c s m then 0 else b 18 m) ∧
  (q.2.1 = NONE → q.2.2 = true ∧ ∀ m, m < i → ¬ inG b c s m) ∧
  (q.2.1 ≠ NONE → q.2.1 < i ∧ inG b c s q.2.1 ∧ (∀ m, m < i → inG b c s m → b 12 m ≤ b 12 q.2.1) ∧ (q.2.2 = true → ∀ m, m < i → inG b c s m → m ≠ q.2.1 → b 12 m < b 12 q.2.1) ∧
    (q.2.2 = false → ∃ m, m < i ∧ inG b c s m ∧ m ≠ q.2.1 ∧ b 12 q.2.1 ≤ b 12 m))
theorem CInv_s {b : Nat → Nat → Nat} {c s i : Nat} {q : k_T3} (hi : i < 60) (h : CInv b c s i q) : CInv b c s (i + 1) (cl1 c s i q) := by
  obtain ⟨hs, h17, h18, hN, hB⟩ := h
  have e0 := hs 0 (by decide) (by decide)
  have e10 := hs 10 (by decide) (by decide)
  have e12 := hs 12 (by decide) (by decide)
  have e13 := hs 13 (by decide) (by decide)
  have ni : i ≠ NONE := n60 hi
  have lt : ∀ m, m < i + 1 → m ≠ i → m < i := fun m h1 h2 => by omega
  unfold cl1
  by_cases hP : inG b c s i
  · rw [if_pos (by rw [e0, e13, e10]; exact hP)]
    have r17 : ∀ m, up1 (q.1 17) i 3 m = if m < i + 1 ∧ inG b c s m then 3 else b 17 m := by
      intro m
      by_cases hm : m = i
      · subst hm; rw [up1_same, if_pos ⟨by omega, hP⟩]
      · rw [up1_ne hm, h17]
        have : (m < i ∧ inG b c s m) ↔ (m < i + 1 ∧ inG b c s m) := ⟨fun q => ⟨by omega, q.2⟩, fun q => ⟨by omega, q.2⟩⟩
        simp only [this]
    have r18 : ∀ m, up1 (q.1 18) i 0 m = if m < i + 1 ∧ inG b c s m then 0 else b 18 m := by
      intro m
      by_cases hm : m = i
      · subst hm; rw [up1_same, if_pos ⟨by omega, hP⟩]
      · rw [up1_ne hm, h18]
        have : (m < i ∧ inG b c s m) ↔ (m < i + 1 ∧ inG b c s m) := ⟨fun q => ⟨by omega, q.2⟩, fun q => ⟨by omega, q.2⟩⟩
        simp only [this]
    have rs : ∀ k, k ≠ 17 → k ≠ 18 → up2 (up2 q.1 17 i 3) 18 i 0 k = b k := fun k h1 h2 => by rw [up2_ne h2, up2_ne h1, hs k h1 h2]
    by_cases hb : q.2.1 = NONE ∨ q.1 12 q.2.1 < q.1 12 i
    · rw [if_pos hb]
      refine ⟨rs, r17, r18, fun h => absurd h ni, fun _ => ⟨by dsimp only; omega, hP, ?_, fun _ => ?_, fun h => by cases h⟩⟩
      · intro m h1 h2
        by_cases hm : m = i
        · subst hm; exact Nat.le_refl _
        · rcases hb with hb | hb
          · exact absurd h2 ((hN hb).2 m (lt m h1 hm))
          · rw [e12] at hb
            by_cases hq : q.2.1 = NONE
            · exact absurd h2 ((hN hq).2 m (lt m h1 hm))
            · have := (hB hq).2.2.1 m (lt m h1 hm) h2
              dsimp only; omega
      · intro m h1 h2 hm
        rcases hb with hb | hb
        · exact absurd h2 ((hN hb).2 m (lt m h1 hm))
        · rw [e12] at hb
          by_cases hq : q.2.1 = NONE
          · exact absurd h2 ((hN hq).2 m (lt m h1 hm))
          · have := (hB hq).2.2.1 m (lt m h1 hm) h2
            dsimp only; omega
    · rw [if_neg hb]
      have hq : q.2.1 ≠ NONE := fun e => hb (Or.inl e)
      have hle : b 12 i ≤ b 12 q.2.1 := by
        rw [e12] at hb
        exact Nat.le_of_not_lt (fun h => hb (Or.inr h))
      obtain ⟨b1, b2, b3, b4, b5⟩ := hB hq
      refine ⟨rs, r17, r18, fun h => absurd h hq, fun _ => ⟨by dsimp only; omega, b2, ?_, ?_, ?_⟩⟩
      · intro m h1 h2
        by_cases hm : m = i
        · subst hm; exact hle
        · exact b3 m (lt m h1 hm) h2
      · dsimp only
        rw [e12]
        intro h m h1 h2 h3
        by_cases e : b 12 i = b 12 q.2.1
        · rw [if_pos e] at h; cases h
        · rw [if_neg e] at h
          by_cases hm : m = i
          · subst hm; omega
          · exact b4 h m (lt m h1 hm) h2 h3
      · dsimp only
        rw [e12]
        intro h
        by_cases e : b 12 i = b 12 q.2.1
        · exact ⟨i, by omega, hP, by omega, by omega⟩
        · rw [if_neg e] at h
          obtain ⟨m, m1, m2, m3, m4⟩ := b5 h
          exact ⟨m, by omega, m2, m3, m4⟩
  · rw [if_neg (by rw [e0, e13, e10]; exact hP)]
    have sam : ∀ m, (m < i ∧ inG b c s m) ↔ (m < i + 1 ∧ inG b c s m) := fun m => ⟨fun q => ⟨by omega, q.2⟩, fun q => ⟨by
      have : m ≠ i := fun e => hP (e ▸ q.2)
      omega, q.2⟩⟩
    refine ⟨hs, fun m => by rw [h17]; simp only [sam], fun m => by rw [h18]; simp only [sam], fun h => ⟨(hN h).1, fun m h1 h2 => (hN h).2 m ((sam m).mpr ⟨h1, h2⟩).1 h2⟩, fun h => ?_⟩
    obtain ⟨b1, b2, b3, b4, b5⟩ := hB h
    refine ⟨by omega, b2, fun m h1 h2 => b3 m ((sam m).mpr ⟨h1, h2⟩).1 h2, fun h0 m h1 h2 h3 => b4 h0 m ((sam m).mpr ⟨h1, h2⟩).1 h2 h3, fun h0 => ?_⟩
    obtain ⟨m, m1, m2, m3, m4⟩ := b5 h0
    exact ⟨m, by omega, m2, m3, m4⟩
theorem CInv_n {b : Nat → Nat → Nat} {c s : Nat} : ∀ (n i : Nat) (q : k_T3), i + n ≤ 60 → CInv b c s i q → CInv b c s (i + n) (clN c s n i q) := by
  intro n
  induction n with
  | zero => intro i q _ h; exact h
  | succ n ih =>
    intro i q h1 h
    have := ih (i + 1) (cl1 c s i q) (by omega) (CInv_s (by omega) h)
    rw [show i + 1 + n = i + (n + 1) from by omega] at this
    exact this
theorem caller_spec {g : Nat → Nat} {b : Nat → Nat → Nat} {c s : Nat} (h5 : g 5 ≤ 60) :
    (∀ k, k ≠ 17 → k ≠ 18 → (clr0 g b c s).1 k = b k) ∧ (∀ m, (clr0 g b c s).1 17 m = if m < g 5 ∧ inG b c s m then 3 else b 17 m) ∧ (∀ m, (clr0 g b c s).1 18 m = if m < g 5 ∧ inG b c s m then 0 else b 18 m) ∧
    ((clC (clr0 g b c s) = NONE ∧ ∀ m, m < g 5 → inG b c s m → mtB (g 5) (b 12) (b 10) (gmM b) m = true) ∨
     (clC (clr0 g b c s) < g 5 ∧ inG b c s (clC (clr0 g b c s)) ∧ mtB (g 5) (b 12) (b 10) (gmM b) (clC (clr0 g b c s)) = false ∧ ∀ m, m < g 5 → inG b c s m → m ≠ clC (clr0 g b c s) → mtB (g 5) (b 12) (b 10) (gmM b) m = true)) := by
  have h : CInv b c s (0 + g 5) (clr0 g b c s) := CInv_n (g 5) 0 (b, NONE, true) (by omega) ⟨fun _ _ _ => rfl, fun m => by rw [if_neg (by omega)], fun m => by rw [if_neg (by omega)], fun _ => ⟨rfl, fun m h => by omega⟩, fun h => absurd rfl h⟩
  rw [Nat.zero_add] at h
  obtain ⟨hs, h17, h18, hN, hB⟩ := h
  refine ⟨hs, h17, h18, ?_⟩
  unfold clC
  by_cases ho : (clr0 g b c s).2.2 = true
  · rw [if_pos ho]
    by_cases hq : (clr0 g b c s).2.1 = NONE
    · exact Or.inl ⟨hq, fun m h1 h2 => absurd h2 ((hN hq).2 m h1)⟩
    · obtain ⟨b1, b2, b3, b4, b5⟩ := hB hq
      have b4 := b4 ho
      refine Or.inr ⟨b1, b2, ?_, fun m h1 h2 h3 => ?_⟩
      · cases e : mtB (g 5) (b 12) (b 10) (gmM b) (clr0 g b c s).2.1 with
        | false => rfl
        | true =>
          obtain ⟨m, m1, m2, m3, m4, m5⟩ := mtB_iff.mp e
          have := b4 m m1 ⟨m4.trans b2.1, m3.trans b2.2⟩ m2
          omega
      · exact mtB_iff.mpr ⟨_, b1, Ne.symm h3, b2.2.trans h2.2.symm, b2.1.trans h2.1.symm, b3 m h1 h2⟩
  · rw [if_neg ho]
    have ho : (clr0 g b c s).2.2 = false := by cases e : (clr0 g b c s).2.2 with
      | false => rfl
      | true => exact absurd e ho
    by_cases hq : (clr0 g b c s).2.1 = NONE
    · rw [(hN hq).1] at ho; cases ho
    · obtain ⟨b1, b2, b3, b4, b5⟩ := hB hq
      obtain ⟨m0, m1, m2, m3, m4⟩ := b5 ho
      refine Or.inl ⟨rfl, fun m h1 h2 => ?_⟩
      by_cases hm : m = (clr0 g b c s).2.1
      · refine mtB_iff.mpr ⟨m0, m1, ?_, m2.2.trans h2.2.symm, m2.1.trans h2.1.symm, ?_⟩
        · rw [hm]; exact m3
        · rw [hm]; exact m4
      · exact mtB_iff.mpr ⟨_, b1, Ne.symm hm, b2.2.trans h2.2.symm, b2.1.trans h2.1.symm, b3 m h1 h2⟩
end
section
/-- the messages of a group that began ahead of a slot -/
abbrev Stt (N : Nat) (gm bg : Nat → Nat) (γ s m : Nat) : Prop := m < N ∧ gm m = γ ∧ bg m < s
/-- the reference's rows say of the slots ahead of s what the view says -/
def Rg (N : Nat) (gm bg wd : Nat → Nat) (γ s s' : Nat) (v : Vw) (b : Nat → Nat → Nat) : Prop :=
  (∀ m, Stt N gm bg γ s' m → b 18 m = min (v.2 m).2.1 (s - (v.2 m).1)) ∧
  (∀ m, Stt N gm bg γ s' m → (v.2 m).1 + (v.2 m).2.1 ≤ s → b 17 m = (v.2 m).2.2) ∧
  (∀ t, t < s → b 15 t = NONE ∨ Stt N gm bg γ s (b 15 t)) ∧
  (∀ t, t < s → ∀ m, Stt N gm bg γ s' m → (b 15 t = m ↔ vOn v m t)) ∧
  (∀ t, t < s → b 15 t ≠ NONE → b 16 t = if wd (b 15 t) = 0 then 0 else t - (v.2 (b 15 t)).1 + 1)
def Vf (N T lm : Nat) (gm bg wd : Nat → Nat) (γ s : Nat) (v : Vw) : Prop :=
  (v.1 = NONE ∨ (Stt N gm bg γ s v.1 ∧ (v.2 v.1).1 ≤ s ∧ v.2 v.1 = ptT T lm wd v.1 (v.2 v.1).1)) ∧
  (∀ m, Stt N gm bg γ s m → m ≠ v.1 → (v.2 m).1 + (v.2 m).2.1 ≤ s)
section TM
variable {g : Nat → Nat} {b2 : Nat → Nat → Nat} {gm bg wd : Nat → Nat} {γ s x : Nat} {cuts : Bool} {v : Vw}
theorem stB_none (h : x = NONE) : (stB g b2 s x cuts).1 = up2 b2 15 s NONE := by
  unfold stB; rw [if_pos h]
theorem stB_some (h : x ≠ NONE) : (stB g b2 s x cuts).1 = up2 (up2 (up2 (up2 b2 15 s x) 18 x (b2 18 x + 1)) 16 s (if b2 11 x = 0 then 0 else b2 18 x + 1)) 17 x (if ovB g b2 x = true then eof g b2 x else if s + 1 = g 1 then 4 else 1) := by
  unfold stB; rw [if_neg h]
theorem time_step (hN : g 5 ≤ 60) (hwd : b2 11 = wd) (R : Rg (g 5) gm bg wd γ s (s + 1) v b2) (hx : x = NONE ∨ (Stt (g 5) gm bg γ (s + 1) x ∧ vOn v x s ∧ ((v.2 x).1 + (v.2 x).2.1 = s + 1 → (if ovB g b2 x = true then eof g b2 x else if s + 1 = g 1 then 4 else 1) = (v.2 x).2.2)))
    (hoff : ∀ m, Stt (g 5) gm bg γ (s + 1) m → m ≠ x → ¬ vOn v m s) (hfi : ∀ m, Stt (g 5) gm bg γ (s + 1) m → (v.2 m).1 ≤ s + 1) (hfut : ∀ m, Stt (g 5) gm bg γ (s + 1) m → (v.2 m).1 = s + 1 → (v.2 m).2.1 = 0 → b2 17 m = (v.2 m).2.2) :
    Rg (g 5) gm bg wd γ (s + 1) (s + 1) v (stB g b2 s x cuts).1 := by
  obtain ⟨r1, r2, r3, r4, r5⟩ := R
  have oth : ∀ m, Stt (g 5) gm bg γ (s + 1) m → m ≠ x → (v.2 m).1 + (v.2 m).2.1 ≤ s ∨ (v.2 m).1 = s + 1 := by
    intro m h1 h2
    have h3 := hoff m h1 h2
    have h4 := hfi m h1
    unfold vOn at h3
    omega
  have o18 : ∀ m, Stt (g 5) gm bg γ (s + 1) m → m ≠ x → b2 18 m = min (v.2 m).2.1 (s + 1 - (v.2 m).1) := by
    intro m h1 h2
    rw [r1 m h1]
    rcases oth m h1 h2 with h | h <;> omega
  have o17 : ∀ m, Stt (g 5) gm bg γ (s + 1) m → m ≠ x → (v.2 m).1 + (v.2 m).2.1 ≤ s + 1 → b2 17 m = (v.2 m).2.2 := by
    intro m h1 h2 h3
    rcases oth m h1 h2 with h | h
    · exact r2 m h1 h
    · exact hfut m h1 h (by omega)
  by_cases hn : x = NONE
  · rw [stB_none hn]
    have nx : ∀ m, Stt (g 5) gm bg γ (s + 1) m → m ≠ x := fun m h => fun e => n60 (Nat.lt_of_lt_of_le h.1 hN) (e.trans hn)
    refine ⟨fun m h => o18 m h (nx m h), fun m h => o17 m h (nx m h), ?_, ?_, ?_⟩
    · intro t ht
      show up1 (b2 15) s NONE t = NONE ∨ Stt (g 5) gm bg γ (s + 1) (up1 (b2 15) s NONE t)
      by_cases e : t = s
      · rw [e, up1_same]; exact Or.inl rfl
      · rw [up1_ne e]
        rcases r3 t (by omega) with h | h
        · exact Or.inl h
        · exact Or.inr ⟨h.1, h.2.1, by omega⟩
    · intro t ht m hm
      show up1 (b2 15) s NONE t = m ↔ vOn v m t
      by_cases e : t = s
      · subst e
        rw [up1_same]
        exact ⟨fun q => absurd q.symm (hn ▸ nx m hm), fun q => absurd q (hoff m hm (nx m hm))⟩
      · rw [up1_ne e]
        exact r4 t (by omega) m hm
    · intro t ht
      show up1 (b2 15) s NONE t ≠ NONE → b2 16 t = if wd (up1 (b2 15) s NONE t) = 0 then 0 else t - (v.2 (up1 (b2 15) s NONE t)).1 + 1
      by_cases e : t = s
      · rw [e, up1_same]; exact fun q => absurd rfl q
      · rw [up1_ne e]
        exact r5 t (by omega)
  · rcases hx with hx | ⟨hS, hon, hend⟩
    · exact absurd hx hn
    · rw [stB_some hn]
      have x18 := r1 x hS
      have hon2 := hon
      unfold vOn at hon2
      have e18 : b2 18 x = s - (v.2 x).1 := by rw [x18]; omega
      refine ⟨?_, ?_, ?_, ?_, ?_⟩
      · intro m hm
        show up1 (b2 18) x (b2 18 x + 1) m = _
        by_cases e : m = x
        · subst e; rw [up1_same, e18]; omega
        · rw [up1_ne e]; exact o18 m hm e
      · intro m hm hle
        show up1 (b2 17) x (if ovB g b2 x = true then eof g b2 x else if s + 1 = g 1 then 4 else 1) m = _
        by_cases e : m = x
        · subst e; rw [up1_same]; exact hend (by omega)
        · rw [up1_ne e]; exact o17 m hm e hle
      · intro t ht
        show up1 (b2 15) s x t = NONE ∨ Stt (g 5) gm bg γ (s + 1) (up1 (b2 15) s x t)
        by_cases e : t = s
        · rw [e, up1_same]; exact Or.inr hS
        · rw [up1_ne e]
          rcases r3 t (by omega) with h | h
          · exact Or.inl h
          · exact Or.inr ⟨h.1, h.2.1, by omega⟩
      · intro t ht m hm
        show up1 (b2 15) s x t = m ↔ vOn v m t
        by_cases e : t = s
        · subst e
          rw [up1_same]
          by_cases e2 : m = x
          · subst e2; exact ⟨fun _ => hon, fun _ => rfl⟩
          · exact ⟨fun q => absurd q.symm e2, fun q => absurd q (hoff m hm e2)⟩
        · rw [up1_ne e]
          exact r4 t (by omega) m hm
      · intro t ht
        show up1 (b2 15) s x t ≠ NONE → up1 (b2 16) s (if b2 11 x = 0 then 0 else b2 18 x + 1) t = if wd (up1 (b2 15) s x t) = 0 then 0 else t - (v.2 (up1 (b2 15) s x t)).1 + 1
        by_cases e : t = s
        · subst e
          rw [up1_same, up1_same, hwd, e18]
          exact fun _ => rfl
        · rw [up1_ne e, up1_ne e]
          exact r5 t (by omega)
theorem Rg_step {N : Nat} (hN : N ≤ 60) {b : Nat → Nat → Nat} {v' : Vw} (R : Rg N gm bg wd γ s s v b) (h15 : b2 15 = b 15) (h16 : b2 16 = b 16)
    (hold : ∀ m, Stt N gm bg γ s m → b2 18 m = b 18 m ∧ b2 17 m = b 17 m)
    (o1 : ∀ m, Stt N gm bg γ s m → (v'.2 m).1 = (v.2 m).1 ∧ min (v'.2 m).2.1 (s - (v.2 m).1) = min (v.2 m).2.1 (s - (v.2 m).1) ∧ ((v'.2 m).1 + (v'.2 m).2.1 ≤ s → v'.2 m = v.2 m) ∧ ∀ t, t < s → (vOn v' m t ↔ vOn v m t))
    (n1 : ∀ m, m < N → gm m = γ → bg m = s → b2 18 m = 0 ∧ s ≤ (v'.2 m).1 ∧ ((v'.2 m).1 + (v'.2 m).2.1 ≤ s → b2 17 m = (v'.2 m).2.2)) : Rg N gm bg wd γ s (s + 1) v' b2 := by
  obtain ⟨r1, r2, r3, r4, r5⟩ := R
  have cas : ∀ m, Stt N gm bg γ (s + 1) m → Stt N gm bg γ s m ∨ (m < N ∧ gm m = γ ∧ bg m = s) := fun m h => by
    by_cases e : bg m < s
    · exact Or.inl ⟨h.1, h.2.1, e⟩
    · exact Or.inr ⟨h.1, h.2.1, by omega⟩
  refine ⟨?_, ?_, ?_, ?_, ?_⟩
  · intro m hm
    rcases cas m hm with h | h
    · obtain ⟨p1, p2, p3, p4⟩ := o1 m h
      rw [(hold m h).1, r1 m h, p1, p2]
    · obtain ⟨q1, q2, q3⟩ := n1 m h.1 h.2.1 h.2.2
      rw [q1]; omega
  · intro m hm hle
    rcases cas m hm with h | h
    · obtain ⟨p1, p2, p3, p4⟩ := o1 m h
      have e := p3 hle
      rw [(hold m h).2, e]
      rw [e] at hle
      exact r2 m h hle
    · exact (n1 m h.1 h.2.1 h.2.2).2.2 hle
  · intro t ht
    rw [h15]
    exact r3 t ht
  · intro t ht m hm
    rw [h15]
    rcases cas m hm with h | h
    · rw [(o1 m h).2.2.2 t ht]; exact r4 t ht m h
    · constructor
      · intro q
        rcases r3 t ht with z | z
        · exact absurd (q.symm.trans z) (n60 (Nat.lt_of_lt_of_le h.1 hN))
        · rw [q] at z; exact absurd h.2.2 (by have := z.2.2; omega)
      · intro q
        have := (n1 m h.1 h.2.1 h.2.2).2.1
        unfold vOn at q
        omega
  · intro t ht hne
    rw [h15] at hne ⊢
    rw [h16, r5 t ht hne]
    rcases r3 t ht with z | z
    · exact absurd z hne
    · rw [(o1 _ z).1]
end TM
end
section
/-- at the head of a slot: the reference's state and the view agree -/
def Hd (g : Nat → Nat) (b0 : Nat → Nat → Nat) (γ s : Nat) (v : Vw) (q : (Nat → Nat → Nat) × Nat × Nat) : Prop :=
  (∀ k, k ≠ 15 → k ≠ 16 → k ≠ 17 → k ≠ 18 → q.1 k = b0 k) ∧ Vf (g 5) (g 1) (g 2) (gmM b0) (b0 10) (b0 11) γ s v ∧ Rg (g 5) (gmM b0) (b0 10) (b0 11) γ s s v q.1 ∧
  (s < g 1 → (if q.2.2 = NONE then q.2.1 else q.2.2) = if v.1 ≠ NONE ∧ s < (v.2 v.1).1 + (v.2 v.1).2.1 then v.1 else NONE)
/-- the rows behind the caller's sweep -/
def Swp (g : Nat → Nat) (b0 b b1 : Nat → Nat → Nat) (γ s : Nat) : Prop :=
  (∀ k, k ≠ 15 → k ≠ 16 → k ≠ 17 → k ≠ 18 → b1 k = b0 k) ∧ b1 15 = b 15 ∧ b1 16 = b 16 ∧
  (∀ m, Stt (g 5) (gmM b0) (b0 10) γ s m → b1 18 m = b 18 m ∧ b1 17 m = b 17 m) ∧
  (∀ m, m < g 5 → gmM b0 m = γ → b0 10 m = s → b1 18 m = 0 ∧ b1 17 m = 3)
section SL
variable {g : Nat → Nat} {b0 b b1 b2 : Nat → Nat → Nat} {γ s x c nx2 : Nat} {v v' : Vw} {cuts : Bool}
theorem endE {F sl en : Nat} (hwd : b2 11 = b0 11) (e : (F, sl, en) = ptT (g 1) (g 2) (b0 11) x F) (h1 : F ≤ s) (h2 : s < F + sl) (h18 : b2 18 x = s - F) :
    (ovB g b2 x = true → F + sl = s + 1) ∧ (F + sl = s + 1 → (if ovB g b2 x = true then eof g b2 x else if s + 1 = g 1 then 4 else 1) = en) ∧ (ovB g b2 x = false → s + 1 < g 1 → s + 1 < F + sl) ∧ F + sl ≤ g 1 := by
  have e1 : sl = min (mq (g 2) (b0 11 x)) (g 1 - F) := congrArg (fun z => z.2.1) e
  have e2 : en = if mq (g 2) (b0 11 x) ≤ g 1 - F then eo (g 2) (b0 11 x) else 4 := congrArg (fun z => z.2.2) e
  have em : mst g b2 x = mq (g 2) (b0 11 x) := by show mq (g 2) (b2 11 x) = _; rw [hwd]
  have ee : eof g b2 x = eo (g 2) (b0 11 x) := by show eo (g 2) (b2 11 x) = _; rw [hwd]
  have eov : ovB g b2 x = decide (s - F + 1 = mq (g 2) (b0 11 x)) := by unfold ovB; rw [em, h18]
  rw [eov, ee]
  generalize mq (g 2) (b0 11 x) = q at e1 e2 ⊢
  refine ⟨fun h => ?_, fun h => ?_, fun h h3 => ?_, by omega⟩
  · have := of_decide_eq_true h; omega
  · by_cases ho : s - F + 1 = q
    · rw [if_pos (decide_eq_true ho), e2, if_pos (by omega)]
    · rw [if_neg (by rw [decide_eq_false ho]; decide), if_pos (by omega), e2, if_neg (by omega)]
  · have := of_decide_eq_false h; omega
theorem stB_st {k : Nat} (h15 : k ≠ 15) (h16 : k ≠ 16) (h17 : k ≠ 17) (h18 : k ≠ 18) : (stB g b2 s x cuts).1 k = b2 k := by
  by_cases h : x = NONE
  · rw [stB_none h, up2_ne h15]
  · rw [stB_some h, up2_ne h17, up2_ne h16, up2_ne h18, up2_ne h15]
theorem slot_fin (hN : g 5 ≤ 60) (hst : ∀ k, k ≠ 15 → k ≠ 16 → k ≠ 17 → k ≠ 18 → b2 k = b0 k) (R : Rg (g 5) (gmM b0) (b0 10) (b0 11) γ s (s + 1) v' b2)
    (hx : x = NONE ∨ (Stt (g 5) (gmM b0) (b0 10) γ (s + 1) x ∧ vOn v' x s ∧ ((v'.2 x).1 + (v'.2 x).2.1 = s + 1 → (if ovB g b2 x = true then eof g b2 x else if s + 1 = g 1 then 4 else 1) = (v'.2 x).2.2)))
    (hoff : ∀ m, Stt (g 5) (gmM b0) (b0 10) γ (s + 1) m → m ≠ x → ¬ vOn v' m s) (hfi : ∀ m, Stt (g 5) (gmM b0) (b0 10) γ (s + 1) m → (v'.2 m).1 ≤ s + 1) (hfut : ∀ m, Stt (g 5) (gmM b0) (b0 10) γ (s + 1) m → (v'.2 m).1 = s + 1 → (v'.2 m).2.1 = 0 → b2 17 m = (v'.2 m).2.2)
    (V : Vf (g 5) (g 1) (g 2) (gmM b0) (b0 10) (b0 11) γ (s + 1) v')
    (hon : s + 1 < g 1 → (if nx2 = NONE then (stB g b2 s x cuts).2 else nx2) = if v'.1 ≠ NONE ∧ s + 1 < (v'.2 v'.1).1 + (v'.2 v'.1).2.1 then v'.1 else NONE) : Hd g b0 γ (s + 1) v' ((stB g b2 s x cuts).1, (stB g b2 s x cuts).2, nx2) :=
  ⟨fun k h1 h2 h3 h4 => (stB_st h1 h2 h3 h4).trans (hst k h1 h2 h3 h4), V, time_step hN (hst 11 (by decide) (by decide) (by decide) (by decide)) R hx hoff hfi hfut, hon⟩
theorem stt_cas {N : Nat} {gm bg : Nat → Nat} {m : Nat} (h : Stt N gm bg γ (s + 1) m) : Stt N gm bg γ s m ∨ (m < N ∧ gm m = γ ∧ bg m = s) := by
  by_cases e : bg m < s
  · exact Or.inl ⟨h.1, h.2.1, e⟩
  · exact Or.inr ⟨h.1, h.2.1, by have := h.2.2; omega⟩
theorem slot_ND (hN : g 5 ≤ 60) (W : Swp g b0 b b1 γ s) (V : Vf (g 5) (g 1) (g 2) (gmM b0) (b0 10) (b0 11) γ s v) (R : Rg (g 5) (gmM b0) (b0 10) (b0 11) γ s s v b)
    (hx : x = if v.1 ≠ NONE ∧ s < (v.2 v.1).1 + (v.2 v.1).2.1 then v.1 else NONE) (e1 : v'.1 = v.1)
    (eo : ∀ m, Stt (g 5) (gmM b0) (b0 10) γ s m → v'.2 m = v.2 m) (en : ∀ m, m < g 5 → gmM b0 m = γ → b0 10 m = s → v'.2 m = (s, 0, 3)) : Hd g b0 γ (s + 1) v' ((stB g b1 s x false).1, (stB g b1 s x false).2, NONE) := by
  obtain ⟨w1, w2, w3, w4, w5⟩ := W
  obtain ⟨V1, V2⟩ := V
  have hwd := w1 11 (by decide) (by decide) (by decide) (by decide)
  have R2 : Rg (g 5) (gmM b0) (b0 10) (b0 11) γ s (s + 1) v' b1 := by
    refine Rg_step hN R w2 w3 w4 (fun m h => ?_) (fun m h1 h2 h3 => ?_)
    · rw [eo m h]; exact ⟨rfl, rfl, fun _ => rfl, fun t _ => by unfold vOn; rw [eo m h]⟩
    · rw [en m h1 h2 h3]; exact ⟨(w5 m h1 h2 h3).1, Nat.le_refl _, fun _ => (w5 m h1 h2 h3).2⟩
  have up : ∀ m, Stt (g 5) (gmM b0) (b0 10) γ s m → Stt (g 5) (gmM b0) (b0 10) γ (s + 1) m := fun m h => ⟨h.1, h.2.1, by have := h.2.2; omega⟩
  have main : ∀ (hl : v.1 = NONE ∨ (v.2 v.1).1 + (v.2 v.1).2.1 ≤ s ∨ x = v.1), ∀ m, Stt (g 5) (gmM b0) (b0 10) γ (s + 1) m → m ≠ x → ¬ vOn v' m s := by
    intro hl m hm hne
    unfold vOn
    rcases stt_cas hm with h | h
    · rw [eo m h]
      by_cases hv : m = v.1
      · rcases hl with hl | hl | hl
        · exact absurd (hv.trans hl) (n60 (Nat.lt_of_lt_of_le h.1 hN))
        · rw [hv]; omega
        · exact absurd (hv.trans hl.symm) hne
      · have := V2 m h hv; omega
    · rw [en m h.1 h.2.1 h.2.2]; dsimp only; omega
  have fi : ∀ m, Stt (g 5) (gmM b0) (b0 10) γ (s + 1) m → (v'.2 m).1 ≤ s := by
    intro m hm
    rcases stt_cas hm with h | h
    · rw [eo m h]
      by_cases hv : m = v.1
      · rcases V1 with V1 | V1
        · exact absurd (hv.trans V1) (n60 (Nat.lt_of_lt_of_le h.1 hN))
        · rw [hv]; exact V1.2.1
      · have := V2 m h hv; omega
    · rw [en m h.1 h.2.1 h.2.2]; exact Nat.le_refl _
  have Vn : Vf (g 5) (g 1) (g 2) (gmM b0) (b0 10) (b0 11) γ (s + 1) v' := by
    refine ⟨?_, fun m hm hne => ?_⟩
    · rcases V1 with V1 | V1
      · exact Or.inl (e1.trans V1)
      · refine Or.inr ?_
        rw [e1, eo v.1 V1.1]
        exact ⟨up _ V1.1, by have := V1.2.1; omega, V1.2.2⟩
    · rw [e1] at hne
      rcases stt_cas hm with h | h
      · rw [eo m h]; have := V2 m h hne; omega
      · rw [en m h.1 h.2.1 h.2.2]; dsimp only; omega
  by_cases hl : v.1 ≠ NONE ∧ s < (v.2 v.1).1 + (v.2 v.1).2.1
  · rw [if_pos hl] at hx
    rcases V1 with V1 | V1
    · exact absurd V1 hl.1
    · have e18 : b1 18 v.1 = s - (v.2 v.1).1 := by
        rw [(w4 _ V1.1).1, R.1 _ V1.1]; have := hl.2; omega
      obtain ⟨E1, E2, E3, E4⟩ := endE (g := g) (x := v.1) (b0 := b0) (F := (v.2 v.1).1) (sl := (v.2 v.1).2.1) (en := (v.2 v.1).2.2) hwd V1.2.2 V1.2.1 hl.2 e18
      have ev := eo _ V1.1
      refine slot_fin hN w1 R2 (Or.inr ?_) (main (Or.inr (Or.inr hx))) (fun m h => Nat.le_succ_of_le (fi m h)) (fun m h h2 => absurd (fi m h) (by omega)) Vn (fun h => ?_)
      · rw [hx]
        unfold vOn
        rw [ev]
        exact ⟨up _ V1.1, ⟨V1.2.1, hl.2⟩, E2⟩
      · rw [if_pos rfl, hx, e1, ev]
        have e2 : (stB g b1 s v.1 false).2 = if (ovB g b1 v.1 || false) = true then NONE else v.1 := by unfold stB; rw [if_neg hl.1]
        rw [e2, Bool.or_false]
        cases ho : ovB g b1 v.1 with
        | true =>
          have := E1 ho
          rw [if_pos rfl, if_neg (by omega)]
        | false =>
          have := E3 ho h
          rw [if_neg (by decide), if_pos ⟨hl.1, this⟩]
  · rw [if_neg hl] at hx
    have hl2 : v.1 = NONE ∨ (v.2 v.1).1 + (v.2 v.1).2.1 ≤ s := by
      by_cases h : v.1 = NONE
      · exact Or.inl h
      · exact Or.inr (Nat.le_of_not_lt (fun q => hl ⟨h, q⟩))
    refine slot_fin hN w1 R2 (Or.inl hx) (main (hl2.elim Or.inl (fun h => Or.inr (Or.inl h)))) (fun m h => Nat.le_succ_of_le (fi m h)) (fun m h h2 => absurd (fi m h) (by omega)) Vn (fun h => ?_)
    have e2 : (stB g b1 s x false).2 = NONE := by unfold stB; rw [if_pos hx]
    rw [if_pos rfl, e2, e1, if_neg]
    rintro ⟨q1, q2⟩
    rcases V1 with V1 | V1
    · exact q1 V1
    · rw [eo _ V1.1] at q2
      rcases hl2 with h | h
      · exact q1 h
      · omega
theorem slot_P (hN : g 5 ≤ 60) (hs : s < g 1) (W : Swp g b0 b b1 γ s) (V : Vf (g 5) (g 1) (g 2) (gmM b0) (b0 10) (b0 11) γ s v) (R : Rg (g 5) (gmM b0) (b0 10) (b0 11) γ s s v b)
    (hl : ¬ (v.1 ≠ NONE ∧ s < (v.2 v.1).1 + (v.2 v.1).2.1)) (hc1 : c < g 5) (hc2 : gmM b0 c = γ) (hc3 : b0 10 c = s) (e1 : v'.1 = c) (ec : v'.2 c = ptT (g 1) (g 2) (b0 11) c s)
    (eo : ∀ m, Stt (g 5) (gmM b0) (b0 10) γ s m → v'.2 m = v.2 m) (en : ∀ m, m < g 5 → gmM b0 m = γ → b0 10 m = s → m ≠ c → v'.2 m = (s, 0, 3)) : Hd g b0 γ (s + 1) v' ((stB g b1 s c false).1, (stB g b1 s c false).2, NONE) := by
  obtain ⟨w1, w2, w3, w4, w5⟩ := W
  obtain ⟨V1, V2⟩ := V
  have hwd := w1 11 (by decide) (by decide) (by decide) (by decide)
  have cn : c ≠ NONE := n60 (Nat.lt_of_lt_of_le hc1 hN)
  have f1 : (v'.2 c).1 = s := by rw [ec]; rfl
  have f2 : (v'.2 c).2.1 = min (mq (g 2) (b0 11 c)) (g 1 - s) := by rw [ec]; rfl
  have qp := mq_pos (g 2) (b0 11 c)
  have c18 := (w5 c hc1 hc2 hc3).1
  have old : ∀ m, Stt (g 5) (gmM b0) (b0 10) γ s m → (v.2 m).1 + (v.2 m).2.1 ≤ s := by
    intro m h
    by_cases hv : m = v.1
    · have hne : v.1 ≠ NONE := hv ▸ n60 (Nat.lt_of_lt_of_le h.1 hN)
      rw [hv]
      exact Nat.le_of_not_lt (fun q => hl ⟨hne, q⟩)
    · exact V2 m h hv
  have R2 : Rg (g 5) (gmM b0) (b0 10) (b0 11) γ s (s + 1) v' b1 := by
    refine Rg_step hN R w2 w3 w4 (fun m h => ?_) (fun m h1 h2 h3 => ?_)
    · rw [eo m h]; exact ⟨rfl, rfl, fun _ => rfl, fun t _ => by unfold vOn; rw [eo m h]⟩
    · by_cases hm : m = c
      · subst hm
        exact ⟨c18, by omega, fun h => by omega⟩
      · rw [en m h1 h2 h3 hm]; exact ⟨(w5 m h1 h2 h3).1, Nat.le_refl _, fun _ => (w5 m h1 h2 h3).2⟩
  have SC : Stt (g 5) (gmM b0) (b0 10) γ (s + 1) c := ⟨hc1, hc2, by omega⟩
  obtain ⟨E1, E2, E3, E4⟩ := endE (g := g) (x := c) (b0 := b0) (F := s) (sl := (v'.2 c).2.1) (en := (v'.2 c).2.2) hwd (by rw [ec]; rfl) (Nat.le_refl _) (by omega) (by rw [c18]; omega)
  have fi : ∀ m, Stt (g 5) (gmM b0) (b0 10) γ (s + 1) m → (v'.2 m).1 ≤ s := by
    intro m hm
    rcases stt_cas hm with h | h
    · rw [eo m h]; have := old m h; omega
    · by_cases e : m = c
      · rw [e]; omega
      · rw [en m h.1 h.2.1 h.2.2 e]; exact Nat.le_refl _
  refine slot_fin hN w1 R2 (Or.inr ⟨SC, ⟨by omega, by omega⟩, by rw [f1]; exact E2⟩) ?_ (fun m h => Nat.le_succ_of_le (fi m h)) (fun m h h2 => absurd (fi m h) (by omega)) ⟨Or.inr ?_, ?_⟩ (fun h => ?_)
  · intro m hm hne
    unfold vOn
    rcases stt_cas hm with h | h
    · rw [eo m h]; have := old m h; omega
    · rw [en m h.1 h.2.1 h.2.2 hne]; dsimp only; omega
  · rw [e1, f1]
    exact ⟨SC, by omega, ec⟩
  · intro m hm hne
    rw [e1] at hne
    rcases stt_cas hm with h | h
    · rw [eo m h]; have := old m h; omega
    · rw [en m h.1 h.2.1 h.2.2 hne]; dsimp only; omega
  · rw [if_pos rfl, e1, f1]
    have e2 : (stB g b1 s c false).2 = if (ovB g b1 c || false) = true then NONE else c := by unfold stB; rw [if_neg cn]
    rw [e2, Bool.or_false]
    cases ho : ovB g b1 c with
    | true =>
      have := E1 ho
      rw [if_pos rfl, if_neg (by omega)]
    | false =>
      have := E3 ho h
      rw [if_neg (by decide), if_pos ⟨cn, this⟩]
theorem slot_C (hN : g 5 ≤ 60) (hs : s < g 1) (W : Swp g b0 b b1 γ s) (V : Vf (g 5) (g 1) (g 2) (gmM b0) (b0 10) (b0 11) γ s v) (R : Rg (g 5) (gmM b0) (b0 10) (b0 11) γ s s v b)
    (hl : v.1 ≠ NONE ∧ s < (v.2 v.1).1 + (v.2 v.1).2.1) (hc1 : c < g 5) (hc2 : gmM b0 c = γ) (hc3 : b0 10 c = s) (e1 : v'.1 = c) (ec : v'.2 c = ptT (g 1) (g 2) (b0 11) c (s + 1))
    (el : v'.2 v.1 = if s - (v.2 v.1).1 + 1 < (v.2 v.1).2.1 then ((v.2 v.1).1, s - (v.2 v.1).1 + 1, 1) else v.2 v.1)
    (eo : ∀ m, Stt (g 5) (gmM b0) (b0 10) γ s m → m ≠ v.1 → v'.2 m = v.2 m) (en : ∀ m, m < g 5 → gmM b0 m = γ → b0 10 m = s → m ≠ c → v'.2 m = (s, 0, 3)) : Hd g b0 γ (s + 1) v' ((stB g (up2 b1 17 c 4) s v.1 true).1, (stB g (up2 b1 17 c 4) s v.1 true).2, c) := by
  obtain ⟨w1, w2, w3, w4, w5⟩ := W
  obtain ⟨V1, V2⟩ := V
  rcases V1 with V1 | ⟨VS, Vle, Vpt⟩
  · exact absurd V1 hl.1
  have hwd := w1 11 (by decide) (by decide) (by decide) (by decide)
  have cn : c ≠ NONE := n60 (Nat.lt_of_lt_of_le hc1 hN)
  have f1 : (v'.2 c).1 = s + 1 := by rw [ec]; rfl
  have f2 : (v'.2 c).2.1 = min (mq (g 2) (b0 11 c)) (g 1 - (s + 1)) := by rw [ec]; rfl
  have qp := mq_pos (g 2) (b0 11 c)
  have f3 : (v'.2 c).2.1 = 0 → (v'.2 c).2.2 = 4 := by
    intro h
    have h2 : ¬ mq (g 2) (b0 11 c) ≤ g 1 - (s + 1) := by omega
    rw [ec]
    exact if_neg h2
  have c18 := (w5 c hc1 hc2 hc3).1
  have nlc : v.1 ≠ c := fun e => by
    have := VS.2.2
    rw [e, hc3] at this; omega
  have L1 : (v'.2 v.1).1 = (v.2 v.1).1 := by rw [el]; split <;> rfl
  have L2 : (v'.2 v.1).2.1 = s - (v.2 v.1).1 + 1 := by
    rw [el]
    split
    · rfl
    · have := hl.2; omega
  have c17 : ∀ m, m ≠ c → up2 b1 17 c 4 17 m = b1 17 m := fun m h => by rw [up2_same, up1_ne h]
  have e18 : b1 18 v.1 = s - (v.2 v.1).1 := by
    rw [(w4 _ VS).1, R.1 _ VS]; have := hl.2; omega
  have R2 : Rg (g 5) (gmM b0) (b0 10) (b0 11) γ s (s + 1) v' (up2 b1 17 c 4) := by
    refine Rg_step hN R w2 w3 (fun m h => ⟨(w4 m h).1, ?_⟩) (fun m h => ?_) (fun m h1 h2 h3 => ?_)
    · rw [c17 m (fun e => by have := h.2.2; rw [e, hc3] at this; omega)]
      exact (w4 m h).2
    · by_cases hv : m = v.1
      · subst hv
        refine ⟨L1, by rw [L2]; have := hl.2; omega, fun q => by rw [L1, L2] at q; omega, fun t ht => ?_⟩
        unfold vOn
        rw [L1, L2]
        have := hl.2
        omega
      · rw [eo m h hv]; exact ⟨rfl, rfl, fun _ => rfl, fun t _ => by unfold vOn; rw [eo m h hv]⟩
    · by_cases hm : m = c
      · subst hm
        exact ⟨c18, by omega, fun h => by omega⟩
      · rw [en m h1 h2 h3 hm, c17 m hm]; exact ⟨(w5 m h1 h2 h3).1, Nat.le_refl _, fun _ => (w5 m h1 h2 h3).2⟩
  have SC : Stt (g 5) (gmM b0) (b0 10) γ (s + 1) c := ⟨hc1, hc2, by omega⟩
  obtain ⟨E1, E2, E3, E4⟩ := endE (g := g) (b2 := up2 b1 17 c 4) (x := v.1) (b0 := b0) (F := (v.2 v.1).1) (sl := (v.2 v.1).2.1) (en := (v.2 v.1).2.2) hwd Vpt Vle hl.2 e18
  refine slot_fin hN (fun k h1 h2 h3 h4 => (up2_ne h3).trans (w1 k h1 h2 h3 h4)) R2 (Or.inr ⟨⟨VS.1, VS.2.1, by have := VS.2.2; omega⟩, ?_, ?_⟩) ?_ ?_ ?_ ⟨Or.inr ?_, ?_⟩ (fun h => ?_)
  · unfold vOn
    rw [L1, L2]; omega
  · intro _
    rw [el]
    by_cases hcut : s - (v.2 v.1).1 + 1 < (v.2 v.1).2.1
    · rw [if_pos hcut]
      have ho : ovB g (up2 b1 17 c 4) v.1 = false := by
        cases ho : ovB g (up2 b1 17 c 4) v.1 with
        | false => rfl
        | true => have := E1 ho; omega
      rw [ho, if_neg (by decide), if_neg (by omega)]
    · rw [if_neg hcut]
      exact E2 (by have := hl.2; omega)
  · intro m hm hne
    unfold vOn
    rcases stt_cas hm with h | h
    · rw [eo m h hne]; have := V2 m h hne; omega
    · by_cases e : m = c
      · rw [e]; omega
      · rw [en m h.1 h.2.1 h.2.2 e]; dsimp only; omega
  · intro m hm
    rcases stt_cas hm with h | h
    · by_cases hv : m = v.1
      · rw [hv, L1]; omega
      · rw [eo m h hv]; have := V2 m h hv; omega
    · by_cases e : m = c
      · rw [e]; omega
      · rw [en m h.1 h.2.1 h.2.2 e]; dsimp only; omega
  · intro m hm h2 h3
    rcases stt_cas hm with h | h
    · by_cases hv : m = v.1
      · rw [hv, L1] at h2; omega
      · rw [eo m h hv] at h2; have := V2 m h hv; omega
    · by_cases e : m = c
      · subst e
        rw [up2_same, up1_same, f3 h3]
      · rw [en m h.1 h.2.1 h.2.2 e] at h2; dsimp only at h2; omega
  · rw [e1, f1]
    exact ⟨SC, Nat.le_refl _, ec⟩
  · intro m hm hne
    rw [e1] at hne
    rcases stt_cas hm with h | h
    · by_cases hv : m = v.1
      · rw [hv, L1, L2]; omega
      · rw [eo m h hv]; have := V2 m h hv; omega
    · rw [en m h.1 h.2.1 h.2.2 hne]; dsimp only; omega
  · rw [if_neg cn, e1, f1, if_pos ⟨cn, by omega⟩]
end SL
end
section
section DY
variable {g : Nat → Nat} {b0 : Nat → Nat → Nat} {γ s : Nat} {v : Vw} {q : (Nat → Nat → Nat) × Nat × Nat}
abbrev pM (g : Nat → Nat) (b0 : Nat → Nat → Nat) (γ : Nat) : Vw → Nat → Vw := pstep (g 1) (g 2) (b0 11) (b0 12) (b0 10) (gmM b0) (mtB (g 5) (b0 12) (b0 10) (gmM b0)) γ
theorem Hd_step (hN : g 5 ≤ 60) (hs : s < g 1) (h : Hd g b0 γ s v q) {B : List Nat} (hB1 : B.Nodup) (hB2 : ∀ m, m ∈ B ↔ m < g 5 ∧ b0 10 m = s) : Hd g b0 γ (s + 1) (B.foldl (pM g b0 γ) v) (d0s g γ s q) := by
  obtain ⟨st, V, R, hon⟩ := h
  have hon := hon hs
  obtain ⟨c1, c2, c3, c4⟩ := caller_spec (g := g) (b := q.1) (c := γ) (s := s) hN
  have s0 := st 0 (by decide) (by decide) (by decide) (by decide)
  have s10 := st 10 (by decide) (by decide) (by decide) (by decide)
  have s12 := st 12 (by decide) (by decide) (by decide) (by decide)
  have s13 := st 13 (by decide) (by decide) (by decide) (by decide)
  have eg : gmM q.1 = gmM b0 := by funext m; show q.1 0 (q.1 13 m) = b0 0 (b0 13 m); rw [s0, s13]
  have ing : ∀ m, inG q.1 γ s m ↔ (gmM b0 m = γ ∧ b0 10 m = s) := fun m => by unfold inG; rw [eg, s10]
  rw [eg, s10, s12] at c4
  have W : Swp g b0 q.1 (clr0 g q.1 γ s).1 γ s := by
    refine ⟨fun k h1 h2 h3 h4 => (c1 k h3 h4).trans (st k h1 h2 h3 h4), c1 15 (by decide) (by decide), c1 16 (by decide) (by decide), fun m h => ?_, fun m h1 h2 h3 => ?_⟩
    · have hn : ¬ (m < g 5 ∧ inG q.1 γ s m) := fun z => by
        have := ((ing m).mp z.2).2
        have := h.2.2
        omega
      rw [c2, c3, if_neg hn, if_neg hn]
      exact ⟨rfl, rfl⟩
    · have hp : m < g 5 ∧ inG q.1 γ s m := ⟨h1, (ing m).mpr ⟨h2, h3⟩⟩
      rw [c2, c3, if_pos hp, if_pos hp]
      exact ⟨rfl, rfl⟩
  have b12 : (clr0 g q.1 γ s).1 12 = b0 12 := W.1 12 (by decide) (by decide) (by decide) (by decide)
  unfold d0s
  dsimp only
  rw [hon]
  have hBs : ∀ m ∈ B, b0 10 m = s := fun m hm => ((hB2 m).mp hm).2
  have nB : ∀ m, Stt (g 5) (gmM b0) (b0 10) γ s m → m ∉ B := fun m h hm => by
    have := hBs m hm
    have := h.2.2
    omega
  have vB : v.1 ∉ B := by
    intro hm
    rcases V.1 with h | h
    · rw [h] at hm; exact absurd rfl (n60 (Nat.lt_of_lt_of_le ((hB2 _).mp hm).1 hN))
    · exact nB _ h.1 hm
  have c4' : (clC (clr0 g q.1 γ s) = NONE ∧ ∀ m, m < g 5 → (gmM b0 m = γ ∧ b0 10 m = s) → mtB (g 5) (b0 12) (b0 10) (gmM b0) m = true) ∨ (clC (clr0 g q.1 γ s) < g 5 ∧ (gmM b0 (clC (clr0 g q.1 γ s)) = γ ∧ b0 10 (clC (clr0 g q.1 γ s)) = s) ∧ mtB (g 5) (b0 12) (b0 10) (gmM b0) (clC (clr0 g q.1 γ s)) = false ∧ ∀ m, m < g 5 → (gmM b0 m = γ ∧ b0 10 m = s) → m ≠ clC (clr0 g q.1 γ s) → mtB (g 5) (b0 12) (b0 10) (gmM b0) m = true) := by
    rcases c4 with ⟨h1, h2⟩ | ⟨h1, h2, h3, h4⟩
    · exact Or.inl ⟨h1, fun m h3 h4 => h2 m h3 ((ing m).mpr h4)⟩
    · exact Or.inr ⟨h1, (ing _).mp h2, h3, fun m h5 h6 h7 => h4 m h5 ((ing m).mpr h6) h7⟩
  clear c4 c2 c3 c1
  generalize clC (clr0 g q.1 γ s) = c at c4' ⊢
  generalize (clr0 g q.1 γ s).1 = b1 at W b12 ⊢
  rcases c4' with ⟨rfl, hm⟩ | ⟨hc1, hc2, hc3, hm⟩
  · have ea : ∀ on1, stA b1 on1 NONE = (b1, on1, NONE, false) := fun on1 => if_pos rfl
    rw [ea]
    dsimp only
    have ef : B.foldl (pM g b0 γ) v = (v.1, fun m => if m ∈ B ∧ gmM b0 m = γ then (s, 0, 3) else v.2 m) := fold_none B v hBs (fun m h1 h2 => hm m ((hB2 m).mp h1).1 ⟨h2, hBs m h1⟩)
    rw [ef]
    exact slot_ND hN W V R rfl rfl (fun m h => if_neg (fun z => nB m h z.1)) (fun m h1 h2 h3 => if_pos ⟨(hB2 m).mpr ⟨h1, h3⟩, h2⟩)
  · have cn : c ≠ NONE := n60 (Nat.lt_of_lt_of_le hc1 hN)
    have cB : c ∈ B := (hB2 c).mpr ⟨hc1, hc2.2⟩
    have ef : B.foldl (pM g b0 γ) v = ((vstep (g 1) (g 2) (b0 11) (b0 12) v c s).1, fun m => if m ∈ B ∧ gmM b0 m = γ ∧ m ≠ c then (s, 0, 3) else (vstep (g 1) (g 2) (b0 11) (b0 12) v c s).2 m) := fold_one B v hB1 hBs cB hc2.1 hc3 (fun m h1 h2 h3 => hm m ((hB2 m).mp h1).1 ⟨h3, hBs m h1⟩ h2) vB
    rw [ef]
    have olc : ∀ m, Stt (g 5) (gmM b0) (b0 10) γ s m → m ≠ c := fun m h e => nB m h (e ▸ cB)
    have los : ∀ m, m < g 5 → gmM b0 m = γ → b0 10 m = s → m ≠ c → m ∈ B ∧ gmM b0 m = γ ∧ m ≠ c := fun m h1 h2 h3 h4 => ⟨(hB2 m).mpr ⟨h1, h3⟩, h2, h4⟩
    by_cases hl : v.1 ≠ NONE ∧ s < (v.2 v.1).1 + (v.2 v.1).2.1
    · rw [if_pos hl]
      have hon1 : vOn v v.1 s := by
        rcases V.1 with h | h
        · exact absurd h hl.1
        · exact ⟨h.2.1, hl.2⟩
      have hv : ¬ (v.1 = NONE ∨ ¬ vOn v v.1 s) := fun z => z.elim hl.1 (fun y => y hon1)
      by_cases hr : b0 12 v.1 < b0 12 c
      · have ea : stA b1 v.1 c = (up2 b1 17 c 4, v.1, c, true) := by unfold stA; rw [if_neg cn, if_neg hl.1, if_pos (by rw [b12]; exact hr)]
        have ev : vstep (g 1) (g 2) (b0 11) (b0 12) v c s = vput (g 1) (g 2) (b0 11) (vcut v v.1 s) c (s + 1) := by unfold vstep; rw [if_neg hv, if_pos hr]
        rw [ea, ev]
        dsimp only
        have vc : ∀ m, m ≠ v.1 → (vcut v v.1 s).2 m = v.2 m := fun m h => by
          unfold vcut
          split
          · exact vset_ne h
          · rfl
        have vl : (vcut v v.1 s).2 v.1 = if s - (v.2 v.1).1 + 1 < (v.2 v.1).2.1 then ((v.2 v.1).1, s - (v.2 v.1).1 + 1, 1) else v.2 v.1 := by
          unfold vcut
          split
          · exact if_pos rfl
          · rfl
        have nlc : v.1 ≠ c := fun e => vB (e ▸ cB)
        refine slot_C hN hs W V R hl hc1 hc2.1 hc2.2 rfl ?_ ?_ ?_ ?_
        · dsimp only
          rw [if_neg (fun z => z.2.2 rfl)]
          exact if_pos rfl
        · dsimp only
          rw [if_neg (fun z => vB z.1), ← vl]
          exact if_neg nlc
        · intro m h h2
          dsimp only
          rw [if_neg (fun z => nB m h z.1), ← vc m h2]
          exact if_neg (olc m h)
        · intro m h1 h2 h3 h4
          exact if_pos (los m h1 h2 h3 h4)
      · have ea : stA b1 v.1 c = (b1, v.1, NONE, false) := by unfold stA; rw [if_neg cn, if_neg hl.1, if_neg (by rw [b12]; exact hr)]
        have ev : vstep (g 1) (g 2) (b0 11) (b0 12) v c s = vset v c (s, 0, 3) := by unfold vstep; rw [if_neg hv, if_neg hr]
        rw [ea, ev]
        dsimp only
        refine slot_ND hN W V R (by rw [if_pos hl]) rfl ?_ ?_
        · intro m h
          dsimp only
          rw [if_neg (fun z => nB m h z.1)]
          exact vset_ne (olc m h)
        · intro m h1 h2 h3
          dsimp only
          by_cases e : m = c
          · rw [if_neg (fun z => z.2.2 e)]
            exact if_pos e
          · exact if_pos (los m h1 h2 h3 e)
    · rw [if_neg hl]
      have ea : stA b1 NONE c = (b1, c, NONE, false) := by unfold stA; rw [if_neg cn, if_pos rfl]
      have hv : v.1 = NONE ∨ ¬ vOn v v.1 s := by
        by_cases e : v.1 = NONE
        · exact Or.inl e
        · exact Or.inr (fun z => hl ⟨e, z.2⟩)
      have ev : vstep (g 1) (g 2) (b0 11) (b0 12) v c s = vput (g 1) (g 2) (b0 11) v c s := by unfold vstep; rw [if_pos hv]
      rw [ea, ev]
      dsimp only
      refine slot_P hN hs W V R hl hc1 hc2.1 hc2.2 rfl ?_ ?_ ?_
      · dsimp only
        rw [if_neg (fun z => z.2.2 rfl)]
        exact if_pos rfl
      · intro m h
        dsimp only
        rw [if_neg (fun z => nB m h z.1)]
        exact if_neg (olc m h)
      · intro m h1 h2 h3 h4
        exact if_pos (los m h1 h2 h3 h4)
/-- the view of all messages that began ahead of a slot -/
def Wv (g : Nat → Nat) (b0 : Nat → Nat → Nat) (γ : Nat) (O : List Nat) (v0 : Vw) (s : Nat) : Vw := (O.filter (fun m => decide (b0 10 m < s))).foldl (pM g b0 γ) v0
theorem Hd_day (hN : g 5 ≤ 60) {O : List Nat} {v0 : Vw} (hO1 : O.Nodup) (hO2 : ∀ m, m ∈ O ↔ m < g 5) (hO3 : O.Pairwise (fun x y => b0 10 x ≤ b0 10 y)) : ∀ (n s : Nat) (q : (Nat → Nat → Nat) × Nat × Nat), s + n = g 1 → Hd g b0 γ s (Wv g b0 γ O v0 s) q → Hd g b0 γ (g 1) (Wv g b0 γ O v0 (g 1)) (d0N g γ n s q) := by
  intro n
  induction n with
  | zero => intro s q e h
            have e : s = g 1 := by omega
            rw [← e]; exact h
  | succ n ih =>
    intro s q e h
    refine ih (s + 1) (d0s g γ s q) (by omega) ?_
    have e1 : Wv g b0 γ O v0 (s + 1) = (O.filter (fun m => decide (b0 10 m = s))).foldl (pM g b0 γ) (Wv g b0 γ O v0 s) := by
      unfold Wv
      rw [filt_split O hO3, List.foldl_append]
    rw [e1]
    refine Hd_step hN (by omega) h (hO1.filter _) (fun m => ?_)
    rw [List.mem_filter, hO2, decide_eq_true_eq]
theorem day_spec (hN : g 5 ≤ 60) {O : List Nat} {v0 : Vw} (hv0 : v0.1 = NONE) (hO1 : O.Nodup) (hO2 : ∀ m, m ∈ O ↔ m < g 5) (hO3 : O.Pairwise (fun x y => b0 10 x ≤ b0 10 y)) (hbg : ∀ m, m < g 5 → b0 10 m < g 1) : Hd g b0 γ (g 1) (O.foldl (pM g b0 γ) v0) (d0N g γ (g 1) 0 (b0, NONE, NONE)) := by
  have e : Wv g b0 γ O v0 (g 1) = O.foldl (pM g b0 γ) v0 := by
    unfold Wv
    rw [List.filter_eq_self.mpr (fun m hm => decide_eq_true (hbg m ((hO2 m).mp hm)))]
  rw [← e]
  refine Hd_day hN hO1 hO2 hO3 (g 1) 0 (b0, NONE, NONE) (by omega) ?_
  have e0 : Wv g b0 γ O v0 0 = v0 := by
    unfold Wv
    rw [List.filter_eq_nil_iff.mpr (fun m hm => by simp)]
    rfl
  rw [e0]
  have no : ∀ m, ¬ Stt (g 5) (gmM b0) (b0 10) γ 0 m := fun m h => absurd h.2.2 (Nat.not_lt_zero _)
  refine ⟨fun _ _ _ _ _ => rfl, ⟨Or.inl hv0, fun m h => absurd h (no m)⟩, ⟨fun m h => absurd h (no m), fun m h => absurd h (no m), fun t h => absurd h (Nat.not_lt_zero _), fun t h => absurd h (Nat.not_lt_zero _), fun t h => absurd h (Nat.not_lt_zero _)⟩, fun _ => ?_⟩
  have e9 : (if v0.1 ≠ NONE ∧ 0 < (v0.2 v0.1).1 + (v0.2 v0.1).2.1 then v0.1 else NONE) = NONE := if_neg (fun z => z.1 hv0)
  rw [e9]
  exact if_pos rfl
end DY
end
