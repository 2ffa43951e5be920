section
def lw_okq (q : MethodName × Nat) : Prop := (q.1.cls ≠ "java/lang/invoke/MethodHandle" ∧ q.1.cls ≠ "java/lang/invoke/VarHandle") ∧ Cond.instantiable q.1.cls q.2 ∈ tables_1 ∧ Cond.privateMethod q.1 ∈ tables_1 ∧ Cond.instanceMethod q.1 ∈ tables_1
theorem lw_p0 : lw_okq (⟨"ChannelRows", "forgetAll", "()V"⟩, 8) := ⟨⟨by decide +kernel, by decide +kernel⟩, List.mem_of_getElem? (i := 17) (by decide +kernel), List.mem_of_getElem? (i := 100) (by decide +kernel), List.mem_of_getElem? (i := 101) (by decide +kernel)⟩
theorem lw_p1 : lw_okq (⟨"java/lang/Throwable", "fillInStackTrace", "(I)Ljava/lang/Throwable;"⟩, 6) := ⟨⟨by decide +kernel, by decide +kernel⟩, List.mem_of_getElem? (i := 180) (by decide +kernel), List.mem_of_getElem? (i := 178) (by decide +kernel), List.mem_of_getElem? (i := 179) (by decide +kernel)⟩
theorem lw_p2 : lw_okq (⟨"ChannelRows", "place", "(LChannelRows$Stations;IIII)I"⟩, 8) := ⟨⟨by decide +kernel, by decide +kernel⟩, List.mem_of_getElem? (i := 17) (by decide +kernel), List.mem_of_getElem? (i := 235) (by decide +kernel), List.mem_of_getElem? (i := 236) (by decide +kernel)⟩
theorem lw_p3 : lw_okq (⟨"ChannelRows", "needPlace", "(III)V"⟩, 8) := ⟨⟨by decide +kernel, by decide +kernel⟩, List.mem_of_getElem? (i := 17) (by decide +kernel), List.mem_of_getElem? (i := 239) (by decide +kernel), List.mem_of_getElem? (i := 240) (by decide +kernel)⟩
theorem lw_p4 : lw_okq (⟨"ChannelRows", "isChannel", "(I)Z"⟩, 8) := ⟨⟨by decide +kernel, by decide +kernel⟩, List.mem_of_getElem? (i := 17) (by decide +kernel), List.mem_of_getElem? (i := 259) (by decide +kernel), List.mem_of_getElem? (i := 260) (by decide +kernel)⟩
theorem lw_p5 : lw_okq (⟨"ChannelRows", "needUnit", "(I)V"⟩, 8) := ⟨⟨by decide +kernel, by decide +kernel⟩, List.mem_of_getElem? (i := 17) (by decide +kernel), List.mem_of_getElem? (i := 300) (by decide +kernel), List.mem_of_getElem? (i := 301) (by decide +kernel)⟩
theorem lw_p6 : lw_okq (⟨"ChannelRows", "areJoined", "(II)Z"⟩, 8) := ⟨⟨by decide +kernel, by decide +kernel⟩, List.mem_of_getElem? (i := 17) (by decide +kernel), List.mem_of_getElem? (i := 321) (by decide +kernel), List.mem_of_getElem? (i := 322) (by decide +kernel)⟩
theorem lw_p7 : lw_okq (⟨"ChannelRows", "joinGroups", "(II)V"⟩, 8) := ⟨⟨by decide +kernel, by decide +kernel⟩, List.mem_of_getElem? (i := 17) (by decide +kernel), List.mem_of_getElem? (i := 325) (by decide +kernel), List.mem_of_getElem? (i := 326) (by decide +kernel)⟩
theorem lw_p8 : lw_okq (⟨"ChannelRows", "planAll", "()V"⟩, 8) := ⟨⟨by decide +kernel, by decide +kernel⟩, List.mem_of_getElem? (i := 17) (by decide +kernel), List.mem_of_getElem? (i := 329) (by decide +kernel), List.mem_of_getElem? (i := 330) (by decide +kernel)⟩
theorem lw_p9 : lw_okq (⟨"ChannelRows", "plan", "(I)V"⟩, 8) := ⟨⟨by decide +kernel, by decide +kernel⟩, List.mem_of_getElem? (i := 17) (by decide +kernel), List.mem_of_getElem? (i := 336) (by decide +kernel), List.mem_of_getElem? (i := 337) (by decide +kernel)⟩
theorem lw_p10 : lw_okq (⟨"ChannelRows", "meetsItsBetter", "(I)Z"⟩, 8) := ⟨⟨by decide +kernel, by decide +kernel⟩, List.mem_of_getElem? (i := 17) (by decide +kernel), List.mem_of_getElem? (i := 340) (by decide +kernel), List.mem_of_getElem? (i := 341) (by decide +kernel)⟩
theorem lw_p11 : lw_okq (⟨"ChannelRows", "keepsFromCalling", "(II)Z"⟩, 8) := ⟨⟨by decide +kernel, by decide +kernel⟩, List.mem_of_getElem? (i := 17) (by decide +kernel), List.mem_of_getElem? (i := 348) (by decide +kernel), List.mem_of_getElem? (i := 349) (by decide +kernel)⟩
theorem lw_p12 : lw_okq (⟨"ChannelRows", "putOn", "(II)V"⟩, 8) := ⟨⟨by decide +kernel, by decide +kernel⟩, List.mem_of_getElem? (i := 17) (by decide +kernel), List.mem_of_getElem? (i := 364) (by decide +kernel), List.mem_of_getElem? (i := 365) (by decide +kernel)⟩
theorem lw_p13 : lw_okq (⟨"ChannelRows", "needBegin", "(II)V"⟩, 8) := ⟨⟨by decide +kernel, by decide +kernel⟩, List.mem_of_getElem? (i := 17) (by decide +kernel), List.mem_of_getElem? (i := 392) (by decide +kernel), List.mem_of_getElem? (i := 393) (by decide +kernel)⟩
theorem lw_p14 : lw_okq (⟨"ChannelRows", "isSlot", "(I)Z"⟩, 8) := ⟨⟨by decide +kernel, by decide +kernel⟩, List.mem_of_getElem? (i := 17) (by decide +kernel), List.mem_of_getElem? (i := 396) (by decide +kernel), List.mem_of_getElem? (i := 397) (by decide +kernel)⟩
theorem lw_p15 : lw_okq (⟨"ChannelRows", "needFreeBegin", "(II)V"⟩, 8) := ⟨⟨by decide +kernel, by decide +kernel⟩, List.mem_of_getElem? (i := 17) (by decide +kernel), List.mem_of_getElem? (i := 403) (by decide +kernel), List.mem_of_getElem? (i := 404) (by decide +kernel)⟩
def lw_privs_1 : List (MethodName × Nat) := [(⟨"ChannelRows", "forgetAll", "()V"⟩, 8), (⟨"java/lang/Throwable", "fillInStackTrace", "(I)Ljava/lang/Throwable;"⟩, 6), (⟨"ChannelRows", "place", "(LChannelRows$Stations;IIII)I"⟩, 8), (⟨"ChannelRows", "needPlace", "(III)V"⟩, 8), (⟨"ChannelRows", "isChannel", "(I)Z"⟩, 8), (⟨"ChannelRows", "needUnit", "(I)V"⟩, 8), (⟨"ChannelRows", "areJoined", "(II)Z"⟩, 8), (⟨"ChannelRows", "joinGroups", "(II)V"⟩, 8), (⟨"ChannelRows", "planAll", "()V"⟩, 8), (⟨"ChannelRows", "plan", "(I)V"⟩, 8), (⟨"ChannelRows", "meetsItsBetter", "(I)Z"⟩, 8), (⟨"ChannelRows", "keepsFromCalling", "(II)Z"⟩, 8), (⟨"ChannelRows", "putOn", "(II)V"⟩, 8), (⟨"ChannelRows", "needBegin", "(II)V"⟩, 8), (⟨"ChannelRows", "isSlot", "(I)Z"⟩, 8), (⟨"ChannelRows", "needFreeBegin", "(II)V"⟩, 8)]
theorem lw_r1 : ∀ q ∈ lw_privs_1, lw_okq q := List.forall_mem_cons.mpr ⟨lw_p0, List.forall_mem_cons.mpr ⟨lw_p1, List.forall_mem_cons.mpr ⟨lw_p2, List.forall_mem_cons.mpr ⟨lw_p3, List.forall_mem_cons.mpr ⟨lw_p4, List.forall_mem_cons.mpr ⟨lw_p5, List.forall_mem_cons.mpr ⟨lw_p6, List.forall_mem_cons.mpr ⟨lw_p7, List.forall_mem_cons.mpr ⟨lw_p8, List.forall_mem_cons.mpr ⟨lw_p9, List.forall_mem_cons.mpr ⟨lw_p10, List.forall_mem_cons.mpr ⟨lw_p11, List.forall_mem_cons.mpr ⟨lw_p12, List.forall_mem_cons.mpr ⟨lw_p13, List.forall_mem_cons.mpr ⟨lw_p14, List.forall_mem_cons.mpr ⟨lw_p15, fun _ h => absurd h List.not_mem_nil⟩⟩⟩⟩⟩⟩⟩⟩⟩⟩⟩⟩⟩⟩⟩⟩
theorem lw_p16 : lw_okq (⟨"ChannelRows", "needRoomForMessage", "()V"⟩, 8) := ⟨⟨by decide +kernel, by decide +kernel⟩, List.mem_of_getElem? (i := 17) (by decide +kernel), List.mem_of_getElem? (i := 427) (by decide +kernel), List.mem_of_getElem? (i := 428) (by decide +kernel)⟩
theorem lw_p17 : lw_okq (⟨"ChannelRows", "tell", "(IIII)I"⟩, 8) := ⟨⟨by decide +kernel, by decide +kernel⟩, List.mem_of_getElem? (i := 17) (by decide +kernel), List.mem_of_getElem? (i := 432) (by decide +kernel), List.mem_of_getElem? (i := 433) (by decide +kernel)⟩
theorem lw_p18 : lw_okq (⟨"ChannelRows", "needMessage", "(I)V"⟩, 8) := ⟨⟨by decide +kernel, by decide +kernel⟩, List.mem_of_getElem? (i := 17) (by decide +kernel), List.mem_of_getElem? (i := 447) (by decide +kernel), List.mem_of_getElem? (i := 448) (by decide +kernel)⟩
theorem lw_p19 : lw_okq (⟨"ChannelRows", "heardAllSlots", "(II)Z"⟩, 8) := ⟨⟨by decide +kernel, by decide +kernel⟩, List.mem_of_getElem? (i := 17) (by decide +kernel), List.mem_of_getElem? (i := 452) (by decide +kernel), List.mem_of_getElem? (i := 453) (by decide +kernel)⟩
theorem lw_p20 : lw_okq (⟨"ChannelRows", "receives", "(II)Z"⟩, 8) := ⟨⟨by decide +kernel, by decide +kernel⟩, List.mem_of_getElem? (i := 17) (by decide +kernel), List.mem_of_getElem? (i := 456) (by decide +kernel), List.mem_of_getElem? (i := 457) (by decide +kernel)⟩
theorem lw_p21 : lw_okq (⟨"ChannelRows", "listensTo", "(II)Z"⟩, 8) := ⟨⟨by decide +kernel, by decide +kernel⟩, List.mem_of_getElem? (i := 17) (by decide +kernel), List.mem_of_getElem? (i := 460) (by decide +kernel), List.mem_of_getElem? (i := 461) (by decide +kernel)⟩
theorem lw_p22 : lw_okq (⟨"ChannelRows", "receivesByRepeater", "(II)Z"⟩, 8) := ⟨⟨by decide +kernel, by decide +kernel⟩, List.mem_of_getElem? (i := 17) (by decide +kernel), List.mem_of_getElem? (i := 468) (by decide +kernel), List.mem_of_getElem? (i := 469) (by decide +kernel)⟩
theorem lw_p23 : lw_okq (⟨"ChannelRows", "hasNoise", "(I)Z"⟩, 8) := ⟨⟨by decide +kernel, by decide +kernel⟩, List.mem_of_getElem? (i := 17) (by decide +kernel), List.mem_of_getElem? (i := 472) (by decide +kernel), List.mem_of_getElem? (i := 473) (by decide +kernel)⟩
theorem lw_p24 : lw_okq (⟨"ChannelRows", "needSlot", "(I)V"⟩, 8) := ⟨⟨by decide +kernel, by decide +kernel⟩, List.mem_of_getElem? (i := 17) (by decide +kernel), List.mem_of_getElem? (i := 488) (by decide +kernel), List.mem_of_getElem? (i := 489) (by decide +kernel)⟩
theorem lw_p25 : lw_okq (⟨"ChannelRows", "messageOn", "(II)I"⟩, 8) := ⟨⟨by decide +kernel, by decide +kernel⟩, List.mem_of_getElem? (i := 17) (by decide +kernel), List.mem_of_getElem? (i := 517) (by decide +kernel), List.mem_of_getElem? (i := 518) (by decide +kernel)⟩
theorem lw_p26 : lw_okq (⟨"ChannelRows", "needChannel", "(I)V"⟩, 8) := ⟨⟨by decide +kernel, by decide +kernel⟩, List.mem_of_getElem? (i := 17) (by decide +kernel), List.mem_of_getElem? (i := 532) (by decide +kernel), List.mem_of_getElem? (i := 533) (by decide +kernel)⟩
theorem lw_p27 : lw_okq (⟨"ChannelRows", "missed", "(II)Z"⟩, 8) := ⟨⟨by decide +kernel, by decide +kernel⟩, List.mem_of_getElem? (i := 17) (by decide +kernel), List.mem_of_getElem? (i := 559) (by decide +kernel), List.mem_of_getElem? (i := 560) (by decide +kernel)⟩
theorem lw_p28 : lw_okq (⟨"ChannelRowsModel", "goes", "(IZZZZ)Z"⟩, 25) := ⟨⟨by decide +kernel, by decide +kernel⟩, List.mem_of_getElem? (i := 577) (by decide +kernel), List.mem_of_getElem? (i := 667) (by decide +kernel), List.mem_of_getElem? (i := 668) (by decide +kernel)⟩
theorem lw_p29 : lw_okq (⟨"ChannelRowsModel", "isUnit", "(I)Z"⟩, 25) := ⟨⟨by decide +kernel, by decide +kernel⟩, List.mem_of_getElem? (i := 577) (by decide +kernel), List.mem_of_getElem? (i := 688) (by decide +kernel), List.mem_of_getElem? (i := 689) (by decide +kernel)⟩
theorem lw_p30 : lw_okq (⟨"ChannelRowsModel", "isSlot", "(I)Z"⟩, 25) := ⟨⟨by decide +kernel, by decide +kernel⟩, List.mem_of_getElem? (i := 577) (by decide +kernel), List.mem_of_getElem? (i := 708) (by decide +kernel), List.mem_of_getElem? (i := 709) (by decide +kernel)⟩
theorem lw_p31 : lw_okq (⟨"ChannelRowsModel", "begins", "(II)Z"⟩, 25) := ⟨⟨by decide +kernel, by decide +kernel⟩, List.mem_of_getElem? (i := 577) (by decide +kernel), List.mem_of_getElem? (i := 712) (by decide +kernel), List.mem_of_getElem? (i := 713) (by decide +kernel)⟩
def lw_privs_2 : List (MethodName × Nat) := [(⟨"ChannelRows", "needRoomForMessage", "()V"⟩, 8), (⟨"ChannelRows", "tell", "(IIII)I"⟩, 8), (⟨"ChannelRows", "needMessage", "(I)V"⟩, 8), (⟨"ChannelRows", "heardAllSlots", "(II)Z"⟩, 8), (⟨"ChannelRows", "receives", "(II)Z"⟩, 8), (⟨"ChannelRows", "listensTo", "(II)Z"⟩, 8), (⟨"ChannelRows", "receivesByRepeater", "(II)Z"⟩, 8), (⟨"ChannelRows", "hasNoise", "(I)Z"⟩, 8), (⟨"ChannelRows", "needSlot", "(I)V"⟩, 8), (⟨"ChannelRows", "messageOn", "(II)I"⟩, 8), (⟨"ChannelRows", "needChannel", "(I)V"⟩, 8), (⟨"ChannelRows", "missed", "(II)Z"⟩, 8), (⟨"ChannelRowsModel", "goes", "(IZZZZ)Z"⟩, 25), (⟨"ChannelRowsModel", "isUnit", "(I)Z"⟩, 25), (⟨"ChannelRowsModel", "isSlot", "(I)Z"⟩, 25), (⟨"ChannelRowsModel", "begins", "(II)Z"⟩, 25)]
theorem lw_r2 : ∀ q ∈ lw_privs_2, lw_okq q := List.forall_mem_cons.mpr ⟨lw_p16, List.forall_mem_cons.mpr ⟨lw_p17, List.forall_mem_cons.mpr ⟨lw_p18, List.forall_mem_cons.mpr ⟨lw_p19, List.forall_mem_cons.mpr ⟨lw_p20, List.forall_mem_cons.mpr ⟨lw_p21, List.forall_mem_cons.mpr ⟨lw_p22, List.forall_mem_cons.mpr ⟨lw_p23, List.forall_mem_cons.mpr ⟨lw_p24, List.forall_mem_cons.mpr ⟨lw_p25, List.forall_mem_cons.mpr ⟨lw_p26, List.forall_mem_cons.mpr ⟨lw_p27, List.forall_mem_cons.mpr ⟨lw_p28, List.forall_mem_cons.mpr ⟨lw_p29, List.forall_mem_cons.mpr ⟨lw_p30, List.forall_mem_cons.mpr ⟨lw_p31, fun _ h => absurd h List.not_mem_nil⟩⟩⟩⟩⟩⟩⟩⟩⟩⟩⟩⟩⟩⟩⟩⟩
theorem lw_p32 : lw_okq (⟨"ChannelRowsModel", "add", "(IIII)I"⟩, 25) := ⟨⟨by decide +kernel, by decide +kernel⟩, List.mem_of_getElem? (i := 577) (by decide +kernel), List.mem_of_getElem? (i := 716) (by decide +kernel), List.mem_of_getElem? (i := 717) (by decide +kernel)⟩
theorem lw_p33 : lw_okq (⟨"ChannelRowsModel", "isMessage", "(I)Z"⟩, 25) := ⟨⟨by decide +kernel, by decide +kernel⟩, List.mem_of_getElem? (i := 577) (by decide +kernel), List.mem_of_getElem? (i := 724) (by decide +kernel), List.mem_of_getElem? (i := 725) (by decide +kernel)⟩
theorem lw_p34 : lw_okq (⟨"ChannelRowsModel", "heardAll", "(II)Z"⟩, 25) := ⟨⟨by decide +kernel, by decide +kernel⟩, List.mem_of_getElem? (i := 577) (by decide +kernel), List.mem_of_getElem? (i := 728) (by decide +kernel), List.mem_of_getElem? (i := 729) (by decide +kernel)⟩
theorem lw_p35 : lw_okq (⟨"ChannelRowsModel", "day0", "(I)V"⟩, 25) := ⟨⟨by decide +kernel, by decide +kernel⟩, List.mem_of_getElem? (i := 577) (by decide +kernel), List.mem_of_getElem? (i := 732) (by decide +kernel), List.mem_of_getElem? (i := 733) (by decide +kernel)⟩
theorem lw_p36 : lw_okq (⟨"ChannelRowsModel", "caller", "(II)I"⟩, 25) := ⟨⟨by decide +kernel, by decide +kernel⟩, List.mem_of_getElem? (i := 577) (by decide +kernel), List.mem_of_getElem? (i := 736) (by decide +kernel), List.mem_of_getElem? (i := 737) (by decide +kernel)⟩
theorem lw_p37 : lw_okq (⟨"ChannelRowsModel", "most", "(I)I"⟩, 25) := ⟨⟨by decide +kernel, by decide +kernel⟩, List.mem_of_getElem? (i := 577) (by decide +kernel), List.mem_of_getElem? (i := 740) (by decide +kernel), List.mem_of_getElem? (i := 741) (by decide +kernel)⟩
theorem lw_p38 : lw_okq (⟨"ChannelRowsModel", "endOf", "(I)I"⟩, 25) := ⟨⟨by decide +kernel, by decide +kernel⟩, List.mem_of_getElem? (i := 577) (by decide +kernel), List.mem_of_getElem? (i := 744) (by decide +kernel), List.mem_of_getElem? (i := 745) (by decide +kernel)⟩
theorem lw_p39 : lw_okq (⟨"ChannelRowsModel", "gets", "(II)Z"⟩, 25) := ⟨⟨by decide +kernel, by decide +kernel⟩, List.mem_of_getElem? (i := 577) (by decide +kernel), List.mem_of_getElem? (i := 748) (by decide +kernel), List.mem_of_getElem? (i := 749) (by decide +kernel)⟩
theorem lw_p40 : lw_okq (⟨"ChannelRowsModel", "reaches", "(III)Z"⟩, 25) := ⟨⟨by decide +kernel, by decide +kernel⟩, List.mem_of_getElem? (i := 577) (by decide +kernel), List.mem_of_getElem? (i := 752) (by decide +kernel), List.mem_of_getElem? (i := 753) (by decide +kernel)⟩
def lw_privs_3 : List (MethodName × Nat) := [(⟨"ChannelRowsModel", "add", "(IIII)I"⟩, 25), (⟨"ChannelRowsModel", "isMessage", "(I)Z"⟩, 25), (⟨"ChannelRowsModel", "heardAll", "(II)Z"⟩, 25), (⟨"ChannelRowsModel", "day0", "(I)V"⟩, 25), (⟨"ChannelRowsModel", "caller", "(II)I"⟩, 25), (⟨"ChannelRowsModel", "most", "(I)I"⟩, 25), (⟨"ChannelRowsModel", "endOf", "(I)I"⟩, 25), (⟨"ChannelRowsModel", "gets", "(II)Z"⟩, 25), (⟨"ChannelRowsModel", "reaches", "(III)Z"⟩, 25)]
theorem lw_r3 : ∀ q ∈ lw_privs_3, lw_okq q := List.forall_mem_cons.mpr ⟨lw_p32, List.forall_mem_cons.mpr ⟨lw_p33, List.forall_mem_cons.mpr ⟨lw_p34, List.forall_mem_cons.mpr ⟨lw_p35, List.forall_mem_cons.mpr ⟨lw_p36, List.forall_mem_cons.mpr ⟨lw_p37, List.forall_mem_cons.mpr ⟨lw_p38, List.forall_mem_cons.mpr ⟨lw_p39, List.forall_mem_cons.mpr ⟨lw_p40, fun _ h => absurd h List.not_mem_nil⟩⟩⟩⟩⟩⟩⟩⟩⟩
def lw_privs : List (MethodName × Nat) := lw_privs_1 ++ (lw_privs_2 ++ (lw_privs_3))
def lw_tbl : List Cond := k2_sels lw_privs ++ tables_1
theorem lw_privs_ok : ∀ q ∈ lw_privs, lw_okq q := by
  show ∀ q ∈ lw_privs_1 ++ (lw_privs_2 ++ (lw_privs_3)), lw_okq q
  exact List.forall_mem_append.mpr ⟨lw_r1, List.forall_mem_append.mpr ⟨lw_r2, lw_r3⟩⟩
end
section
theorem goodIn_r {big : List Cond} (ws : List Cond) (ps : List Nat) (hp : ws = ps.filterMap (fun i => big[i]?)) (h : ws.all goodWord = true) : GoodIn big ws := by
  intro w hw
  have h1 := List.all_eq_true.mp h w hw
  rw [hp] at hw
  obtain ⟨i, -, hi⟩ := List.mem_filterMap.mp hw
  have hm : w ∈ big := by first | exact List.mem_of_getElem? hi | exact List.getElem?_mem hi
  exact ⟨hm, good_of_word h1⟩
theorem goodIn_app {big a b : List Cond} (ha : GoodIn big a) (hb : GoodIn big b) : GoodIn big (a ++ b) := fun w h => (List.mem_append.mp h).elim (ha w) (hb w)
theorem goodIn_ca {big a b : List Cond} {c : Cond} (ha : GoodIn big (c :: a)) (hb : GoodIn big b) : GoodIn big (c :: (a ++ b)) := fun w h => (List.mem_cons.mp h).elim (fun e => ha w (List.mem_cons.mpr (Or.inl e))) (fun h => (List.mem_append.mp h).elim (fun h => ha w (List.mem_cons.mpr (Or.inr h))) (hb w))
theorem goodIn_sub {big ws : List Cond} (hm : ∀ w ∈ ws, w ∈ big) (h : ws.all goodWord = true) : GoodIn big ws := fun w hw => ⟨hm w hw, good_of_word (List.all_eq_true.mp h w hw)⟩
section VXA
def vx_T (XC : String → State → State → Prop) (st : State) (q : Addr) (t : State) (mc ms : Nat) (free : Addr → Prop) : Prop :=
  ∃ (E : String) (ce : Cell) (L : List Loc), XC E st t ∧ t.heap[q]? = some ce ∧ ce.vm = .none ∧ st.vm.findClass E = some ce.cls ∧ st.WarmedH t.vm ∧ st.sameButNew ({ t with vm := st.vm } : State) L mc ms ∧ ∀ z ∈ L, free z.base
def vx_Q (Qc : Array Value → State → Outcome → State → Prop) (XC : String → State → State → Prop) (mc ms : Nat) (free : Addr → Prop) : Array Value → State → Outcome → State → Prop := fun a st o t =>
  (Qc a st o t ∧ ∃ L, FrameEnd st o t L mc ms ∧ ∀ q ∈ L, free q.base) ∨ ∃ q, o = .threw q ∧ vx_T XC st q t mc ms free
def vx_Met (l : Launch) (y : MethodName) (ws : List Cond) (rm : Room) (Pc : Array Value → State → Prop) (Qc : Array Value → State → Outcome → State → Prop) (XC : String → State → State → Prop) (mc ms : Nat) (free : Addr → Prop) : Prop :=
  MetFree l y (headSpec ws rm) Pc (fun _ _ _ _ _ => True) (vx_Q Qc XC mc ms free)
def vx_Post (XC : String → State → State → Prop) (mc ms : Nat) (free : Addr → Prop) : Pt → Array Value → Addr → Pt → Prop := fun A a q B =>
  ∃ (g : JFrame) (mk : MethodId) (t : State) (L : List Loc) (E : String) (ce : Cell), B.U.heap = t.heap ∧ B.U.vm = t.vm ∧ XC E (A.U.calling g mk a) t ∧ t.heap[q]? = some ce ∧ ce.vm = .none ∧ A.U.vm.findClass E = some ce.cls ∧ B.locs = A.locs ++ L ∧ (∀ z ∈ L, free z.base) ∧ B.cells = A.cells + mc ∧ B.slots = A.slots + ms
def vx_Back (l : Launch) (R : Room) (p : Program) (e : Env) (below : List Frame) (s : State) (sargs : Array Value) (y : MethodName) (len W9 : Nat)
    (Pre : Pt → Array Value → Prop) (Post : Pt → Array Value → Option Value → Pt → Prop) (PostX : Pt → Array Value → Addr → Pt → Prop) : Prop :=
  ∀ (m : MethodId) (meth : Method) (c : Code) (A : Pt) (g : JFrame) (ig : Instr) (mk : MethodId) (a : Array Value),
    Stand p l e R s m sargs below meth c A.U A.locs A.cells A.slots → g.method = m → g.locals.size = c.maxLocals → decode c.code g.pc = .ok (ig, len) →
    2 * g.monitorRoom + (g.stack.map fun v => v.category).sum ≤ W9 → A.U.methodNamed? y = some mk → Pre A a →
    (∃ (v : Option Value) (B : Pt), Stand p l e R s m sargs below meth c B.U B.locs B.cells B.slots ∧ Post A a v B ∧
      Steps p.tables e below (doInvoke e (A.U.setTop g) [] mk a).1 (B.U.setTop { g with pc := g.pc + len, stack := v.toList ++ g.stack })) ∨
    (∃ (q : Addr) (B : Pt), Stand p l e R s m sargs below meth c B.U B.locs B.cells B.slots ∧ PostX A a q B ∧
      Steps p.tables e below (doInvoke e (A.U.setTop g) [] mk a).1 ((B.U.setTop g).pushFrame (.throwing q)))
section Payer
variable {l : Launch} {R : Room} {p : Program} {e : Env} {below : List Frame} {s : State} {sargs : Array Value} {y : MethodName} {len W9 : Nat}
theorem vx_back {ws : List Cond} {rm : Room} {Pc : Array Value → State → Prop} {Qc : Array Value → State → Outcome → State → Prop} {XC : String → State → State → Prop} {mc ms : Nat} {free : Addr → Prop} {bytes : ByteArray} {maxL : Nat} {ret : Option FieldType}
    (hM : vx_Met l y ws rm Pc Qc XC mc ms free) (hblind : FrameBlind Pc) (hrc : rm.cells = mc) (hrs : rm.slots = ms)
    (hframes : rm.frames + 1 ≤ R.frames) (hlocals : W9 + (maxL + 11) + rm.locals ≤ R.locals)
    (hws : ∀ w ∈ ws, ∀ a' U, s.WarmedH U.vm → w.before a' U = true) (hcode : Cond.code y bytes maxL ret ∈ ws) (hinit : ∀ a' U, s.WarmedH U.vm → (Cond.initialized y.cls).before a' U = true) :
    vx_Back l R p e below s sargs y len W9 (PreOf R mc ms Pc) (PostOf Qc mc ms free) (vx_Post XC mc ms free) := by
  intro m meth c A g ig mk a X hg hsize hdg hW hn hp
  have h1 : (headSpec ws rm).pre.before a A.U = true := atoms_intro fun w hw => hws w hw _ _ X.warmed
  have h2 : (Cond.code y bytes maxL ret).before a A.U = true := hws _ hcode _ _ X.warmed
  have h3 : (Cond.initialized y.cls).before a A.U = true := hinit _ _ X.warmed
  have h4 : A.cells + (headSpec ws rm).room.cells ≤ R.cells := by rw [show (headSpec ws rm).room.cells = mc from hrc]; exact hp.1
  have h5 : A.slots + (headSpec ws rm).room.slots ≤ R.slots := by rw [show (headSpec ws rm).room.slots = ms from hrs]; exact hp.2.1
  have hPc : Pc a (A.U.calling g mk a) := hblind _ _ _ _ hp.2.2
  obtain ⟨U, Ls, c0, s0⟩ := A
  dsimp only [Pt.U, Pt.locs, Pt.cells, Pt.slots] at h1 h2 h3 h4 h5 X hn hPc ⊢
  obtain ⟨methY, cY, hmY, hcY, -, hlY, -, -, -, -⟩ := Cond.code_spec hn h2
  obtain ⟨kY, hkY, -⟩ := className_of_methodNamed hn
  have hinitY : kY.init = .initialized := Cond.initialized_spec (findClass_of_methodNamed hn) hkY h3
  have h : At U g.method c below := by rw [hg]; exact X.here
  have hlocals9 : W9 + (maxL + 11) + (headSpec ws rm).room.locals ≤ R.locals := hlocals
  have happ : (headSpec ws rm).appliesLoose y e.platform (U.calling g mk a) = true :=
    Spec.appliesLoose_calling (g := g) h hdg hn hkY hinitY
      (X.room_calling (g := g) (R' := (headSpec ws rm).room) hsize hmY hcY hframes (by rw [hlY]; omega) h4 h5) h1
  obtain ⟨mid, hmid⟩ := h.above
  have hfr : (U.setTop g).frames = (.java g :: mid) ++ below := by rw [State.frames_setTop' g h.top, hmid]; rfl
  obtain ⟨o, s₂, hsteps, -, hend, hq⟩ := Steps.callFree hM p X.admits X.cas X.clock (acts := []) hfr happ hPc trivial
  have hq' : vx_Q Qc XC mc ms free a (U.calling g mk a) o s₂ := hq
  rw [State.frames_setTop' g h.top] at hend
  obtain ⟨g₀, hg0⟩ := Option.isSome_iff_exists.mp h.top
  obtain ⟨r, hr⟩ := State.topJava?_eq_some.mp hg0
  have hr' : (({ U with heap := s₂.heap, slotsUsed := s₂.slotsUsed } : State).setVm s₂.vm).frames = .java g₀ :: r := hr
  rcases hq' with ⟨hqc, L, hfe, hL⟩ | ⟨q, rfl, E, ce, L, hx, hce, hcv, hcl, hW₂, hsm, hL⟩
  · obtain ⟨⟨v, rfl⟩, hW₂, e2, q2, q3, q4, q5, q6⟩ := id hfe
    have e3 : s₂ = ({ (U.calling g mk a).setFrames s₂.frames with heap := s₂.heap, slotsUsed := s₂.slotsUsed } : State).setVm s₂.vm := by
      have : s₂ = ({ s₂ with vm := (U.calling g mk a).vm } : State).setVm s₂.vm := rfl
      rw [e2] at this
      exact this
    obtain ⟨c₂, i₂, len₂, hc₂, hd₂, hf₂⟩ := hend
    have hW' : U.WarmedH s₂.vm := hW₂
    have hcc : c₂ = c := by
      have h1 : s₂.code? g.method = U.code? g.method := by
        rw [State.code?_eq, State.code?_eq, hW'.alike.method?]
      exact Option.some.inj (hc₂.symm.trans (h1.trans h.code))
    subst hcc
    have hlen : len₂ = len := by rw [hdg] at hd₂; cases hd₂; rfl
    subst hlen
    have hs₂ : s₂ = (({ U with heap := s₂.heap, slotsUsed := s₂.slotsUsed } : State).setVm s₂.vm).setTop { g with pc := g.pc + len₂, stack := v.toList ++ g.stack } := by
      refine e3.trans ?_
      rw [hf₂, State.calling_eq h.top, State.setFrames_setFrames, State.setTop_of_frames _ hr', hr]
      rfl
    have hsame : U.sameButNew ({ U with heap := s₂.heap, slotsUsed := s₂.slotsUsed } : State) L mc ms := by
      refine ⟨?_, q2, q3, q4, q5, q6⟩
      obtain ⟨t, ht, -⟩ := State.frames_cons hr
      show ({ U with heap := s₂.heap, slotsUsed := s₂.slotsUsed } : State) = { U.setFrames U.frames with heap := s₂.heap, slotsUsed := s₂.slotsUsed }
      rw [State.setFrames_self ht]
    subst hg
    refine Or.inl ⟨v, ⟨(({ U with heap := s₂.heap, slotsUsed := s₂.slotsUsed } : State).setVm s₂.vm), Ls ++ L, c0 + mc, s0 + ms⟩,
      ⟨X.admits, X.cas, X.clock, X.frames, X.room, X.hears, X.method, X.code, (X.here.setHeapUsed s₂.heap s₂.slotsUsed).setVm hW'.alike, X.tail, State.WarmedH.trans X.warmed hW', X.limits, X.bytes, X.same.trans (hsame.setVm s.vm)⟩,
      ⟨g, mk, s₂, L, rfl, rfl, hqc, rfl, hL, rfl, rfl⟩, ?_⟩
    show Steps p.tables e below _ ((({ U with heap := s₂.heap, slotsUsed := s₂.slotsUsed } : State).setVm s₂.vm).setTop { g with pc := g.pc + len₂, stack := v.toList ++ g.stack })
    rw [← hs₂]
    exact hsteps
  · obtain ⟨e2, q2, q3, q4, q5, q6⟩ := id hsm
    have e3 : s₂ = ({ (U.calling g mk a).setFrames s₂.frames with heap := s₂.heap, slotsUsed := s₂.slotsUsed } : State).setVm s₂.vm := by
      have : s₂ = ({ s₂ with vm := (U.calling g mk a).vm } : State).setVm s₂.vm := rfl
      rw [e2] at this
      exact this
    have hf₂ : s₂.frames = .throwing q :: .java g :: U.frames.tail := hend
    have hW' : U.WarmedH s₂.vm := hW₂
    have hs₂ : s₂ = ((({ U with heap := s₂.heap, slotsUsed := s₂.slotsUsed } : State).setVm s₂.vm).setTop g).pushFrame (.throwing q) := by
      refine e3.trans ?_
      rw [hf₂, State.calling_eq h.top, State.setFrames_setFrames, State.pushFrame, State.frames_setTop _ hr', State.setTop_of_frames _ hr', State.setFrames_setFrames, hr]
      rfl
    have hsame : U.sameButNew ({ U with heap := s₂.heap, slotsUsed := s₂.slotsUsed } : State) L mc ms := by
      refine ⟨?_, q2, q3, q4, q5, q6⟩
      obtain ⟨t, ht, -⟩ := State.frames_cons hr
      show ({ U with heap := s₂.heap, slotsUsed := s₂.slotsUsed } : State) = { U.setFrames U.frames with heap := s₂.heap, slotsUsed := s₂.slotsUsed }
      rw [State.setFrames_self ht]
    subst hg
    refine Or.inr ⟨q, ⟨(({ U with heap := s₂.heap, slotsUsed := s₂.slotsUsed } : State).setVm s₂.vm), Ls ++ L, c0 + mc, s0 + ms⟩,
      ⟨X.admits, X.cas, X.clock, X.frames, X.room, X.hears, X.method, X.code, (X.here.setHeapUsed s₂.heap s₂.slotsUsed).setVm hW'.alike, X.tail, State.WarmedH.trans X.warmed hW', X.limits, X.bytes, X.same.trans (hsame.setVm s.vm)⟩,
      ⟨g, mk, s₂, L, E, ce, rfl, rfl, hx, hce, hcv, hcl, rfl, hL, rfl, rfl⟩, ?_⟩
    show Steps p.tables e below _ (((({ U with heap := s₂.heap, slotsUsed := s₂.slotsUsed } : State).setVm s₂.vm).setTop g).pushFrame (.throwing q))
    rw [← hs₂]
    exact hsteps
end Payer
section Calls
variable {p : Program} {l : Launch} {e : Env} {R : Room} {s : State} {m : MethodId} {args : Array Value} {below : List Frame} {meth : Method} {c : Code} {T : State} {locs : List Loc} {cells slots : Nat}
theorem vx_callV (X : Stand p l e R s m args below meth c T locs cells slots) (hexec : p.tables.exec = Jvm.exec) {own C : String} {index : Nat} {y : MethodName} {bytes : ByteArray} {maxL : Nat} {ret : Option FieldType}
    (hown : s.vm.findClass own = some m.cls) (hlink : (Cond.methodLink own index y).before args s = true) (hinst : (Cond.instanceMethod y).before args s = true) (hsel : (Cond.selects C y y).before args s = true)
    (hcode : (Cond.code y bytes maxL ret).before args s = true) (hy : y.cls ≠ "java/lang/invoke/MethodHandle" ∧ y.cls ≠ "java/lang/invoke/VarHandle")
    {W9 : Nat} {Pre : Pt → Array Value → Prop} {Post : Pt → Array Value → Option Value → Pt → Prop} {PostX : Pt → Array Value → Addr → Pt → Prop} (hK : vx_Back l R p e below s args y 3 W9 Pre Post PostX)
    {b : Addr} {cellB : Cell} (hcell : T.heap[b]? = some cellB) (hobj : cellB.vm.isStatics = false) (hcls : s.vm.findClass C = some cellB.cls)
    {g : JFrame} (hg : g.method = m) (hsize : g.locals.size = c.maxLocals) {argsL rest : List Value} (hlen : ∀ sig, parseMethodDescriptor y.desc = some sig → argsL.length = sig.parameters.length)
    (hstack : g.stack = argsL.reverse ++ .ref b :: rest) (hW : 2 * g.monitorRoom + (rest.map fun v => v.category).sum ≤ W9) (hdg : decode c.code g.pc = .ok (.invokevirtual index, 3))
    (hpre : ∀ vm₁, s.WarmedH vm₁ → Pre ⟨T.setVm vm₁, locs, cells, slots⟩ (Value.ref b :: argsL).toArray) :
    (∃ (v : Option Value) (vm₁ : Vm) (B : Pt), s.WarmedH vm₁ ∧ Stand p l e R s m args below meth c B.U B.locs B.cells B.slots ∧ Post ⟨T.setVm vm₁, locs, cells, slots⟩ (Value.ref b :: argsL).toArray v B ∧
      ∀ target, Steps p.tables e below (B.U.setTop { g with pc := g.pc + 3, stack := v.toList ++ rest }) target → Steps p.tables e below (T.setTop g) target) ∨
    (∃ (q : Addr) (vm₁ : Vm) (B : Pt), s.WarmedH vm₁ ∧ Stand p l e R s m args below meth c B.U B.locs B.cells B.slots ∧ PostX ⟨T.setVm vm₁, locs, cells, slots⟩ (Value.ref b :: argsL).toArray q B ∧
      Steps p.tables e below (T.setTop g) ((B.U.setTop { g with stack := rest }).pushFrame (.throwing q))) := by
  obtain ⟨mk, methM, hnamed, hmethM, hstM, habM⟩ := Cond.instanceMethod_spec hinst
  obtain ⟨methM', cM, hmethM', -, -, -, -, -, -, hsigM⟩ := Cond.code_spec hnamed hcode
  cases hmethM.symm.trans hmethM'
  obtain ⟨c2, r2, m2, q1, q2, q3, q4, kP, hkP, hkPi⟩ := Cond.selects_spec hsel
  cases hcls.symm.trans q1
  cases (State.methodFound?_of_named hnamed hy).symm.trans q2
  cases hnamed.symm.trans q3
  have hselP : selectMethod e.platform s.vm cellB.cls mk = .method mk := by rw [Launch.admits_selectMethod X.admits]; exact q4
  obtain ⟨vm₁, X₁, hstep₁⟩ := X.invokevirtual hexec hown hlink hnamed hmethM hstM hkP hkPi hy (a := b) (cell := cellB) hcell
    (fun z h => by rw [h] at hobj; cases hobj) hselP hmethM habM hkP hkPi (g := g) hg (argsL := argsL) (rest := rest) (hlen _ hsigM) hstack hdg
  rcases hK m meth c ⟨T.setVm vm₁, locs, cells, slots⟩ { g with stack := rest } (.invokevirtual index) mk (Value.ref b :: argsL).toArray X₁ hg hsize hdg hW (X₁.named hnamed) (hpre vm₁ X₁.warmed) with ⟨v, B, X', hpost, hsteps⟩ | ⟨q, B, X', hpost, hsteps⟩
  · exact Or.inl ⟨v, vm₁, B, X₁.warmed, X', hpost, fun target h => hstep₁ _ fun acts => by rw [doInvoke_state]; exact hsteps.trans h⟩
  · exact Or.inr ⟨q, vm₁, B, X₁.warmed, X', hpost, hstep₁ _ fun acts => by rw [doInvoke_state]; exact hsteps⟩
theorem vx_callS (X : Stand p l e R s m args below meth c T locs cells slots) (hexec : p.tables.exec = Jvm.exec) {own : String} {index : Nat} {y : MethodName} {bytes : ByteArray} {maxL : Nat} {ret : Option FieldType}
    (hown : s.vm.findClass own = some m.cls) (hlink : (Cond.methodLink own index y).before args s = true) (hstat : (Cond.static y).before args s = true) (hinit : (Cond.initialized y.cls).before args s = true)
    (hcode : (Cond.code y bytes maxL ret).before args s = true) (hy : y.cls ≠ "java/lang/invoke/MethodHandle" ∧ y.cls ≠ "java/lang/invoke/VarHandle")
    {W9 : Nat} {Pre : Pt → Array Value → Prop} {Post : Pt → Array Value → Option Value → Pt → Prop} {PostX : Pt → Array Value → Addr → Pt → Prop} (hK : vx_Back l R p e below s args y 3 W9 Pre Post PostX)
    {g : JFrame} (hg : g.method = m) (hsize : g.locals.size = c.maxLocals) {argsL rest : List Value} (hlen : ∀ sig, parseMethodDescriptor y.desc = some sig → argsL.length = sig.parameters.length)
    (hstack : g.stack = argsL.reverse ++ rest) (hW : 2 * g.monitorRoom + (rest.map fun v => v.category).sum ≤ W9) (hdg : decode c.code g.pc = .ok (.invokestatic index, 3))
    (hpre : ∀ vm₁, s.WarmedH vm₁ → Pre ⟨T.setVm vm₁, locs, cells, slots⟩ argsL.toArray) :
    (∃ (v : Option Value) (vm₁ : Vm) (B : Pt), s.WarmedH vm₁ ∧ Stand p l e R s m args below meth c B.U B.locs B.cells B.slots ∧ Post ⟨T.setVm vm₁, locs, cells, slots⟩ argsL.toArray v B ∧
      ∀ target, Steps p.tables e below (B.U.setTop { g with pc := g.pc + 3, stack := v.toList ++ rest }) target → Steps p.tables e below (T.setTop g) target) ∨
    (∃ (q : Addr) (vm₁ : Vm) (B : Pt), s.WarmedH vm₁ ∧ Stand p l e R s m args below meth c B.U B.locs B.cells B.slots ∧ PostX ⟨T.setVm vm₁, locs, cells, slots⟩ argsL.toArray q B ∧
      Steps p.tables e below (T.setTop g) ((B.U.setTop { g with stack := rest }).pushFrame (.throwing q))) := by
  obtain ⟨mk, hnamed⟩ := Cond.code_named hcode
  obtain ⟨methM, cM, hmethM, -, -, -, -, -, -, hsigM⟩ := Cond.code_spec hnamed hcode
  have hstatic : methM.isStatic = true := Cond.static_spec hnamed hmethM hstat
  obtain ⟨kP, hkP, -⟩ := className_of_methodNamed hnamed
  have hinitP : kP.init = .initialized := Cond.initialized_spec (findClass_of_methodNamed hnamed) hkP hinit
  obtain ⟨vm₁, X₁, hstep₁⟩ := X.invokestatic hexec hown hlink hnamed hmethM hstatic hkP hinitP hy (g := g) hg (argsL := argsL) (rest := rest) (hlen _ hsigM) hstack hdg
  rcases hK m meth c ⟨T.setVm vm₁, locs, cells, slots⟩ { g with stack := rest } (.invokestatic index) mk argsL.toArray X₁ hg hsize hdg hW (X₁.named hnamed) (hpre vm₁ X₁.warmed) with ⟨v, B, X', hpost, hsteps⟩ | ⟨q, B, X', hpost, hsteps⟩
  · exact Or.inl ⟨v, vm₁, B, X₁.warmed, X', hpost, fun target h => hstep₁ _ fun acts => by rw [doInvoke_state]; exact hsteps.trans h⟩
  · exact Or.inr ⟨q, vm₁, B, X₁.warmed, X', hpost, hstep₁ _ fun acts => by rw [doInvoke_state]; exact hsteps⟩
end Calls
theorem vx_cls {s : State} {T : State} {vm₁ : Vm} {E : String} {k : ClassId} (hW : s.WarmedH vm₁) (h : (T.setVm vm₁).vm.findClass E = some k) : s.vm.findClass E = some k := by
  have h1 : vm₁.findClass E = some k := h
  rw [hW.alike.findClass] at h1
  exact h1
def vx_W (p : Program) (l : Launch) (e : Env) (R : Room) (s : State) (m : MethodId) (args : Array Value) (below : List Frame) (meth : Method) (c : Code) (H : Heap) (locs : List Loc) (cells slots : Nat) (Q : State → Prop) (g : JFrame) (q : Addr) : Prop :=
  ∀ T : State, T.heap = H → Stand p l e R s m args below meth c T locs cells slots → ∃ t, Steps p.tables e below ((T.setTop g).pushFrame (.throwing q)) t ∧ Q t
def vx_Run (p : Program) (l : Launch) (e : Env) (R : Room) (s : State) (m : MethodId) (args : Array Value) (below : List Frame) (meth : Method) (c : Code) (H : Heap) (locs : List Loc) (cells slots mc ms : Nat) (g : JFrame) (rest : List Value) (Qa : State → Outcome → State → Prop) (XC : String → State → State → Prop) (free : Addr → Prop) : Prop :=
  ∀ T : State, T.heap = H → Stand p l e R s m args below meth c T locs cells slots →
    (∃ (v : Option Value) (st₀ t T' : State) (L : List Loc), st₀.heap = H ∧ Stand p l e R s m args below meth c T' (locs ++ L) (cells + mc) (slots + ms) ∧ (∀ q ∈ L, free q.base) ∧ T'.heap = t.heap ∧ T'.vm = t.vm ∧ Qa st₀ (.returned v) t ∧
      Goes p e below T g T' { g with pc := g.pc + 3, stack := v.toList ++ rest }) ∨
    (∃ (q : Addr) (st₀ t T' : State) (L : List Loc) (E : String) (ce : Cell), st₀.heap = H ∧ Stand p l e R s m args below meth c T' (locs ++ L) (cells + mc) (slots + ms) ∧ (∀ z ∈ L, free z.base) ∧ T'.heap = t.heap ∧ T'.vm = t.vm ∧ XC E st₀ t ∧ t.heap[q]? = some ce ∧ ce.vm = .none ∧ s.vm.findClass E = some ce.cls ∧
      Steps p.tables e below (T.setTop g) ((T'.setTop { g with stack := rest }).pushFrame (.throwing q)))
def vx_X {S : Type} (px : S → Prop) (B : String → S → State → Prop) (A : Nat → Prop) : String → State → State → Prop := fun E st t => ∃ u : S, px u ∧ B E u t ∧ va_F A st t
section Runs
variable {p : Program} {l : Launch} {e : Env} {R : Room} {s : State} {m : MethodId} {args : Array Value} {below : List Frame} {meth : Method} {c : Code} {H : Heap} {locs : List Loc} {cells slots : Nat}
variable {y : MethodName} {bytes cc : ByteArray} {maxL nL mc ms n index : Nat} {ret : Option FieldType} {ws : List Cond} {rm : Room} {Pc : Array Value → State → Prop} {Qc : Array Value → State → Outcome → State → Prop} {XC : String → State → State → Prop} {free : Addr → Prop} {Ts : List Cond} {own C : String} {b : Addr} {As rest : List Value} {g : JFrame}
theorem vx_callBack (cb : CallB R s args own index y bytes maxL ret ws rm mc ms n) (hM : vx_Met l y ws rm Pc Qc XC mc ms free) (hbl : FrameBlind Pc) : vx_Back l R p e below s args y 3 8 (PreOf R mc ms Pc) (PostOf Qc mc ms free) (vx_Post XC mc ms free) := by
  obtain ⟨hrc, hrs, hfr, hlo, hws, hcw, -, hini, -⟩ := cb
  exact vx_back (bytes := bytes) (maxL := maxL) (ret := ret) hM hbl hrc hrs hfr hlo hws hcw (fun a' U hW => word_at hW (Or.inl (by first | rfl | simp [Cond.onTables, Cond.keeps, Cond.steady])) hini)
theorem vx_runV (S : CallFix p m c cc nL s args Ts own) (hM : vx_Met l y ws rm Pc Qc XC mc ms free) (cw : CallW R s args own C index y bytes maxL ret ws rm mc ms n) (hp : PreV s H C b Pc As)
    (hg : g.method = m) (hn : As.length = n) (hsize : g.locals.size = nL) (hstack : g.stack = As.reverse ++ .ref b :: rest) (hW : 2 * g.monitorRoom + (rest.map fun v => v.category).sum ≤ 8) (hdg : decode cc g.pc = .ok (.invokevirtual index, 3)) (hf : cells + mc ≤ R.cells ∧ slots + ms ≤ R.slots) :
    vx_Run p l e R s m args below meth c H locs cells slots mc ms g rest (Qc (Value.ref b :: As).toArray) XC free := by
  have hK : vx_Back l R p e below s args y 3 8 (PreOf R mc ms Pc) (PostOf Qc mc ms free) (vx_Post XC mc ms free) := vx_callBack cw.1 hM hp.1
  obtain ⟨⟨-, -, -, -, -, -, hcode, -, hy, hlen, hl⟩, hin, hse⟩ := cw
  obtain ⟨hx, hb, hml, ho, -⟩ := S
  obtain ⟨-, ⟨cellB, hcB, hoB, hclB⟩, hPc⟩ := hp
  intro T hT X
  rcases vx_callV X hx (C := C) (bytes := bytes) (maxL := maxL) (ret := ret) ho hl hin hse hcode hy hK (by rw [hT]; exact hcB) hoB hclB hg (hsize.trans hml.symm) (argsL := As) (rest := rest) (fun sig h => hn.trans (hlen sig h)) hstack hW (by rw [hb]; exact hdg)
    (fun vm₁ hW₁ => ⟨hf.1, hf.2, hPc (T.setVm vm₁) hT hW₁⟩) with ⟨v, vm₁, ⟨U', l2, c2, s2⟩, hW₁, X', ⟨g', mk, t, L, e1, e2, hq, h1, hL, h2, h3⟩, st⟩ | ⟨q, vm₁, ⟨U', l2, c2, s2⟩, hW₁, X', ⟨g', mk, t, L, E, ce, e1, e2, hq, hce, hcv, hcl, h1, hL, h2, h3⟩, st⟩
  · dsimp only [Pt.U, Pt.locs, Pt.cells, Pt.slots] at X' e1 e2 h1 h2 h3 st
    subst h1; subst h2; subst h3
    exact Or.inl ⟨v, (T.setVm vm₁).calling g' mk (Value.ref b :: As).toArray, t, U', L, hT, X', hL, e1, e2, hq, st⟩
  · dsimp only [Pt.U, Pt.locs, Pt.cells, Pt.slots] at X' e1 e2 h1 h2 h3 st hcl
    subst h1; subst h2; subst h3
    exact Or.inr ⟨q, (T.setVm vm₁).calling g' mk (Value.ref b :: As).toArray, t, U', L, E, ce, hT, X', hL, e1, e2, hq, hce, hcv, vx_cls hW₁ hcl, st⟩
theorem vx_runS (S : CallFix p m c cc nL s args Ts own) (hM : vx_Met l y ws rm Pc Qc XC mc ms free) (cw : CallB R s args own index y bytes maxL ret ws rm mc ms n ∧ (Cond.static y).before args s = true) (hp : PreS s H Pc As)
    (hg : g.method = m) (hn : As.length = n) (hsize : g.locals.size = nL) (hstack : g.stack = As.reverse ++ rest) (hW : 2 * g.monitorRoom + (rest.map fun v => v.category).sum ≤ 8) (hdg : decode cc g.pc = .ok (.invokestatic index, 3)) (hf : cells + mc ≤ R.cells ∧ slots + ms ≤ R.slots) :
    vx_Run p l e R s m args below meth c H locs cells slots mc ms g rest (Qc As.toArray) XC free := by
  have hK : vx_Back l R p e below s args y 3 8 (PreOf R mc ms Pc) (PostOf Qc mc ms free) (vx_Post XC mc ms free) := vx_callBack cw.1 hM hp.1
  obtain ⟨⟨-, -, -, -, -, -, hcode, hini, hy, hlen, hl⟩, hstt⟩ := cw
  obtain ⟨hx, hb, hml, ho, -⟩ := S
  intro T hT X
  rcases vx_callS X hx (bytes := bytes) (maxL := maxL) (ret := ret) ho hl hstt hini hcode hy hK hg (hsize.trans hml.symm) (argsL := As) (rest := rest) (fun sig h => hn.trans (hlen sig h)) hstack hW (by rw [hb]; exact hdg)
    (fun vm₁ hW₁ => ⟨hf.1, hf.2, hp.2 (T.setVm vm₁) hT hW₁⟩) with ⟨v, vm₁, ⟨U', l2, c2, s2⟩, hW₁, X', ⟨g', mk, t, L, e1, e2, hq, h1, hL, h2, h3⟩, st⟩ | ⟨q, vm₁, ⟨U', l2, c2, s2⟩, hW₁, X', ⟨g', mk, t, L, E, ce, e1, e2, hq, hce, hcv, hcl, h1, hL, h2, h3⟩, st⟩
  · dsimp only [Pt.U, Pt.locs, Pt.cells, Pt.slots] at X' e1 e2 h1 h2 h3 st
    subst h1; subst h2; subst h3
    exact Or.inl ⟨v, (T.setVm vm₁).calling g' mk As.toArray, t, U', L, hT, X', hL, e1, e2, hq, st⟩
  · dsimp only [Pt.U, Pt.locs, Pt.cells, Pt.slots] at X' e1 e2 h1 h2 h3 st hcl
    subst h1; subst h2; subst h3
    exact Or.inr ⟨q, (T.setVm vm₁).calling g' mk As.toArray, t, U', L, E, ce, hT, X', hL, e1, e2, hq, hce, hcv, vx_cls hW₁ hcl, st⟩
end Runs
section Rows
variable {p : Program} {l : Launch} {e : Env} {R : Room} {s : State} {m : MethodId} {args : Array Value} {below : List Frame} {meth : Method} {c : Code} {H : Heap} {locs : List Loc} {cells slots : Nat} {Q : State → Prop}
variable {mc ms : Nat} {free : Addr → Prop} {A0 A1 : Nat → Prop} {H0 : Heap} {a : Array Value} {pc : Nat} {ls : Array Slot} {st0 rest : List Value}
theorem vx_keep {st₀ t T' : State} {L : List Loc} (h0 : st₀.heap = H) (e1 : T'.heap = t.heap) (hS : va_S A0 H0 H locs) (hA : ∀ q, q < H.size → A1 q → A0 q) (hf : ∀ q, free q → A0 q) (hL : ∀ q ∈ L, free q.base) (hF : va_F A1 st₀ t) :
    H.size ≤ T'.heap.size ∧ (∀ q : Nat, q < H.size → ¬ A1 q → T'.heap[q]? = H[q]?) ∧ va_S A0 H0 T'.heap (locs ++ L) := by
  obtain ⟨hz, hk⟩ := hF
  rw [h0] at hz hk
  exact ⟨by rw [e1]; exact hz, fun q h1 h2 => by rw [e1]; exact hk q h1 h2,
    ⟨Nat.le_trans hS.1 (by rw [e1]; exact hz), fun q h1 h2 => by rw [e1, hk q (Nat.lt_of_lt_of_le h1 hS.1) (fun z => h2 (hA q (Nat.lt_of_lt_of_le h1 hS.1) z))]; exact hS.2.1 q h1 h2, fun q hq => by
      rcases List.mem_append.mp hq with h | h
      · exact hS.2.2 q h
      · exact hf _ (hL q h)⟩⟩
theorem vx_calli {S SX : Type} {post : Int32 → S → Prop} {px : SX → Prop} {B : S → State → Prop} {BX : String → SX → State → Prop} {AX : Nat → Prop} (hr : vx_Run p l e R s m args below meth c H locs cells slots mc ms (F0 m pc ls st0) rest (va_Qi post B A1 a) (vx_X px BX AX) free) (hS : va_S A0 H0 H locs) (hA : ∀ q, q < H.size → A1 q → A0 q) (hf : ∀ q, free q → A0 q) (hAX : ∀ q, q < H.size → AX q → A0 q)
    (kx : ∀ (E : String) (ce : Cell) (q9 : Addr) (u : SX) (t : State) (H1 : Heap) (locs1 : List Loc), t.heap = H1 → s.vm.Alike t.vm → px u → BX E u t → H.size ≤ H1.size → (∀ q : Nat, q < H.size → ¬ AX q → H1[q]? = H[q]?) → va_S A0 H0 H1 locs1 → H1[q9]? = some ce → ce.vm = .none → s.vm.findClass E = some ce.cls → vx_W p l e R s m args below meth c H1 locs1 (cells + mc) (slots + ms) Q (F0 m pc ls rest) q9)
    (kk : ∀ (r : Int32) (u : S) (t : State) (H1 : Heap) (locs1 : List Loc), t.heap = H1 → s.vm.Alike t.vm → post r u → B u t → H.size ≤ H1.size → (∀ q : Nat, q < H.size → ¬ A1 q → H1[q]? = H[q]?) → va_S A0 H0 H1 locs1 → W p l e R s m args below meth c H1 locs1 (cells + mc) (slots + ms) Q (F0 m (pc + 3) ls (.int r :: rest))) : W p l e R s m args below meth c H locs cells slots Q (F0 m pc ls st0) := by
  intro T hT X
  rcases hr T hT X with ⟨v, st₀, t, T', L, h0, X', hL, e1, e2, ⟨⟨r, u, hv, hp, hb⟩, hF⟩, st⟩ | ⟨q, st₀, t, T', L, E, ce, h0, X', hL, e1, e2, ⟨u, hp, hb, hF⟩, hce, hcv, hcl, st⟩
  · cases hv
    obtain ⟨k1, k2, k3⟩ := vx_keep h0 e1 hS hA hf hL hF
    obtain ⟨t2, a1, b1⟩ := kk r u t T'.heap (locs ++ L) e1.symm (by rw [← e2]; exact X'.warmed.alike) hp hb k1 k2 k3 T' rfl X'
    exact ⟨t2, st t2 a1, b1⟩
  · obtain ⟨k1, k2, k3⟩ := vx_keep h0 e1 hS hAX hf hL hF
    obtain ⟨t2, a1, b1⟩ := kx E ce q u t T'.heap (locs ++ L) e1.symm (by rw [← e2]; exact X'.warmed.alike) hp hb k1 k2 k3 (by rw [e1]; exact hce) hcv hcl T' rfl X'
    exact ⟨t2, st.trans a1, b1⟩
theorem vx_calll {S SX : Type} {post : Int64 → S → Prop} {px : SX → Prop} {B : S → State → Prop} {BX : String → SX → State → Prop} {AX : Nat → Prop} (hr : vx_Run p l e R s m args below meth c H locs cells slots mc ms (F0 m pc ls st0) rest (va_Ql post B A1 a) (vx_X px BX AX) free) (hS : va_S A0 H0 H locs) (hA : ∀ q, q < H.size → A1 q → A0 q) (hf : ∀ q, free q → A0 q) (hAX : ∀ q, q < H.size → AX q → A0 q)
    (kx : ∀ (E : String) (ce : Cell) (q9 : Addr) (u : SX) (t : State) (H1 : Heap) (locs1 : List Loc), t.heap = H1 → s.vm.Alike t.vm → px u → BX E u t → H.size ≤ H1.size → (∀ q : Nat, q < H.size → ¬ AX q → H1[q]? = H[q]?) → va_S A0 H0 H1 locs1 → H1[q9]? = some ce → ce.vm = .none → s.vm.findClass E = some ce.cls → vx_W p l e R s m args below meth c H1 locs1 (cells + mc) (slots + ms) Q (F0 m pc ls rest) q9)
    (kk : ∀ (r : Int64) (u : S) (t : State) (H1 : Heap) (locs1 : List Loc), t.heap = H1 → s.vm.Alike t.vm → post r u → B u t → H.size ≤ H1.size → (∀ q : Nat, q < H.size → ¬ A1 q → H1[q]? = H[q]?) → va_S A0 H0 H1 locs1 → W p l e R s m args below meth c H1 locs1 (cells + mc) (slots + ms) Q (F0 m (pc + 3) ls (.long r :: rest))) : W p l e R s m args below meth c H locs cells slots Q (F0 m pc ls st0) := by
  intro T hT X
  rcases hr T hT X with ⟨v, st₀, t, T', L, h0, X', hL, e1, e2, ⟨⟨r, u, hv, hp, hb⟩, hF⟩, st⟩ | ⟨q, st₀, t, T', L, E, ce, h0, X', hL, e1, e2, ⟨u, hp, hb, hF⟩, hce, hcv, hcl, st⟩
  · cases hv
    obtain ⟨k1, k2, k3⟩ := vx_keep h0 e1 hS hA hf hL hF
    obtain ⟨t2, a1, b1⟩ := kk r u t T'.heap (locs ++ L) e1.symm (by rw [← e2]; exact X'.warmed.alike) hp hb k1 k2 k3 T' rfl X'
    exact ⟨t2, st t2 a1, b1⟩
  · obtain ⟨k1, k2, k3⟩ := vx_keep h0 e1 hS hAX hf hL hF
    obtain ⟨t2, a1, b1⟩ := kx E ce q u t T'.heap (locs ++ L) e1.symm (by rw [← e2]; exact X'.warmed.alike) hp hb k1 k2 k3 (by rw [e1]; exact hce) hcv hcl T' rfl X'
    exact ⟨t2, st.trans a1, b1⟩
theorem vx_callf {S SX : Type} {post : UInt32 → S → Prop} {px : SX → Prop} {B : S → State → Prop} {BX : String → SX → State → Prop} {AX : Nat → Prop} (hr : vx_Run p l e R s m args below meth c H locs cells slots mc ms (F0 m pc ls st0) rest (va_Qf post B A1 a) (vx_X px BX AX) free) (hS : va_S A0 H0 H locs) (hA : ∀ q, q < H.size → A1 q → A0 q) (hf : ∀ q, free q → A0 q) (hAX : ∀ q, q < H.size → AX q → A0 q)
    (kx : ∀ (E : String) (ce : Cell) (q9 : Addr) (u : SX) (t : State) (H1 : Heap) (locs1 : List Loc), t.heap = H1 → s.vm.Alike t.vm → px u → BX E u t → H.size ≤ H1.size → (∀ q : Nat, q < H.size → ¬ AX q → H1[q]? = H[q]?) → va_S A0 H0 H1 locs1 → H1[q9]? = some ce → ce.vm = .none → s.vm.findClass E = some ce.cls → vx_W p l e R s m args below meth c H1 locs1 (cells + mc) (slots + ms) Q (F0 m pc ls rest) q9)
    (kk : ∀ (r : UInt32) (u : S) (t : State) (H1 : Heap) (locs1 : List Loc), t.heap = H1 → s.vm.Alike t.vm → post r u → B u t → H.size ≤ H1.size → (∀ q : Nat, q < H.size → ¬ A1 q → H1[q]? = H[q]?) → va_S A0 H0 H1 locs1 → W p l e R s m args below meth c H1 locs1 (cells + mc) (slots + ms) Q (F0 m (pc + 3) ls (.float r :: rest))) : W p l e R s m args below meth c H locs cells slots Q (F0 m pc ls st0) := by
  intro T hT X
  rcases hr T hT X with ⟨v, st₀, t, T', L, h0, X', hL, e1, e2, ⟨⟨r, u, hv, hp, hb⟩, hF⟩, st⟩ | ⟨q, st₀, t, T', L, E, ce, h0, X', hL, e1, e2, ⟨u, hp, hb, hF⟩, hce, hcv, hcl, st⟩
  · cases hv
    obtain ⟨k1, k2, k3⟩ := vx_keep h0 e1 hS hA hf hL hF
    obtain ⟨t2, a1, b1⟩ := kk r u t T'.heap (locs ++ L) e1.symm (by rw [← e2]; exact X'.warmed.alike) hp hb k1 k2 k3 T' rfl X'
    exact ⟨t2, st t2 a1, b1⟩
  · obtain ⟨k1, k2, k3⟩ := vx_keep h0 e1 hS hAX hf hL hF
    obtain ⟨t2, a1, b1⟩ := kx E ce q u t T'.heap (locs ++ L) e1.symm (by rw [← e2]; exact X'.warmed.alike) hp hb k1 k2 k3 (by rw [e1]; exact hce) hcv hcl T' rfl X'
    exact ⟨t2, st.trans a1, b1⟩
theorem vx_calld {S SX : Type} {post : UInt64 → S → Prop} {px : SX → Prop} {B : S → State → Prop} {BX : String → SX → State → Prop} {AX : Nat → Prop} (hr : vx_Run p l e R s m args below meth c H locs cells slots mc ms (F0 m pc ls st0) rest (va_Qd post B A1 a) (vx_X px BX AX) free) (hS : va_S A0 H0 H locs) (hA : ∀ q, q < H.size → A1 q → A0 q) (hf : ∀ q, free q → A0 q) (hAX : ∀ q, q < H.size → AX q → A0 q)
    (kx : ∀ (E : String) (ce : Cell) (q9 : Addr) (u : SX) (t : State) (H1 : Heap) (locs1 : List Loc), t.heap = H1 → s.vm.Alike t.vm → px u → BX E u t → H.size ≤ H1.size → (∀ q : Nat, q < H.size → ¬ AX q → H1[q]? = H[q]?) → va_S A0 H0 H1 locs1 → H1[q9]? = some ce → ce.vm = .none → s.vm.findClass E = some ce.cls → vx_W p l e R s m args below meth c H1 locs1 (cells + mc) (slots + ms) Q (F0 m pc ls rest) q9)
    (kk : ∀ (r : UInt64) (u : S) (t : State) (H1 : Heap) (locs1 : List Loc), t.heap = H1 → s.vm.Alike t.vm → post r u → B u t → H.size ≤ H1.size → (∀ q : Nat, q < H.size → ¬ A1 q → H1[q]? = H[q]?) → va_S A0 H0 H1 locs1 → W p l e R s m args below meth c H1 locs1 (cells + mc) (slots + ms) Q (F0 m (pc + 3) ls (.double r :: rest))) : W p l e R s m args below meth c H locs cells slots Q (F0 m pc ls st0) := by
  intro T hT X
  rcases hr T hT X with ⟨v, st₀, t, T', L, h0, X', hL, e1, e2, ⟨⟨r, u, hv, hp, hb⟩, hF⟩, st⟩ | ⟨q, st₀, t, T', L, E, ce, h0, X', hL, e1, e2, ⟨u, hp, hb, hF⟩, hce, hcv, hcl, st⟩
  · cases hv
    obtain ⟨k1, k2, k3⟩ := vx_keep h0 e1 hS hA hf hL hF
    obtain ⟨t2, a1, b1⟩ := kk r u t T'.heap (locs ++ L) e1.symm (by rw [← e2]; exact X'.warmed.alike) hp hb k1 k2 k3 T' rfl X'
    exact ⟨t2, st t2 a1, b1⟩
  · obtain ⟨k1, k2, k3⟩ := vx_keep h0 e1 hS hAX hf hL hF
    obtain ⟨t2, a1, b1⟩ := kx E ce q u t T'.heap (locs ++ L) e1.symm (by rw [← e2]; exact X'.warmed.alike) hp hb k1 k2 k3 (by rw [e1]; exact hce) hcv hcl T' rfl X'
    exact ⟨t2, st.trans a1, b1⟩
theorem vx_callv {S SX : Type} {post : S → Prop} {px : SX → Prop} {B : S → State → Prop} {BX : String → SX → State → Prop} {AX : Nat → Prop} (hr : vx_Run p l e R s m args below meth c H locs cells slots mc ms (F0 m pc ls st0) rest (va_Qv post B A1 a) (vx_X px BX AX) free) (hS : va_S A0 H0 H locs) (hA : ∀ q, q < H.size → A1 q → A0 q) (hf : ∀ q, free q → A0 q) (hAX : ∀ q, q < H.size → AX q → A0 q)
    (kx : ∀ (E : String) (ce : Cell) (q9 : Addr) (u : SX) (t : State) (H1 : Heap) (locs1 : List Loc), t.heap = H1 → s.vm.Alike t.vm → px u → BX E u t → H.size ≤ H1.size → (∀ q : Nat, q < H.size → ¬ AX q → H1[q]? = H[q]?) → va_S A0 H0 H1 locs1 → H1[q9]? = some ce → ce.vm = .none → s.vm.findClass E = some ce.cls → vx_W p l e R s m args below meth c H1 locs1 (cells + mc) (slots + ms) Q (F0 m pc ls rest) q9)
    (kk : ∀ (u : S) (t : State) (H1 : Heap) (locs1 : List Loc), t.heap = H1 → s.vm.Alike t.vm → post u → B u t → H.size ≤ H1.size → (∀ q : Nat, q < H.size → ¬ A1 q → H1[q]? = H[q]?) → va_S A0 H0 H1 locs1 → W p l e R s m args below meth c H1 locs1 (cells + mc) (slots + ms) Q (F0 m (pc + 3) ls (rest))) : W p l e R s m args below meth c H locs cells slots Q (F0 m pc ls st0) := by
  intro T hT X
  rcases hr T hT X with ⟨v, st₀, t, T', L, h0, X', hL, e1, e2, ⟨⟨u, hv, hp, hb⟩, hF⟩, st⟩ | ⟨q, st₀, t, T', L, E, ce, h0, X', hL, e1, e2, ⟨u, hp, hb, hF⟩, hce, hcv, hcl, st⟩
  · cases hv
    obtain ⟨k1, k2, k3⟩ := vx_keep h0 e1 hS hA hf hL hF
    obtain ⟨t2, a1, b1⟩ := kk u t T'.heap (locs ++ L) e1.symm (by rw [← e2]; exact X'.warmed.alike) hp hb k1 k2 k3 T' rfl X'
    exact ⟨t2, st t2 a1, b1⟩
  · obtain ⟨k1, k2, k3⟩ := vx_keep h0 e1 hS hAX hf hL hF
    obtain ⟨t2, a1, b1⟩ := kx E ce q u t T'.heap (locs ++ L) e1.symm (by rw [← e2]; exact X'.warmed.alike) hp hb k1 k2 k3 (by rw [e1]; exact hce) hcv hcl T' rfl X'
    exact ⟨t2, st.trans a1, b1⟩
end Rows
section Ends
variable {p : Program} {l : Launch} {e : Env} {R : Room} {s : State} {m : MethodId} {args : Array Value} {below : List Frame} {meth : Method} {c : Code} {H : Heap} {locs : List Loc} {cells slots : Nat} {Q : State → Prop}
variable {mc ms : Nat} {free : Addr → Prop} {A0 A1 : Nat → Prop} {H0 : Heap} {a : Array Value} {ls : Array Slot} {st0 rest : List Value}
variable {Qc : Array Value → State → Outcome → State → Prop} {XC : String → State → State → Prop}
def vx_MQ (below : List Frame) (Qc : Array Value → State → Outcome → State → Prop) (XC : String → State → State → Prop) (a : Array Value) (s : State) (mc ms : Nat) (free : Addr → Prop) : State → Prop := fun t =>
  ∃ o, t.status = .running ∧ Ended t below o ∧ vx_Q Qc XC mc ms free a s o t
theorem vx_ret {g : JFrame} {mc ms : Nat} (k : W p l e R s m args below meth c H locs cells slots (MQ below Qc args s mc ms free) g) : W p l e R s m args below meth c H locs cells slots (vx_MQ below Qc XC args s mc ms free) g := by
  intro T hT X
  obtain ⟨t, a1, o, b1, b2, b3, b4⟩ := k T hT X
  exact ⟨t, a1, o, b1, b2, Or.inl ⟨b3, b4⟩⟩
theorem vx_widen {g : JFrame} {q : Addr} {k n : Nat} (h1 : cells ≤ k) (h2 : slots ≤ n) (kk : vx_W p l e R s m args below meth c H locs k n Q g q) : vx_W p l e R s m args below meth c H locs cells slots Q g q := fun T hT X => kk T hT (stand_widen X h1 h2)
theorem vx_out {pc : Nat} {E : String} {ce : Cell} {q : Addr} {mc ms : Nat} (hout : ∀ x ∈ c.exceptionTable.toList, covers x pc = false) (hlocks : meth.locks = false) (hcell : H[q]? = some ce) (hv : ce.vm = .none) (hcl : s.vm.findClass E = some ce.cls)
    (hx : ∀ t : State, t.heap = H → s.vm.Alike t.vm → XC E s t) (hf : ∀ z ∈ locs, free z.base) (hc : cells ≤ mc) (hs : slots ≤ ms) :
    vx_W p l e R s m args below meth c H locs cells slots (vx_MQ below Qc XC args s mc ms free) (F0 m pc ls rest) q := by
  intro T hT X
  obtain ⟨st1, hrun, hend, hW, hsm⟩ := X.leaveThrown q (g := F0 m pc ls rest) rfl rfl rfl hout hlocks
  have hcell9 : (T.setFrames (.throwing q :: below)).heap[q]? = some ce := by
    show T.heap[q]? = some ce
    rw [hT]; exact hcell
  exact ⟨_, st1, .threw q, hrun, hend, Or.inr ⟨q, rfl, E, ce, locs, hx _ hT hW.alike, hcell9, hv, hcl, hW, hsm.mono hc hs, hf⟩⟩
theorem vx_frame {U : State} {k n : Nat} (h : s.sameButNew ({ U with vm := s.vm } : State) locs k n) : s.heap.size ≤ U.heap.size ∧ ∀ q : Nat, q < s.heap.size → (∀ z ∈ locs, z.base ≠ q) → U.heap[q]? = s.heap[q]? := by
  obtain ⟨-, h2, -, -, -, h6⟩ := h
  refine ⟨h2, fun q hq hz => ?_⟩
  obtain ⟨c9, e1, e2, e3, e4⟩ := h6 q _ (Array.getElem?_eq_getElem hq)
  have hs : c9.slots = (s.heap[q]).slots := Array.ext_getElem? fun i => e4 i fun hm => hz _ hm rfl
  have h9 : c9 = s.heap[q] := by
    rw [hs] at e2
    exact e2
  have e5 : U.heap[q]? = some c9 := e1
  rw [e5, h9, Array.getElem?_eq_getElem hq]
def vx_no (w : Cond) : Bool := decide (w ≠ .isRef (.static Bundle.tN "UNASSIGNED_STACK" Bundle.steD)) && decide (w ≠ .isRef (.static Bundle.tN "SUPPRESSED_SENTINEL" Bundle.listD)) && decide (w ≠ .laysStatic Bundle.tN "UNASSIGNED_STACK" Bundle.steD) && decide (w ≠ .laysStatic Bundle.tN "SUPPRESSED_SENTINEL" Bundle.listD)
def vx_at0 (own : String) (ic : Nat) (X : String) (names : List String) : List Cond := (Bundle.ownAtoms0 own ic X names).filter vx_no
def vx_atS (own : String) (ic : Nat) (X : String) (names : List String) : List Cond := (Bundle.ownAtoms own ic X names).filter vx_no
def vx_ot (w : Cond) : Bool := w.onTables || goodWord w
theorem vx_ot_at {args a' : Array Value} {s U : State} {w : Cond} (hW : s.WarmedH U.vm) (hvm : s.vm = U.vm) (hg : vx_ot w = true) (h : w.before args s = true) : w.before a' U = true := by
  simp only [vx_ot, Bool.or_eq_true] at hg
  rcases hg with hg | hg
  · exact va_tabs hg hvm h
  · exact word_at hW (good_of_word hg) h
theorem vx_hat {args : Array Value} {s : State} {L B : List Cond} (h1 : ∀ w ∈ L.filter goodWord, w.before args s = true) (h2 : ∀ w ∈ L.filter (fun w => !goodWord w), w ∈ B) (h3 : ∀ w ∈ B, w.before args s = true) : ∀ w ∈ L, w.before args s = true := by
  intro w hw
  by_cases g : goodWord w = true
  · exact h1 w (List.mem_filter.mpr ⟨hw, g⟩)
  · refine h3 w (h2 w (List.mem_filter.mpr ⟨hw, ?_⟩))
    show (!goodWord w) = true
    cases hgw : goodWord w
    · rfl
    · exact absurd hgw g
theorem vx_c {args : Array Value} {s : State} {w : Cond} {B : List Cond} (h : w.before args s = true) (t : ∀ w ∈ B, w.before args s = true) : ∀ w' ∈ w :: B, w'.before args s = true := fun w' h' => (List.mem_cons.mp h').elim (fun e => by rw [e]; exact h) (t w')
theorem vx_n {args : Array Value} {s : State} : ∀ w ∈ ([] : List Cond), w.before args s = true := fun _ h => nomatch h
theorem vx_own {args : Array Value} {s : State} {L : List Cond} (h1 : ∀ w ∈ L.filter vx_no, w.before args s = true)
    (hU : (Cond.isRef (.static Bundle.tN "UNASSIGNED_STACK" Bundle.steD)).before args s = true) (hN : (Cond.isRef (.static Bundle.tN "SUPPRESSED_SENTINEL" Bundle.listD)).before args s = true)
    (lU : (Cond.laysStatic Bundle.tN "UNASSIGNED_STACK" Bundle.steD).before args s = true) (lN : (Cond.laysStatic Bundle.tN "SUPPRESSED_SENTINEL" Bundle.listD).before args s = true) : ∀ w ∈ L, w.before args s = true := by
  intro w hw
  by_cases e1 : w = .isRef (.static Bundle.tN "UNASSIGNED_STACK" Bundle.steD)
  · rw [e1]; exact hU
  · by_cases e2 : w = .isRef (.static Bundle.tN "SUPPRESSED_SENTINEL" Bundle.listD)
    · rw [e2]; exact hN
    · by_cases e3 : w = .laysStatic Bundle.tN "UNASSIGNED_STACK" Bundle.steD
      · rw [e3]; exact lU
      · by_cases e4 : w = .laysStatic Bundle.tN "SUPPRESSED_SENTINEL" Bundle.listD
        · rw [e4]; exact lN
        · exact h1 w (List.mem_filter.mpr ⟨hw, by unfold vx_no; rw [decide_eq_true e1, decide_eq_true e2, decide_eq_true e3, decide_eq_true e4]; rfl⟩)
def vx_L (C n d : String) (A : Nat → Prop) (U : State) (H : Heap) : Prop := ∃ (c : ClassId) (k : Class) (i : Nat) (f : Field) (a : Nat) (cell : Cell), U.vm.findClass C = some c ∧ U.fieldFound? C n d = some (c, k, i, f) ∧ f.isStatic = true ∧ k.statics = some a ∧ H[a]? = some cell ∧ cell.vm.isStatics = true ∧ cell.cls = c ∧ f.slot < cell.slots.size ∧ k.staticTypes[f.slot]? = some f.type ∧ ¬ A a
theorem vx_L.moved {C n d : String} {A : Nat → Prop} {u U : State} {H : Heap} (hvm : u.vm.Alike U.vm) (h : vx_L C n d A u H) : vx_L C n d A U H := by
  obtain ⟨c, k, i, f, a, cell, h1, h2, h3, h4, h5, h6, h7, h8, h9, h10⟩ := h
  obtain ⟨k', hi', he⟩ := State.fieldFound?_setVm hvm h2
  exact ⟨c, k', i, f, a, cell, by rw [hvm.findClass]; exact h1, hi', h3, by rw [he]; exact h4, h5, h6, h7, h8, by rw [he]; exact h9, h10⟩
theorem vx_L.kept {C n d : String} {A : Nat → Prop} {U : State} {H H1 : Heap} (h : vx_L C n d A U H) (hq : ∀ a : Nat, a < H.size → ¬ A a → H1[a]? = H[a]?) : vx_L C n d A U H1 := by
  obtain ⟨c, k, i, f, a, cell, h1, h2, h3, h4, h5, h6, h7, h8, h9, h10⟩ := h
  exact ⟨c, k, i, f, a, cell, h1, h2, h3, h4, by rw [hq a (Array.getElem?_eq_some_iff.mp h5).1 h10]; exact h5, h6, h7, h8, h9, h10⟩
theorem vx_L.narrow {C n d : String} {A B : Nat → Prop} {U : State} {H : Heap} (h : vx_L C n d A U H) (hAB : ∀ q, B q → A q) : vx_L C n d B U H := by
  obtain ⟨c, k, i, f, a, cell, h1, h2, h3, h4, h5, h6, h7, h8, h9, h10⟩ := h
  exact ⟨c, k, i, f, a, cell, h1, h2, h3, h4, h5, h6, h7, h8, h9, fun z => h10 (hAB _ z)⟩
theorem vx_L.word {C n d : String} {A : Nat → Prop} {s : State} {args : Array Value} (h : vx_L C n d A s s.heap) : (Cond.laysStatic C n d).before args s = true := by
  obtain ⟨c, k, i, f, a, cell, h1, h2, h3, h4, h5, h6, h7, h8, h9, -⟩ := h
  show (Cond.laysStatic C n d).holds args s none s [] = true
  exact Cond.laysStatic_of h1 h2 h3 h4 h5 h6 h7 h8 h9
def vx_Zq (C n d : String) (A : Nat → Prop) (U : State) (H : Heap) : Prop := va_Zq C n d A U H ∧ vx_L C n d A U H
theorem vx_Zq.moved {C n d : String} {A : Nat → Prop} {u U : State} {H : Heap} (hvm : u.vm.Alike U.vm) (h : vx_Zq C n d A u H) : vx_Zq C n d A U H := ⟨va_Zq.moved hvm h.1, vx_L.moved hvm h.2⟩
theorem vx_Zq.kept {C n d : String} {A : Nat → Prop} {U : State} {H H1 : Heap} (h : vx_Zq C n d A U H) (hq : ∀ a : Nat, a < H.size → ¬ A a → H1[a]? = H[a]?) : vx_Zq C n d A U H1 := ⟨va_Zq.kept h.1 hq, vx_L.kept h.2 hq⟩
theorem vx_Zq.narrow {C n d : String} {A B : Nat → Prop} {U : State} {H : Heap} (h : vx_Zq C n d A U H) (hAB : ∀ q, B q → A q) : vx_Zq C n d B U H := ⟨va_Zq.narrow h.1 hAB, vx_L.narrow h.2 hAB⟩
theorem vx_Zqof {args : Array Value} {s : State} {C n d : String} {A : Nat → Prop} (hl : (Cond.laysStatic C n d).before args s = true) (hini : (Cond.initialized C).before args s = true) (h : (Cond.isRef (.static C n d)).before args s = true) (hA : ∀ a : Nat, a < s.heap.size → ¬ A a) : vx_Zq C n d A s s.heap := by
  refine ⟨va_Zqof hl hini h hA, ?_⟩
  obtain ⟨c, k, i, f, a, cell, h1, h2, h3, h4, h5, h6, h7, h8, h9⟩ := Cond.laysStatic_spec hl
  exact ⟨c, k, i, f, a, cell, h1, h2, h3, h4, h5, h6, h7, h8, h9, hA a (Array.getElem?_eq_some_iff.mp h5).1⟩
theorem vx_isRef {C n d : String} {v : Value} {A : Nat → Prop} {s : State} {args : Array Value} (h : va_Z C n d v A s s.heap) (hv : v.isRef = true) : (Cond.isRef (.static C n d)).before args s = true := by
  obtain ⟨cf, kf, fi, f, a, cell, h1, h2, h3, h4, h5, h6, h7, -⟩ := h
  have he : (Term.static C n d).eval args s none [] s = some v := by
    simp [Term.eval, State.fieldNamed?, h1, h2, h4, h5, h6, h7]
  simp only [Cond.before, Cond.holds, Cond.value, he]
  cases v <;> simp_all [Value.isRef]
theorem vx_isRefq {C n d : String} {A : Nat → Prop} {s : State} {args : Array Value} (h : va_Zq C n d A s s.heap) : (Cond.isRef (.static C n d)).before args s = true := by
  rcases h with h | ⟨t, h⟩
  · exact vx_isRef h rfl
  · exact vx_isRef h rfl
theorem vx_rebase {T : State} (X : Stand p l e R s m args below meth c T locs cells slots) {R' : Room} (hf : R'.frames ≤ R.frames) (hl : R'.locals ≤ R.locals) (hc : cells + R'.cells ≤ R.cells) (hs : slots + R'.slots ≤ R.slots) :
    Stand p l e R' ((T.setVm s.vm).setFrames (.invoking m args :: below)) m args below meth c T [] 0 0 := by
  have htop : (T.setVm s.vm).topJava?.isSome := X.here.top
  have hF : ((T.setVm s.vm).setFrames (.invoking m args :: below)).frames = .invoking m args :: below := State.frames_setFrames _ (State.cur_lt_of_top htop)
  obtain ⟨g₀, hg0⟩ := Option.isSome_iff_exists.mp htop
  obtain ⟨r, hr⟩ := State.topJava?_eq_some.mp hg0
  have hl9 : e.platform.stackLimits (T.setVm s.vm).me = e.platform.stackLimits s.me := X.limits
  have hb9 : (T.setVm s.vm).me.stackBytes = s.me.stackBytes := X.bytes
  refine ⟨X.admits, X.cas, X.clock, hF, ?_, X.hears, X.method, X.code, X.here, X.tail, X.warmed, ?_, ?_, ?_⟩
  · have h := X.room
    have hU : ((T.setVm s.vm).setFrames (.invoking m args :: below)).localsInUse = s.localsInUse := by
      rw [State.localsInUse_invoking hF (meth := meth) (c := c) X.method X.code, State.localsInUse_invoking X.frames X.method X.code]
    simp only [State.hasRoom, Bool.and_eq_true, decide_eq_true_eq] at h ⊢
    obtain ⟨⟨⟨⟨h1, h2, h3, h4, h5, h6⟩, h7⟩, h8⟩, h9⟩ := h
    rw [X.frames, List.length_cons] at h2 h3
    have q1 := X.heapSize
    have q2 := X.used
    simp only [hF, hU, List.length_cons, State.stackLimits_setFrames, State.stackBytes_setFrames, hl9, hb9]
    refine ⟨⟨⟨⟨by omega, by omega, by omega, by omega, by omega, h6⟩, ?_⟩, ?_⟩, X.book⟩
    · show T.heap.size + R'.cells ≤ e.platform.maxCells
      omega
    · show T.slotsUsed + R'.slots ≤ e.platform.maxSlots
      omega
  · rw [State.stackLimits_setFrames]; rfl
  · rw [State.stackBytes_setFrames]; rfl
  · refine ⟨?_, Nat.le_refl _, Nat.le_refl _, ?_, ?_, fun a c9 h9 => ⟨c9, h9, rfl, rfl, fun _ _ => rfl⟩⟩
    · obtain ⟨t, ht, -⟩ := State.frames_cons hr
      show T.setVm s.vm = { ((T.setVm s.vm).setFrames (.invoking m args :: below)).setFrames (T.setVm s.vm).frames with heap := T.heap, slotsUsed := T.slotsUsed }
      rw [State.setFrames_setFrames, State.setFrames_self ht]
      rfl
    · show T.slotsUsed = T.slotsUsed + ((T.heap.toList.drop T.heap.size).map (·.slots.size)).sum
      rw [List.drop_eq_nil_of_le (Nat.le_of_eq Array.length_toList)]
      rfl
    · show ((T.heap.toList.drop T.heap.size).map (·.slots.size)).sum ≤ 0
      rw [List.drop_eq_nil_of_le (Nat.le_of_eq Array.length_toList)]
      exact Nat.le_refl _
theorem vx_throw0 {cc : ByteArray} {pc : Nat} (hexec : p.tables.exec = Jvm.exec) (hb : c.code = cc) (hl : l.stackTraces = false) {own cls : String} {names : List String} {ik ic mc ms : Nat} {A : Nat → Prop}
    (hown : s.vm.findClass own = some m.cls) (hcls : Bundle.fit cls = true) (hnames : ∀ n ∈ names, Bundle.fit n = true)
    (hk : (Cond.classLink own ik cls).before args s = true) (hini : (Cond.initialized cls).before args s = true) (hat : ∀ w ∈ vx_at0 own ic cls names, w.before args s = true)
    (hgood : ∀ w ∈ Cond.classLink own ik cls :: Cond.initialized cls :: vx_at0 own ic cls names, vx_ot w = true)
    (hU : vx_Zq Bundle.tN "UNASSIGNED_STACK" Bundle.steD A s s.heap) (hN : vx_Zq Bundle.tN "SUPPRESSED_SENTINEL" Bundle.listD A s s.heap) (hS : va_S A s.heap H locs) (hsize : ls.size = c.maxLocals)
    (d0 : decode cc pc = .ok (.new ik, 3)) (d3 : decode cc (pc + 3) = .ok (.dup, 1)) (d4 : decode cc (pc + 4) = .ok (.invokespecial ic, 3)) (d7 : decode cc (pc + 7) = .ok (.athrow, 1))
    (hout : ∀ x ∈ c.exceptionTable.toList, covers x (pc + 7) = false)
    (hRframes : names.length + 3 < R.frames) (hRlocals : (rest.map fun v => v.category).sum + (13 * (names.length + 1) + 42) ≤ R.locals) (hRcells : cells + 1 ≤ R.cells) (hRslots : slots + 6 ≤ R.slots) (hlocks : meth.locks = false)
    (hx : ∀ t : State, s.vm.Alike t.vm → H.size ≤ t.heap.size → (∀ q : Nat, q < H.size → t.heap[q]? = H[q]?) → XC cls s t)
    (hf : ∀ z ∈ locs, free z.base) (hc : cells + 1 ≤ mc) (hs : slots + 6 ≤ ms) :
    W p l e R s m args below meth c H locs cells slots (vx_MQ below Qc XC args s mc ms free) (F0 m pc ls rest) := by
  intro T hT X
  have htr : e.platform.stackTraces = false := (show e.platform.stackTraces = l.stackTraces by rw [X.admits.platform]).trans hl
  have Y := vx_rebase X (R' := { frames := R.frames, locals := R.locals, cells := 1, slots := 6 }) (Nat.le_refl _) (Nat.le_refl _) hRcells hRslots
  obtain ⟨s', hA⟩ : ∃ z, z = (T.setVm s.vm).setFrames (.invoking m args :: below) := ⟨_, rfl⟩
  rw [← hA] at Y
  have hvm : s'.vm = s.vm := by rw [hA]; rfl
  have hhp : s'.heap = H := by rw [hA]; exact hT
  have hW0 : s.WarmedH s'.vm := by rw [hvm]; exact State.WarmedH.refl s
  have hat' : ∀ w ∈ vx_at0 own ic cls names, w.before args s' = true := fun w hw => vx_ot_at hW0 hvm.symm (hgood w (List.mem_cons_of_mem _ (List.mem_cons_of_mem _ hw))) (hat w hw)
  have hk' : (Cond.classLink own ik cls).before args s' = true := vx_ot_at hW0 hvm.symm (hgood _ List.mem_cons_self) hk
  have hini' : (Cond.initialized cls).before args s' = true := vx_ot_at hW0 hvm.symm (hgood _ (List.mem_cons_of_mem _ List.mem_cons_self)) hini
  have hU' : vx_Zq Bundle.tN "UNASSIGNED_STACK" Bundle.steD A s' s'.heap := by rw [hhp]; exact vx_Zq.moved hW0.alike (hU.kept hS.2.1)
  have hN' : vx_Zq Bundle.tN "SUPPRESSED_SENTINEL" Bundle.listD A s' s'.heap := by rw [hhp]; exact vx_Zq.moved hW0.alike (hN.kept hS.2.1)
  have h : ∀ w ∈ Bundle.ownAtoms0 own ic cls names, w.before args s' = true := vx_own hat' (vx_isRefq hU'.1) (vx_isRefq hN'.1) hU'.2.word hN'.2.word
  have hown' : s'.vm.findClass own = some m.cls := by rw [hvm]; exact hown
  have hins : (Cond.instantiable cls 6).before args s' = true := h _ (by simp [Bundle.ownAtoms0])
  obtain ⟨vm₁, cX, kX, hfX, hkX, -, -, X₁, st1⟩ := Y.newCold hexec (own := own) (C := cls) (index := ik) (n := 6) hown' hk' hins hini'
    (g := F0 m pc ls rest) rfl (by rw [hb]; exact d0) (Nat.le_refl _) (Nat.le_refl _)
  generalize hT1 : (T.setVm vm₁).pushCell { cls := cX, slots := kX.instanceTypes.map defaultValue, vm := .none } = T1 at X₁ st1
  have hcat : (Value.ref T.heap.size).category = 1 := rfl
  have hcellA : T1.heap[T.heap.size]? = some (freshCell cX kX) := by rw [← hT1]; exact State.heap_pushCell_size _ _
  have d3' : decode c.code (pc + 3) = .ok (.dup, 1) := by rw [hb]; exact d3
  obtain ⟨U, hsteps, hrun, hend, hW, hsame, ce, hce, hO⟩ := X₁.ctorThrow0 hexec htr (own := own) (cls := cls) (names := names) (ic := ic) hown' hcls hnames h (fun x hx => nomatch hx) hfX hkX hcellA (by rw [hhp, hT]; exact Nat.le_refl _)
    (g := { method := m, pc := pc + 4, locals := ls, stack := .ref T.heap.size :: .ref T.heap.size :: rest, locked := none }) rfl hsize rfl rfl (rest := rest) rfl
    (by rw [hb]; exact d4) (by rw [hb]; exact d7) hout hRframes (by simp only [List.map_cons, List.sum_cons, hcat]; omega) hlocks
  obtain ⟨f1, f2⟩ := vx_frame hsame
  rw [hhp] at f1 f2
  have hWs : s.WarmedH U.vm := State.WarmedH.trans hW0 hW
  have hcl : s.vm.findClass cls = some ce.cls := by
    have h9 := hO.cls
    rw [hvm] at h9
    exact h9
  have hall : s.sameButNew ({ U with vm := s.vm } : State) locs mc ms := by
    subst hA
    obtain ⟨e1, e2⟩ := hsame
    rw [State.setFrames_setFrames] at e1
    have h2 : (T.setVm s.vm).sameButNew ({ U with vm := s.vm } : State) [] (0 + 1) (0 + 6) := ⟨e1, e2⟩
    have h3 := X.same.trans h2
    rw [List.append_nil] at h3
    exact h3.mono hc hs
  refine ⟨U, ?_, .threw T.heap.size, hrun, hend, Or.inr ⟨T.heap.size, rfl, cls, ce, locs, hx U hWs.alike f1 (fun q hq => f2 q hq (fun z hz => nomatch hz)), hce, hO.vm, hcl, hWs, hall, hf⟩⟩
  refine st1 _ ?_
  show Steps p.tables e below (T1.setTop { method := m, pc := pc + 3, locals := ls, stack := .ref T.heap.size :: rest, locked := none }) _
  jvm_step X₁.here [X₁.here.top, hexec, d3', Value.category]
  exact hsteps
theorem vx_throwS {cc : ByteArray} {pc : Nat} (hexec : p.tables.exec = Jvm.exec) (hb : c.code = cc) (hl : l.stackTraces = false) {own cls text : String} {names : List String} {ik is ic mc ms sa : Nat} {A : Nat → Prop}
    (hown : s.vm.findClass own = some m.cls) (hcls : Bundle.fit cls = true) (hnames : ∀ n ∈ names, Bundle.fit n = true)
    (hk : (Cond.classLink own ik cls).before args s = true) (hini : (Cond.initialized cls).before args s = true) (hstr : vk_R own is text sa s) (hat : ∀ w ∈ vx_atS own ic cls names, w.before args s = true)
    (hgood : ∀ w ∈ Cond.classLink own ik cls :: Cond.initialized cls :: vx_atS own ic cls names, vx_ot w = true)
    (hU : vx_Zq Bundle.tN "UNASSIGNED_STACK" Bundle.steD A s s.heap) (hN : vx_Zq Bundle.tN "SUPPRESSED_SENTINEL" Bundle.listD A s s.heap) (hS : va_S A s.heap H locs) (hsize : ls.size = c.maxLocals)
    (d0 : decode cc pc = .ok (.new ik, 3)) (d3 : decode cc (pc + 3) = .ok (.dup, 1)) (d4 : decode cc (pc + 4) = .ok (.ldc is, 2)) (d6 : decode cc (pc + 6) = .ok (.invokespecial ic, 3)) (d9 : decode cc (pc + 9) = .ok (.athrow, 1))
    (hout : ∀ x ∈ c.exceptionTable.toList, covers x (pc + 9) = false)
    (hRframes : names.length + 3 < R.frames) (hRlocals : (rest.map fun v => v.category).sum + (13 * (names.length + 1) + 43) ≤ R.locals) (hRcells : cells + 1 ≤ R.cells) (hRslots : slots + 6 ≤ R.slots) (hlocks : meth.locks = false)
    (hx : ∀ t : State, s.vm.Alike t.vm → H.size ≤ t.heap.size → (∀ q : Nat, q < H.size → t.heap[q]? = H[q]?) → XC cls s t)
    (hf : ∀ z ∈ locs, free z.base) (hc : cells + 1 ≤ mc) (hs : slots + 6 ≤ ms) :
    W p l e R s m args below meth c H locs cells slots (vx_MQ below Qc XC args s mc ms free) (F0 m pc ls rest) := by
  intro T hT X
  have htr : e.platform.stackTraces = false := (show e.platform.stackTraces = l.stackTraces by rw [X.admits.platform]).trans hl
  have Y := vx_rebase X (R' := { frames := R.frames, locals := R.locals, cells := 1, slots := 6 }) (Nat.le_refl _) (Nat.le_refl _) hRcells hRslots
  obtain ⟨s', hA⟩ : ∃ z, z = (T.setVm s.vm).setFrames (.invoking m args :: below) := ⟨_, rfl⟩
  rw [← hA] at Y
  have hvm : s'.vm = s.vm := by rw [hA]; rfl
  have hhp : s'.heap = H := by rw [hA]; exact hT
  have hW0 : s.WarmedH s'.vm := by rw [hvm]; exact State.WarmedH.refl s
  have hat' : ∀ w ∈ vx_atS own ic cls names, w.before args s' = true := fun w hw => vx_ot_at hW0 hvm.symm (hgood w (List.mem_cons_of_mem _ (List.mem_cons_of_mem _ hw))) (hat w hw)
  have hk' : (Cond.classLink own ik cls).before args s' = true := vx_ot_at hW0 hvm.symm (hgood _ List.mem_cons_self) hk
  have hini' : (Cond.initialized cls).before args s' = true := vx_ot_at hW0 hvm.symm (hgood _ (List.mem_cons_of_mem _ List.mem_cons_self)) hini
  have hU' : vx_Zq Bundle.tN "UNASSIGNED_STACK" Bundle.steD A s' s'.heap := by rw [hhp]; exact vx_Zq.moved hW0.alike (hU.kept hS.2.1)
  have hN' : vx_Zq Bundle.tN "SUPPRESSED_SENTINEL" Bundle.listD A s' s'.heap := by rw [hhp]; exact vx_Zq.moved hW0.alike (hN.kept hS.2.1)
  have h : ∀ w ∈ Bundle.ownAtoms own ic cls names, w.before args s' = true := vx_own hat' (vx_isRefq hU'.1) (vx_isRefq hN'.1) hU'.2.word hN'.2.word
  have hown' : s'.vm.findClass own = some m.cls := by rw [hvm]; exact hown
  have hins : (Cond.instantiable cls 6).before args s' = true := h _ (by simp [Bundle.ownAtoms])
  obtain ⟨vm₁, cX, kX, hfX, hkX, -, -, X₁, st1⟩ := Y.newCold hexec (own := own) (C := cls) (index := ik) (n := 6) hown' hk' hins hini'
    (g := F0 m pc ls rest) rfl (by rw [hb]; exact d0) (Nat.le_refl _) (Nat.le_refl _)
  generalize hT1 : (T.setVm vm₁).pushCell { cls := cX, slots := kX.instanceTypes.map defaultValue, vm := .none } = T1 at X₁ st1
  have hcat : (Value.ref T.heap.size).category = 1 := rfl
  have hcellA : T1.heap[T.heap.size]? = some (freshCell cX kX) := by rw [← hT1]; exact State.heap_pushCell_size _ _
  have d3' : decode c.code (pc + 3) = .ok (.dup, 1) := by rw [hb]; exact d3
  have d4' : decode c.code (pc + 4) = .ok (.ldc is, 2) := by rw [hb]; exact d4
  have hstr' : vk_R own is text sa s' := vk_R.warm hW0 hstr
  obtain ⟨U, hsteps, hrun, hend, hW, hsame, ce, hce, hO⟩ := X₁.ctorThrowS hexec htr (own := own) (cls := cls) (names := names) (ic := ic) hown' hcls hnames h (fun x hx => nomatch hx) hfX hkX hcellA (by rw [hhp, hT]; exact Nat.le_refl _) (msg := .ref sa) rfl
    (g := { method := m, pc := pc + 6, locals := ls, stack := .ref sa :: .ref T.heap.size :: .ref T.heap.size :: rest, locked := none }) rfl hsize rfl rfl (rest := rest) rfl
    (by rw [hb]; exact d6) (by rw [hb]; exact d9) hout hRframes (by simp only [List.map_cons, List.sum_cons, hcat]; omega) hlocks
  obtain ⟨f1, f2⟩ := vx_frame hsame
  rw [hhp] at f1 f2
  have hWs : s.WarmedH U.vm := State.WarmedH.trans hW0 hW
  have hcl : s.vm.findClass cls = some ce.cls := by
    have h9 := hO.cls
    rw [hvm] at h9
    exact h9
  have hall : s.sameButNew ({ U with vm := s.vm } : State) locs mc ms := by
    subst hA
    obtain ⟨e1, e2⟩ := hsame
    rw [State.setFrames_setFrames] at e1
    have h2 : (T.setVm s.vm).sameButNew ({ U with vm := s.vm } : State) [] (0 + 1) (0 + 6) := ⟨e1, e2⟩
    have h3 := X.same.trans h2
    rw [List.append_nil] at h3
    exact h3.mono hc hs
  refine ⟨U, ?_, .threw T.heap.size, hrun, hend, Or.inr ⟨T.heap.size, rfl, cls, ce, locs, hx U hWs.alike f1 (fun q hq => f2 q hq (fun z hz => nomatch hz)), hce, hO.vm, hcl, hWs, hall, hf⟩⟩
  refine st1 _ ?_
  show Steps p.tables e below (T1.setTop { method := m, pc := pc + 3, locals := ls, stack := .ref T.heap.size :: rest, locked := none }) _
  jvm_step X₁.here [X₁.here.top, hexec, d3', Value.category]
  exact X₁.ldcString hexec (own := own) (text := text) (index := is) (a := sa) hown' hstr'.1 hstr'.2
    (g := { method := m, pc := pc + 4, locals := ls, stack := .ref T.heap.size :: .ref T.heap.size :: rest, locked := none }) rfl d4' _ hsteps
theorem vx_throwSW {cc : ByteArray} {pc : Nat} (hexec : p.tables.exec = Jvm.exec) (hb : c.code = cc) (hl : l.stackTraces = false) {own cls text : String} {names : List String} {ik is ic mc ms sa : Nat} {A : Nat → Prop}
    (hown : s.vm.findClass own = some m.cls) (hcls : Bundle.fit cls = true) (hnames : ∀ n ∈ names, Bundle.fit n = true)
    (hk : (Cond.classLink own ik cls).before args s = true) (hini : (Cond.initialized cls).before args s = true) (hstr : vk_R own is text sa s) (hat : ∀ w ∈ vx_atS own ic cls names, w.before args s = true)
    (hgood : ∀ w ∈ Cond.classLink own ik cls :: Cond.initialized cls :: vx_atS own ic cls names, vx_ot w = true)
    (hU : vx_Zq Bundle.tN "UNASSIGNED_STACK" Bundle.steD A s s.heap) (hN : vx_Zq Bundle.tN "SUPPRESSED_SENTINEL" Bundle.listD A s s.heap) (hS : va_S A s.heap H locs) (hsize : ls.size = c.maxLocals)
    (d0 : decode cc pc = .ok (.new ik, 3)) (d3 : decode cc (pc + 3) = .ok (.dup, 1)) (d4 : decode cc (pc + 4) = .ok (.ldc_w is, 3)) (d7 : decode cc (pc + 7) = .ok (.invokespecial ic, 3)) (d10 : decode cc (pc + 10) = .ok (.athrow, 1))
    (hout : ∀ x ∈ c.exceptionTable.toList, covers x (pc + 10) = false)
    (hRframes : names.length + 3 < R.frames) (hRlocals : (rest.map fun v => v.category).sum + (13 * (names.length + 1) + 43) ≤ R.locals) (hRcells : cells + 1 ≤ R.cells) (hRslots : slots + 6 ≤ R.slots) (hlocks : meth.locks = false)
    (hx : ∀ t : State, s.vm.Alike t.vm → H.size ≤ t.heap.size → (∀ q : Nat, q < H.size → t.heap[q]? = H[q]?) → XC cls s t)
    (hf : ∀ z ∈ locs, free z.base) (hc : cells + 1 ≤ mc) (hs : slots + 6 ≤ ms) :
    W p l e R s m args below meth c H locs cells slots (vx_MQ below Qc XC args s mc ms free) (F0 m pc ls rest) := by
  intro T hT X
  have htr : e.platform.stackTraces = false := (show e.platform.stackTraces = l.stackTraces by rw [X.admits.platform]).trans hl
  have Y := vx_rebase X (R' := { frames := R.frames, locals := R.locals, cells := 1, slots := 6 }) (Nat.le_refl _) (Nat.le_refl _) hRcells hRslots
  obtain ⟨s', hA⟩ : ∃ z, z = (T.setVm s.vm).setFrames (.invoking m args :: below) := ⟨_, rfl⟩
  rw [← hA] at Y
  have hvm : s'.vm = s.vm := by rw [hA]; rfl
  have hhp : s'.heap = H := by rw [hA]; exact hT
  have hW0 : s.WarmedH s'.vm := by rw [hvm]; exact State.WarmedH.refl s
  have hat' : ∀ w ∈ vx_atS own ic cls names, w.before args s' = true := fun w hw => vx_ot_at hW0 hvm.symm (hgood w (List.mem_cons_of_mem _ (List.mem_cons_of_mem _ hw))) (hat w hw)
  have hk' : (Cond.classLink own ik cls).before args s' = true := vx_ot_at hW0 hvm.symm (hgood _ List.mem_cons_self) hk
  have hini' : (Cond.initialized cls).before args s' = true := vx_ot_at hW0 hvm.symm (hgood _ (List.mem_cons_of_mem _ List.mem_cons_self)) hini
  have hU' : vx_Zq Bundle.tN "UNASSIGNED_STACK" Bundle.steD A s' s'.heap := by rw [hhp]; exact vx_Zq.moved hW0.alike (hU.kept hS.2.1)
  have hN' : vx_Zq Bundle.tN "SUPPRESSED_SENTINEL" Bundle.listD A s' s'.heap := by rw [hhp]; exact vx_Zq.moved hW0.alike (hN.kept hS.2.1)
  have h : ∀ w ∈ Bundle.ownAtoms own ic cls names, w.before args s' = true := vx_own hat' (vx_isRefq hU'.1) (vx_isRefq hN'.1) hU'.2.word hN'.2.word
  have hown' : s'.vm.findClass own = some m.cls := by rw [hvm]; exact hown
  have hins : (Cond.instantiable cls 6).before args s' = true := h _ (by simp [Bundle.ownAtoms])
  obtain ⟨vm₁, cX, kX, hfX, hkX, -, -, X₁, st1⟩ := Y.newCold hexec (own := own) (C := cls) (index := ik) (n := 6) hown' hk' hins hini'
    (g := F0 m pc ls rest) rfl (by rw [hb]; exact d0) (Nat.le_refl _) (Nat.le_refl _)
  generalize hT1 : (T.setVm vm₁).pushCell { cls := cX, slots := kX.instanceTypes.map defaultValue, vm := .none } = T1 at X₁ st1
  have hcat : (Value.ref T.heap.size).category = 1 := rfl
  have hcellA : T1.heap[T.heap.size]? = some (freshCell cX kX) := by rw [← hT1]; exact State.heap_pushCell_size _ _
  have d3' : decode c.code (pc + 3) = .ok (.dup, 1) := by rw [hb]; exact d3
  have d4' : decode c.code (pc + 4) = .ok (.ldc_w is, 3) := by rw [hb]; exact d4
  have hstr' : vk_R own is text sa s' := vk_R.warm hW0 hstr
  obtain ⟨U, hsteps, hrun, hend, hW, hsame, ce, hce, hO⟩ := X₁.ctorThrowS hexec htr (own := own) (cls := cls) (names := names) (ic := ic) hown' hcls hnames h (fun x hx => nomatch hx) hfX hkX hcellA (by rw [hhp, hT]; exact Nat.le_refl _) (msg := .ref sa) rfl
    (g := { method := m, pc := pc + 7, locals := ls, stack := .ref sa :: .ref T.heap.size :: .ref T.heap.size :: rest, locked := none }) rfl hsize rfl rfl (rest := rest) rfl
    (by rw [hb]; exact d7) (by rw [hb]; exact d10) hout hRframes (by simp only [List.map_cons, List.sum_cons, hcat]; omega) hlocks
  obtain ⟨f1, f2⟩ := vx_frame hsame
  rw [hhp] at f1 f2
  have hWs : s.WarmedH U.vm := State.WarmedH.trans hW0 hW
  have hcl : s.vm.findClass cls = some ce.cls := by
    have h9 := hO.cls
    rw [hvm] at h9
    exact h9
  have hall : s.sameButNew ({ U with vm := s.vm } : State) locs mc ms := by
    subst hA
    obtain ⟨e1, e2⟩ := hsame
    rw [State.setFrames_setFrames] at e1
    have h2 : (T.setVm s.vm).sameButNew ({ U with vm := s.vm } : State) [] (0 + 1) (0 + 6) := ⟨e1, e2⟩
    have h3 := X.same.trans h2
    rw [List.append_nil] at h3
    exact h3.mono hc hs
  refine ⟨U, ?_, .threw T.heap.size, hrun, hend, Or.inr ⟨T.heap.size, rfl, cls, ce, locs, hx U hWs.alike f1 (fun q hq => f2 q hq (fun z hz => nomatch hz)), hce, hO.vm, hcl, hWs, hall, hf⟩⟩
  refine st1 _ ?_
  show Steps p.tables e below (T1.setTop { method := m, pc := pc + 3, locals := ls, stack := .ref T.heap.size :: rest, locked := none }) _
  jvm_step X₁.here [X₁.here.top, hexec, d3', Value.category]
  exact X₁.ldcStringW hexec (own := own) (text := text) (index := is) (a := sa) hown' hstr'.1 hstr'.2
    (g := { method := m, pc := pc + 4, locals := ls, stack := .ref T.heap.size :: .ref T.heap.size :: rest, locked := none }) rfl d4' _ hsteps
end Ends
section Bodies
variable {l : Launch}
theorem vx_ofW {y : MethodName} {ws ws' : List Cond} {rm : Room} {Pc : Array Value → State → Prop} {Qc : Array Value → State → Outcome → State → Prop} {XC : String → State → State → Prop} {mc ms : Nat} {free : Addr → Prop} {cc : ByteArray} {maxL : Nat} {ret : Option FieldType}
    (hy : plainName y.cls = true) (hw : ws = Cond.code y cc maxL ret :: ws')
    (body : ∀ p e s m args below meth c s₁, BodyLoose p l y (headSpec ws rm) cc maxL ret e s m args below meth c s₁ → c.maxLocals = maxL → (∀ x ∈ c.exceptionTable.toList, False) → Pc args s →
      W p l e (headSpec ws rm).room s m args below meth c s.heap [] 0 0 (vx_MQ below Qc XC args s mc ms free) (entryFrame m args maxL)) : vx_Met l y ws rm Pc Qc XC mc ms free := by
  refine MetFree.of_bodyS (code := cc) (maxLocals := maxL) (ret := ret) hy ?_ ?_
  · intro args s m h hn
    obtain ⟨meth, c, h1, h2, h3, h4, h5, h6, -, -⟩ := Cond.code_spec hn (atoms_spec (ws := ws) h _ (by rw [hw]; exact List.mem_cons_self))
    exact ⟨meth, c, h1, h2, h3, h4, h5, h6⟩
  · intro p e s m args below meth c s₁ B hml hP _
    have hh0 : s₁.heap = s.heap := by rw [B.state]; rfl
    have ht : ∀ x ∈ c.exceptionTable.toList, False := by
      obtain ⟨meth9, c9, h1, h2, -, -, -, -, h7, -⟩ := Cond.code_spec B.named (atoms_spec (ws := ws) B.pre _ (by rw [hw]; exact List.mem_cons_self))
      cases Option.some.inj (h1.symm.trans B.method)
      cases Option.some.inj (h2.symm.trans (Stand.of_body B).code)
      intro x hx
      rw [Array.isEmpty_iff.mp h7] at hx
      cases hx
    obtain ⟨t, a1, o, b1, b2, b3⟩ := body p e s m args below meth c s₁ B hml ht hP s₁ hh0 (Stand.of_body B)
    exact ⟨t, o, a1, b1, b2, b3⟩
theorem vx_table {p : Program} {x y : MethodName} {S : Spec} {cc bytes : ByteArray} {maxL maxL' : Nat} {ret ret' : Option FieldType} {e : Env} {s s₁ : State} {m : MethodId} {args : Array Value} {below : List Frame} {meth : Method} {c : Code} {hh : List (Nat × Nat × Nat × Nat)}
    (B : BodyLoose p l y S cc maxL ret e s m args below meth c s₁) (h : (Cond.codeWith y bytes maxL' ret' hh).before args s = true) : c.exceptionTable.toList = tableOf hh := by
  obtain ⟨m9, meth9, c9, hn9, h1, h2, -, -, h6, -⟩ := Cond.codeWith_spec h
  cases Option.some.inj (hn9.symm.trans B.named)
  cases Option.some.inj (h1.symm.trans B.method)
  cases Option.some.inj (h2.symm.trans (Stand.of_body B).code)
  rw [← h6, table_eq]
end Bodies
end VXA
section VXS
variable {p : Program} {l : Launch} {e : Env} {R : Room} {s : State} {m : MethodId} {args : Array Value} {below : List Frame} {meth : Method} {c : Code} {T : State} {H : Heap} {locs : List Loc} {cells slots : Nat}
abbrev vx_CSW (R : Room) (s : State) (args : Array Value) (own : String) (index : Nat) (y : MethodName) (bytes : ByteArray) (maxL : Nat) (ret : Option FieldType) (hh : List (Nat × Nat × Nat × Nat)) (ws : List Cond) (rm : Room) (mc ms n : Nat) : Prop :=
  (rm.cells = mc ∧ rm.slots = ms ∧ rm.frames + 1 ≤ R.frames ∧ 8 + (maxL + 11) + rm.locals ≤ R.locals ∧ (∀ w ∈ ws, ∀ (a' : Array Value) (U : State), s.WarmedH U.vm → w.before a' U = true) ∧ Cond.codeWith y bytes maxL ret hh ∈ ws) ∧
  (Cond.codeWith y bytes maxL ret hh).before args s = true ∧ (Cond.initialized y.cls).before args s = true ∧ (y.cls ≠ "java/lang/invoke/MethodHandle" ∧ y.cls ≠ "java/lang/invoke/VarHandle") ∧
  (∀ sig, parseMethodDescriptor y.desc = some sig → n = sig.parameters.length) ∧ (Cond.methodLink own index y).before args s = true ∧ (Cond.static y).before args s = true
theorem vx_cwSW {own : String} {index maxL mc ms : Nat} {y : MethodName} {bytes : ByteArray} {ret : Option FieldType} {hh : List (Nat × Nat × Nat × Nat)} {Ts ws ws' : List Cond} {rm : Room} (n : Nat) (ht : ∀ w ∈ Ts, w.before args s = true) (hT : GoodIn Ts (va_wsS own index y ws)) (hw : ws = Cond.codeWith y bytes maxL ret hh :: ws') (hrc : rm.cells = mc) (hrs : rm.slots = ms)
    (hd : y.cls ≠ "java/lang/invoke/MethodHandle" ∧ y.cls ≠ "java/lang/invoke/VarHandle" ∧ (parseMethodDescriptor y.desc).map (fun d => d.parameters.length) = some n) (hR : rm.frames + 1 ≤ R.frames ∧ 8 + (maxL + 11) + rm.locals ≤ R.locals) :
    vx_CSW R s args own index y bytes maxL ret hh ws rm mc ms n := by
  have ok : ∀ w ∈ va_wsS own index y ws, w.before args s = true := fun w h => ht w (hT w h).1
  have hG : GoodIn Ts ws := fun w h => hT w (by unfold va_wsS; exact List.mem_append_right _ h)
  have hc : Cond.codeWith y bytes maxL ret hh ∈ ws := by rw [hw]; exact List.mem_cons_self
  refine ⟨⟨hrc, hrs, hR.1, hR.2, pay_in ht hG, hc⟩, ht _ (hG _ hc).1, ok _ (by simp [va_wsS]), ⟨hd.1, hd.2.1⟩, fun sig h => ?_, ok _ (by simp [va_wsS]), ok _ (by simp [va_wsS])⟩
  have h2 := hd.2.2
  rw [h] at h2
  exact (Option.some.inj h2).symm
theorem vx_callSW (X : Stand p l e R s m args below meth c T locs cells slots) (hexec : p.tables.exec = Jvm.exec) {own : String} {index : Nat} {y : MethodName} {bytes : ByteArray} {maxL : Nat} {ret : Option FieldType} {hh : List (Nat × Nat × Nat × Nat)}
    (hown : s.vm.findClass own = some m.cls) (hlink : (Cond.methodLink own index y).before args s = true) (hstat : (Cond.static y).before args s = true) (hinit : (Cond.initialized y.cls).before args s = true)
    (hcode : (Cond.codeWith y bytes maxL ret hh).before args s = true) (hy : y.cls ≠ "java/lang/invoke/MethodHandle" ∧ y.cls ≠ "java/lang/invoke/VarHandle")
    {W9 : Nat} {Pre : Pt → Array Value → Prop} {Post : Pt → Array Value → Option Value → Pt → Prop} (hK : Back l R p e below s args y 3 W9 Pre Post)
    {g : JFrame} (hg : g.method = m) (hsize : g.locals.size = c.maxLocals) {argsL rest : List Value} (hlen : ∀ sig, parseMethodDescriptor y.desc = some sig → argsL.length = sig.parameters.length)
    (hstack : g.stack = argsL.reverse ++ rest) (hW : 2 * g.monitorRoom + (rest.map fun v => v.category).sum ≤ W9) (hdg : decode c.code g.pc = .ok (.invokestatic index, 3))
    (hpre : ∀ vm₁, s.WarmedH vm₁ → Pre ⟨T.setVm vm₁, locs, cells, slots⟩ argsL.toArray) :
    ∃ (v : Option Value) (vm₁ : Vm) (B : Pt), s.WarmedH vm₁ ∧ Stand p l e R s m args below meth c B.U B.locs B.cells B.slots ∧ Post ⟨T.setVm vm₁, locs, cells, slots⟩ argsL.toArray v B ∧
      ∀ target, Steps p.tables e below (B.U.setTop { g with pc := g.pc + 3, stack := v.toList ++ rest }) target → Steps p.tables e below (T.setTop g) target := by
  obtain ⟨mk, methM, cM, hnamed, hmethM, -, -, -, -, -, -, hsigM⟩ := Cond.codeWith_spec hcode
  have hstatic : methM.isStatic = true := Cond.static_spec hnamed hmethM hstat
  obtain ⟨kP, hkP, -⟩ := className_of_methodNamed hnamed
  have hinitP : kP.init = .initialized := Cond.initialized_spec (findClass_of_methodNamed hnamed) hkP hinit
  obtain ⟨vm₁, X₁, hstep₁⟩ := X.invokestatic hexec hown hlink hnamed hmethM hstatic hkP hinitP hy (g := g) hg (argsL := argsL) (rest := rest) (hlen _ hsigM) hstack hdg
  obtain ⟨v, B, X', hpost, hsteps⟩ := hK m meth c ⟨T.setVm vm₁, locs, cells, slots⟩ { g with stack := rest } (.invokestatic index) mk argsL.toArray X₁ hg hsize hdg hW (X₁.named hnamed) (hpre vm₁ X₁.warmed)
  exact ⟨v, vm₁, B, X₁.warmed, X', hpost, fun target h => hstep₁ _ fun acts => by rw [doInvoke_state]; exact hsteps.trans h⟩
theorem vx_runSW {y : MethodName} {bytes cc : ByteArray} {maxL nL mc ms n index : Nat} {ret : Option FieldType} {hh : List (Nat × Nat × Nat × Nat)} {ws : List Cond} {rm : Room} {Pc : Array Value → State → Prop} {Qc : Array Value → State → Outcome → State → Prop} {free : Addr → Prop} {Ts : List Cond} {own : String} {As rest : List Value} {g : JFrame}
    (S : CallFix p m c cc nL s args Ts own) (hM : Met l y ws rm Pc Qc mc ms free) (cw : vx_CSW R s args own index y bytes maxL ret hh ws rm mc ms n) (hp : PreS s H Pc As)
    (hg : g.method = m) (hn : As.length = n) (hsize : g.locals.size = nL) (hstack : g.stack = As.reverse ++ rest) (hW : 2 * g.monitorRoom + (rest.map fun v => v.category).sum ≤ 8) (hdg : decode cc g.pc = .ok (.invokestatic index, 3)) (hf : cells + mc ≤ R.cells ∧ slots + ms ≤ R.slots) :
    va_Run p l e R s m args below meth c H locs cells slots mc ms g rest (Qc As.toArray) (free) := by
  obtain ⟨⟨hrc, hrs, hfr, hlo, hws, hcw⟩, hcode, hini, hy, hlen, hl, hstt⟩ := cw
  have hK : Back l R p e below s args y 3 8 (PreOf R mc ms Pc) (PostOf Qc mc ms free) := va_backW (hh := hh) (bytes := bytes) (maxL := maxL) (ret := ret) hM hp.1 hrc hrs hfr hlo hws hcw (fun a' U hW => word_at hW (Or.inl (by first | rfl | simp [Cond.onTables, Cond.keeps, Cond.steady])) hini)
  obtain ⟨hx, hb, hml, ho, -⟩ := S
  intro T hT X
  obtain ⟨v, vm₁, ⟨U', l2, c2, s2⟩, hW₁, X', ⟨g', mk, t, L, e1, e2, hq, h1, hL, h2, h3⟩, st⟩ := vx_callSW X hx (hh := hh) (bytes := bytes) (maxL := maxL) (ret := ret) ho hl hstt hini hcode hy hK hg (hsize.trans hml.symm) (argsL := As) (rest := rest) (fun sig h => hn.trans (hlen sig h)) hstack hW (by rw [hb]; exact hdg)
    (fun vm₁ hW₁ => ⟨hf.1, hf.2, hp.2 (T.setVm vm₁) hT hW₁⟩)
  dsimp only [Pt.U, Pt.locs, Pt.cells, Pt.slots] at X' e1 e2 h1 h2 h3 st
  subst h1; subst h2; subst h3
  exact ⟨v, (T.setVm vm₁).calling g' mk As.toArray, t, U', L, hT, X', hL, e1, e2, hq, st⟩
theorem vx_lt {D : va_G} {cl : List vw_C} {ws : va_W} {H1 : Heap} (h : va_P D cl ws H1) {k : Nat} {q : Nat × va_E} (hk : ws[k]? = some q) : q.1 < H1.size := (h k q hk).lt
end VXS
section VXH
section
variable {l : Launch} {R : Room} {p : Program} {e : Env} {below : List Frame} {s : State} {sargs : Array Value} {y : MethodName} {len W9 : Nat}
theorem vx_backW {ws : List Cond} {rm : Room} {Pc : Array Value → State → Prop} {Qc : Array Value → State → Outcome → State → Prop} {XC : String → State → State → Prop} {mc ms : Nat} {free : Addr → Prop} {bytes : ByteArray} {maxL : Nat} {ret : Option FieldType} {hh : List (Nat × Nat × Nat × Nat)}
    (hM : vx_Met l y ws rm Pc Qc XC mc ms free) (hblind : FrameBlind Pc) (hrc : rm.cells = mc) (hrs : rm.slots = ms)
    (hframes : rm.frames + 1 ≤ R.frames) (hlocals : W9 + (maxL + 11) + rm.locals ≤ R.locals)
    (hws : ∀ w ∈ ws, ∀ a' U, s.WarmedH U.vm → w.before a' U = true) (hcode : Cond.codeWith y bytes maxL ret hh ∈ ws) (hinit : ∀ a' U, s.WarmedH U.vm → (Cond.initialized y.cls).before a' U = true) :
    vx_Back l R p e below s sargs y len W9 (PreOf R mc ms Pc) (PostOf Qc mc ms free) (vx_Post XC mc ms free) := by
  intro m meth c A g ig mk a X hg hsize hdg hW hn hp
  have h1 : (headSpec ws rm).pre.before a A.U = true := atoms_intro fun w hw => hws w hw _ _ X.warmed
  have h2 : (Cond.codeWith y bytes maxL ret hh).before a A.U = true := hws _ hcode _ _ X.warmed
  have h3 : (Cond.initialized y.cls).before a A.U = true := hinit _ _ X.warmed
  have h4 : A.cells + (headSpec ws rm).room.cells ≤ R.cells := by rw [show (headSpec ws rm).room.cells = mc from hrc]; exact hp.1
  have h5 : A.slots + (headSpec ws rm).room.slots ≤ R.slots := by rw [show (headSpec ws rm).room.slots = ms from hrs]; exact hp.2.1
  have hPc : Pc a (A.U.calling g mk a) := hblind _ _ _ _ hp.2.2
  obtain ⟨U, Ls, c0, s0⟩ := A
  dsimp only [Pt.U, Pt.locs, Pt.cells, Pt.slots] at h1 h2 h3 h4 h5 X hn hPc ⊢
  obtain ⟨m9, methY, cY, hn9, hmY, hcY, -, hlY, -⟩ := Cond.codeWith_spec h2
  cases Option.some.inj (hn9.symm.trans hn)
  obtain ⟨kY, hkY, -⟩ := className_of_methodNamed hn
  have hinitY : kY.init = .initialized := Cond.initialized_spec (findClass_of_methodNamed hn) hkY h3
  have h : At U g.method c below := by rw [hg]; exact X.here
  have hlocals9 : W9 + (maxL + 11) + (headSpec ws rm).room.locals ≤ R.locals := hlocals
  have happ : (headSpec ws rm).appliesLoose y e.platform (U.calling g mk a) = true :=
    Spec.appliesLoose_calling (g := g) h hdg hn hkY hinitY
      (X.room_calling (g := g) (R' := (headSpec ws rm).room) hsize hmY hcY hframes (by rw [hlY]; omega) h4 h5) h1
  obtain ⟨mid, hmid⟩ := h.above
  have hfr : (U.setTop g).frames = (.java g :: mid) ++ below := by rw [State.frames_setTop' g h.top, hmid]; rfl
  obtain ⟨o, s₂, hsteps, -, hend, hq⟩ := Steps.callFree hM p X.admits X.cas X.clock (acts := []) hfr happ hPc trivial
  have hq' : vx_Q Qc XC mc ms free a (U.calling g mk a) o s₂ := hq
  rw [State.frames_setTop' g h.top] at hend
  obtain ⟨g₀, hg0⟩ := Option.isSome_iff_exists.mp h.top
  obtain ⟨r, hr⟩ := State.topJava?_eq_some.mp hg0
  have hr' : (({ U with heap := s₂.heap, slotsUsed := s₂.slotsUsed } : State).setVm s₂.vm).frames = .java g₀ :: r := hr
  rcases hq' with ⟨hqc, L, hfe, hL⟩ | ⟨q, rfl, E, ce, L, hx, hce, hcv, hcl, hW₂, hsm, hL⟩
  · obtain ⟨⟨v, rfl⟩, hW₂, e2, q2, q3, q4, q5, q6⟩ := id hfe
    have e3 : s₂ = ({ (U.calling g mk a).setFrames s₂.frames with heap := s₂.heap, slotsUsed := s₂.slotsUsed } : State).setVm s₂.vm := by
      have : s₂ = ({ s₂ with vm := (U.calling g mk a).vm } : State).setVm s₂.vm := rfl
      rw [e2] at this
      exact this
    obtain ⟨c₂, i₂, len₂, hc₂, hd₂, hf₂⟩ := hend
    have hW' : U.WarmedH s₂.vm := hW₂
    have hcc : c₂ = c := by
      have h1 : s₂.code? g.method = U.code? g.method := by
        rw [State.code?_eq, State.code?_eq, hW'.alike.method?]
      exact Option.some.inj (hc₂.symm.trans (h1.trans h.code))
    subst hcc
    have hlen : len₂ = len := by rw [hdg] at hd₂; cases hd₂; rfl
    subst hlen
    have hs₂ : s₂ = (({ U with heap := s₂.heap, slotsUsed := s₂.slotsUsed } : State).setVm s₂.vm).setTop { g with pc := g.pc + len₂, stack := v.toList ++ g.stack } := by
      refine e3.trans ?_
      rw [hf₂, State.calling_eq h.top, State.setFrames_setFrames, State.setTop_of_frames _ hr', hr]
      rfl
    have hsame : U.sameButNew ({ U with heap := s₂.heap, slotsUsed := s₂.slotsUsed } : State) L mc ms := by
      refine ⟨?_, q2, q3, q4, q5, q6⟩
      obtain ⟨t, ht, -⟩ := State.frames_cons hr
      show ({ U with heap := s₂.heap, slotsUsed := s₂.slotsUsed } : State) = { U.setFrames U.frames with heap := s₂.heap, slotsUsed := s₂.slotsUsed }
      rw [State.setFrames_self ht]
    subst hg
    refine Or.inl ⟨v, ⟨(({ U with heap := s₂.heap, slotsUsed := s₂.slotsUsed } : State).setVm s₂.vm), Ls ++ L, c0 + mc, s0 + ms⟩,
      ⟨X.admits, X.cas, X.clock, X.frames, X.room, X.hears, X.method, X.code, (X.here.setHeapUsed s₂.heap s₂.slotsUsed).setVm hW'.alike, X.tail, State.WarmedH.trans X.warmed hW', X.limits, X.bytes, X.same.trans (hsame.setVm s.vm)⟩,
      ⟨g, mk, s₂, L, rfl, rfl, hqc, rfl, hL, rfl, rfl⟩, ?_⟩
    show Steps p.tables e below _ ((({ U with heap := s₂.heap, slotsUsed := s₂.slotsUsed } : State).setVm s₂.vm).setTop { g with pc := g.pc + len₂, stack := v.toList ++ g.stack })
    rw [← hs₂]
    exact hsteps
  · obtain ⟨e2, q2, q3, q4, q5, q6⟩ := id hsm
    have e3 : s₂ = ({ (U.calling g mk a).setFrames s₂.frames with heap := s₂.heap, slotsUsed := s₂.slotsUsed } : State).setVm s₂.vm := by
      have : s₂ = ({ s₂ with vm := (U.calling g mk a).vm } : State).setVm s₂.vm := rfl
      rw [e2] at this
      exact this
    have hf₂ : s₂.frames = .throwing q :: .java g :: U.frames.tail := hend
    have hW' : U.WarmedH s₂.vm := hW₂
    have hs₂ : s₂ = ((({ U with heap := s₂.heap, slotsUsed := s₂.slotsUsed } : State).setVm s₂.vm).setTop g).pushFrame (.throwing q) := by
      refine e3.trans ?_
      rw [hf₂, State.calling_eq h.top, State.setFrames_setFrames, State.pushFrame, State.frames_setTop _ hr', State.setTop_of_frames _ hr', State.setFrames_setFrames, hr]
      rfl
    have hsame : U.sameButNew ({ U with heap := s₂.heap, slotsUsed := s₂.slotsUsed } : State) L mc ms := by
      refine ⟨?_, q2, q3, q4, q5, q6⟩
      obtain ⟨t, ht, -⟩ := State.frames_cons hr
      show ({ U with heap := s₂.heap, slotsUsed := s₂.slotsUsed } : State) = { U.setFrames U.frames with heap := s₂.heap, slotsUsed := s₂.slotsUsed }
      rw [State.setFrames_self ht]
    subst hg
    refine Or.inr ⟨q, ⟨(({ U with heap := s₂.heap, slotsUsed := s₂.slotsUsed } : State).setVm s₂.vm), Ls ++ L, c0 + mc, s0 + ms⟩,
      ⟨X.admits, X.cas, X.clock, X.frames, X.room, X.hears, X.method, X.code, (X.here.setHeapUsed s₂.heap s₂.slotsUsed).setVm hW'.alike, X.tail, State.WarmedH.trans X.warmed hW', X.limits, X.bytes, X.same.trans (hsame.setVm s.vm)⟩,
      ⟨g, mk, s₂, L, E, ce, rfl, rfl, hx, hce, hcv, hcl, rfl, hL, rfl, rfl⟩, ?_⟩
    show Steps p.tables e below _ (((({ U with heap := s₂.heap, slotsUsed := s₂.slotsUsed } : State).setVm s₂.vm).setTop g).pushFrame (.throwing q))
    rw [← hs₂]
    exact hsteps
end
variable {p : Program} {l : Launch} {e : Env} {R : Room} {s : State} {m : MethodId} {args : Array Value} {below : List Frame} {meth : Method} {c : Code} {T : State} {H : Heap} {locs : List Loc} {cells slots : Nat}
theorem vx_callVX (X : Stand p l e R s m args below meth c T locs cells slots) (hexec : p.tables.exec = Jvm.exec) {own C : String} {index : Nat} {y : MethodName} {bytes : ByteArray} {maxL : Nat} {ret : Option FieldType} {hh : List (Nat × Nat × Nat × Nat)}
    (hown : s.vm.findClass own = some m.cls) (hlink : (Cond.methodLink own index y).before args s = true) (hinst : (Cond.instanceMethod y).before args s = true) (hsel : (Cond.selects C y y).before args s = true)
    (hcode : (Cond.codeWith y bytes maxL ret hh).before args s = true) (hy : y.cls ≠ "java/lang/invoke/MethodHandle" ∧ y.cls ≠ "java/lang/invoke/VarHandle")
    {W9 : Nat} {Pre : Pt → Array Value → Prop} {Post : Pt → Array Value → Option Value → Pt → Prop} {PostX : Pt → Array Value → Addr → Pt → Prop} (hK : vx_Back l R p e below s args y 3 W9 Pre Post PostX)
    {b : Addr} {cellB : Cell} (hcell : T.heap[b]? = some cellB) (hobj : cellB.vm.isStatics = false) (hcls : s.vm.findClass C = some cellB.cls)
    {g : JFrame} (hg : g.method = m) (hsize : g.locals.size = c.maxLocals) {argsL rest : List Value} (hlen : ∀ sig, parseMethodDescriptor y.desc = some sig → argsL.length = sig.parameters.length)
    (hstack : g.stack = argsL.reverse ++ .ref b :: rest) (hW : 2 * g.monitorRoom + (rest.map fun v => v.category).sum ≤ W9) (hdg : decode c.code g.pc = .ok (.invokevirtual index, 3))
    (hpre : ∀ vm₁, s.WarmedH vm₁ → Pre ⟨T.setVm vm₁, locs, cells, slots⟩ (Value.ref b :: argsL).toArray) :
    (∃ (v : Option Value) (vm₁ : Vm) (B : Pt), s.WarmedH vm₁ ∧ Stand p l e R s m args below meth c B.U B.locs B.cells B.slots ∧ Post ⟨T.setVm vm₁, locs, cells, slots⟩ (Value.ref b :: argsL).toArray v B ∧
      ∀ target, Steps p.tables e below (B.U.setTop { g with pc := g.pc + 3, stack := v.toList ++ rest }) target → Steps p.tables e below (T.setTop g) target) ∨
    (∃ (q : Addr) (vm₁ : Vm) (B : Pt), s.WarmedH vm₁ ∧ Stand p l e R s m args below meth c B.U B.locs B.cells B.slots ∧ PostX ⟨T.setVm vm₁, locs, cells, slots⟩ (Value.ref b :: argsL).toArray q B ∧
      Steps p.tables e below (T.setTop g) ((B.U.setTop { g with stack := rest }).pushFrame (.throwing q))) := by
  obtain ⟨mk, methM, hnamed, hmethM, hstM, habM⟩ := Cond.instanceMethod_spec hinst
  obtain ⟨m8, methM', cM, hn8, hmethM', -, -, -, -, -, -, hsigM⟩ := Cond.codeWith_spec hcode
  cases Option.some.inj (hn8.symm.trans hnamed)
  cases hmethM.symm.trans hmethM'
  obtain ⟨c2, r2, m2, q1, q2, q3, q4, kP, hkP, hkPi⟩ := Cond.selects_spec hsel
  cases hcls.symm.trans q1
  cases (State.methodFound?_of_named hnamed hy).symm.trans q2
  cases hnamed.symm.trans q3
  have hselP : selectMethod e.platform s.vm cellB.cls mk = .method mk := by rw [Launch.admits_selectMethod X.admits]; exact q4
  obtain ⟨vm₁, X₁, hstep₁⟩ := X.invokevirtual hexec hown hlink hnamed hmethM hstM hkP hkPi hy (a := b) (cell := cellB) hcell
    (fun z h => by rw [h] at hobj; cases hobj) hselP hmethM habM hkP hkPi (g := g) hg (argsL := argsL) (rest := rest) (hlen _ hsigM) hstack hdg
  rcases hK m meth c ⟨T.setVm vm₁, locs, cells, slots⟩ { g with stack := rest } (.invokevirtual index) mk (Value.ref b :: argsL).toArray X₁ hg hsize hdg hW (X₁.named hnamed) (hpre vm₁ X₁.warmed) with ⟨v, B, X', hpost, hsteps⟩ | ⟨q, B, X', hpost, hsteps⟩
  · exact Or.inl ⟨v, vm₁, B, X₁.warmed, X', hpost, fun target h => hstep₁ _ fun acts => by rw [doInvoke_state]; exact hsteps.trans h⟩
  · exact Or.inr ⟨q, vm₁, B, X₁.warmed, X', hpost, hstep₁ _ fun acts => by rw [doInvoke_state]; exact hsteps⟩
theorem vx_callSX (X : Stand p l e R s m args below meth c T locs cells slots) (hexec : p.tables.exec = Jvm.exec) {own : String} {index : Nat} {y : MethodName} {bytes : ByteArray} {maxL : Nat} {ret : Option FieldType} {hh : List (Nat × Nat × Nat × Nat)}
    (hown : s.vm.findClass own = some m.cls) (hlink : (Cond.methodLink own index y).before args s = true) (hstat : (Cond.static y).before args s = true) (hinit : (Cond.initialized y.cls).before args s = true)
    (hcode : (Cond.codeWith y bytes maxL ret hh).before args s = true) (hy : y.cls ≠ "java/lang/invoke/MethodHandle" ∧ y.cls ≠ "java/lang/invoke/VarHandle")
    {W9 : Nat} {Pre : Pt → Array Value → Prop} {Post : Pt → Array Value → Option Value → Pt → Prop} {PostX : Pt → Array Value → Addr → Pt → Prop} (hK : vx_Back l R p e below s args y 3 W9 Pre Post PostX)
    {g : JFrame} (hg : g.method = m) (hsize : g.locals.size = c.maxLocals) {argsL rest : List Value} (hlen : ∀ sig, parseMethodDescriptor y.desc = some sig → argsL.length = sig.parameters.length)
    (hstack : g.stack = argsL.reverse ++ rest) (hW : 2 * g.monitorRoom + (rest.map fun v => v.category).sum ≤ W9) (hdg : decode c.code g.pc = .ok (.invokestatic index, 3))
    (hpre : ∀ vm₁, s.WarmedH vm₁ → Pre ⟨T.setVm vm₁, locs, cells, slots⟩ argsL.toArray) :
    (∃ (v : Option Value) (vm₁ : Vm) (B : Pt), s.WarmedH vm₁ ∧ Stand p l e R s m args below meth c B.U B.locs B.cells B.slots ∧ Post ⟨T.setVm vm₁, locs, cells, slots⟩ argsL.toArray v B ∧
      ∀ target, Steps p.tables e below (B.U.setTop { g with pc := g.pc + 3, stack := v.toList ++ rest }) target → Steps p.tables e below (T.setTop g) target) ∨
    (∃ (q : Addr) (vm₁ : Vm) (B : Pt), s.WarmedH vm₁ ∧ Stand p l e R s m args below meth c B.U B.locs B.cells B.slots ∧ PostX ⟨T.setVm vm₁, locs, cells, slots⟩ argsL.toArray q B ∧
      Steps p.tables e below (T.setTop g) ((B.U.setTop { g with stack := rest }).pushFrame (.throwing q))) := by
  obtain ⟨mk, methM, cM, hnamed, hmethM, -, -, -, -, -, -, hsigM⟩ := Cond.codeWith_spec hcode
  have hstatic : methM.isStatic = true := Cond.static_spec hnamed hmethM hstat
  obtain ⟨kP, hkP, -⟩ := className_of_methodNamed hnamed
  have hinitP : kP.init = .initialized := Cond.initialized_spec (findClass_of_methodNamed hnamed) hkP hinit
  obtain ⟨vm₁, X₁, hstep₁⟩ := X.invokestatic hexec hown hlink hnamed hmethM hstatic hkP hinitP hy (g := g) hg (argsL := argsL) (rest := rest) (hlen _ hsigM) hstack hdg
  rcases hK m meth c ⟨T.setVm vm₁, locs, cells, slots⟩ { g with stack := rest } (.invokestatic index) mk argsL.toArray X₁ hg hsize hdg hW (X₁.named hnamed) (hpre vm₁ X₁.warmed) with ⟨v, B, X', hpost, hsteps⟩ | ⟨q, B, X', hpost, hsteps⟩
  · exact Or.inl ⟨v, vm₁, B, X₁.warmed, X', hpost, fun target h => hstep₁ _ fun acts => by rw [doInvoke_state]; exact hsteps.trans h⟩
  · exact Or.inr ⟨q, vm₁, B, X₁.warmed, X', hpost, hstep₁ _ fun acts => by rw [doInvoke_state]; exact hsteps⟩
theorem vx_callVW (X : Stand p l e R s m args below meth c T locs cells slots) (hexec : p.tables.exec = Jvm.exec) {own C : String} {index : Nat} {y : MethodName} {bytes : ByteArray} {maxL : Nat} {ret : Option FieldType} {hh : List (Nat × Nat × Nat × Nat)}
    (hown : s.vm.findClass own = some m.cls) (hlink : (Cond.methodLink own index y).before args s = true) (hinst : (Cond.instanceMethod y).before args s = true) (hsel : (Cond.selects C y y).before args s = true)
    (hcode : (Cond.codeWith y bytes maxL ret hh).before args s = true) (hy : y.cls ≠ "java/lang/invoke/MethodHandle" ∧ y.cls ≠ "java/lang/invoke/VarHandle")
    {W9 : Nat} {Pre : Pt → Array Value → Prop} {Post : Pt → Array Value → Option Value → Pt → Prop} (hK : Back l R p e below s args y 3 W9 Pre Post)
    {b : Addr} {cellB : Cell} (hcell : T.heap[b]? = some cellB) (hobj : cellB.vm.isStatics = false) (hcls : s.vm.findClass C = some cellB.cls)
    {g : JFrame} (hg : g.method = m) (hsize : g.locals.size = c.maxLocals) {argsL rest : List Value} (hlen : ∀ sig, parseMethodDescriptor y.desc = some sig → argsL.length = sig.parameters.length)
    (hstack : g.stack = argsL.reverse ++ .ref b :: rest) (hW : 2 * g.monitorRoom + (rest.map fun v => v.category).sum ≤ W9) (hdg : decode c.code g.pc = .ok (.invokevirtual index, 3))
    (hpre : ∀ vm₁, s.WarmedH vm₁ → Pre ⟨T.setVm vm₁, locs, cells, slots⟩ (Value.ref b :: argsL).toArray) :
    ∃ (v : Option Value) (vm₁ : Vm) (B : Pt), s.WarmedH vm₁ ∧ Stand p l e R s m args below meth c B.U B.locs B.cells B.slots ∧ Post ⟨T.setVm vm₁, locs, cells, slots⟩ (Value.ref b :: argsL).toArray v B ∧
      ∀ target, Steps p.tables e below (B.U.setTop { g with pc := g.pc + 3, stack := v.toList ++ rest }) target → Steps p.tables e below (T.setTop g) target := by
  obtain ⟨mk, methM, hnamed, hmethM, hstM, habM⟩ := Cond.instanceMethod_spec hinst
  obtain ⟨m8, methM', cM, hn8, hmethM', -, -, -, -, -, -, hsigM⟩ := Cond.codeWith_spec hcode
  cases Option.some.inj (hn8.symm.trans hnamed)
  cases hmethM.symm.trans hmethM'
  obtain ⟨c2, r2, m2, q1, q2, q3, q4, kP, hkP, hkPi⟩ := Cond.selects_spec hsel
  cases hcls.symm.trans q1
  cases (State.methodFound?_of_named hnamed hy).symm.trans q2
  cases hnamed.symm.trans q3
  have hselP : selectMethod e.platform s.vm cellB.cls mk = .method mk := by rw [Launch.admits_selectMethod X.admits]; exact q4
  obtain ⟨vm₁, X₁, hstep₁⟩ := X.invokevirtual hexec hown hlink hnamed hmethM hstM hkP hkPi hy (a := b) (cell := cellB) hcell
    (fun z h => by rw [h] at hobj; cases hobj) hselP hmethM habM hkP hkPi (g := g) hg (argsL := argsL) (rest := rest) (hlen _ hsigM) hstack hdg
  obtain ⟨v, B, X', hpost, hsteps⟩ := hK m meth c ⟨T.setVm vm₁, locs, cells, slots⟩ { g with stack := rest } (.invokevirtual index) mk (Value.ref b :: argsL).toArray X₁ hg hsize hdg hW (X₁.named hnamed) (hpre vm₁ X₁.warmed)
  exact ⟨v, vm₁, B, X₁.warmed, X', hpost, fun target h => hstep₁ _ fun acts => by rw [doInvoke_state]; exact hsteps.trans h⟩
abbrev vx_CVW (R : Room) (s : State) (args : Array Value) (own C : String) (index : Nat) (y : MethodName) (bytes : ByteArray) (maxL : Nat) (ret : Option FieldType) (hh : List (Nat × Nat × Nat × Nat)) (ws : List Cond) (rm : Room) (mc ms n : Nat) : Prop :=
  (rm.cells = mc ∧ rm.slots = ms ∧ rm.frames + 1 ≤ R.frames ∧ 8 + (maxL + 11) + rm.locals ≤ R.locals ∧ (∀ w ∈ ws, ∀ (a' : Array Value) (U : State), s.WarmedH U.vm → w.before a' U = true) ∧ Cond.codeWith y bytes maxL ret hh ∈ ws) ∧
  (Cond.codeWith y bytes maxL ret hh).before args s = true ∧ (Cond.initialized y.cls).before args s = true ∧ (y.cls ≠ "java/lang/invoke/MethodHandle" ∧ y.cls ≠ "java/lang/invoke/VarHandle") ∧
  (∀ sig, parseMethodDescriptor y.desc = some sig → n = sig.parameters.length) ∧ (Cond.methodLink own index y).before args s = true ∧ (Cond.instanceMethod y).before args s = true ∧ (Cond.selects C y y).before args s = true
theorem vx_cwVW {own C : String} {index maxL mc ms : Nat} {y : MethodName} {bytes : ByteArray} {ret : Option FieldType} {hh : List (Nat × Nat × Nat × Nat)} {Ts ws ws' : List Cond} {rm : Room} (n : Nat) (ht : ∀ w ∈ Ts, w.before args s = true) (hT : GoodIn Ts (wsV own index C y ws)) (hw : ws = Cond.codeWith y bytes maxL ret hh :: ws') (hrc : rm.cells = mc) (hrs : rm.slots = ms)
    (hd : y.cls = C ∧ y.cls ≠ "java/lang/invoke/MethodHandle" ∧ y.cls ≠ "java/lang/invoke/VarHandle" ∧ (parseMethodDescriptor y.desc).map (fun d => d.parameters.length) = some n) (hR : rm.frames + 1 ≤ R.frames ∧ 8 + (maxL + 11) + rm.locals ≤ R.locals) :
    vx_CVW R s args own C index y bytes maxL ret hh ws rm mc ms n := by
  obtain ⟨hC, hd⟩ := hd
  subst hC
  have ok : ∀ w ∈ wsV own index y.cls y ws, w.before args s = true := fun w h => ht w (hT w h).1
  have hG : GoodIn Ts ws := fun w h => hT w (by unfold wsV; exact List.mem_append_right _ h)
  have hc : Cond.codeWith y bytes maxL ret hh ∈ ws := by rw [hw]; exact List.mem_cons_self
  refine ⟨⟨hrc, hrs, hR.1, hR.2, pay_in ht hG, hc⟩, ht _ (hG _ hc).1, ok _ (by simp [wsV]), ⟨hd.1, hd.2.1⟩, fun sig h => ?_, ok _ (by simp [wsV]), ok _ (by simp [wsV]), ok _ (by simp [wsV])⟩
  have h2 := hd.2.2
  rw [h] at h2
  exact (Option.some.inj h2).symm
theorem vx_runVW {y : MethodName} {bytes cc : ByteArray} {maxL nL mc ms n index : Nat} {ret : Option FieldType} {hh : List (Nat × Nat × Nat × Nat)} {ws : List Cond} {rm : Room} {Pc : Array Value → State → Prop} {Qc : Array Value → State → Outcome → State → Prop} {free : Addr → Prop} {Ts : List Cond} {own C : String} {b : Addr} {As rest : List Value} {g : JFrame}
    (S : CallFix p m c cc nL s args Ts own) (hM : Met l y ws rm Pc Qc mc ms free) (cw : vx_CVW R s args own C index y bytes maxL ret hh ws rm mc ms n) (hp : PreV s H C b Pc As)
    (hg : g.method = m) (hn : As.length = n) (hsize : g.locals.size = nL) (hstack : g.stack = As.reverse ++ .ref b :: rest) (hW : 2 * g.monitorRoom + (rest.map fun v => v.category).sum ≤ 8) (hdg : decode cc g.pc = .ok (.invokevirtual index, 3)) (hf : cells + mc ≤ R.cells ∧ slots + ms ≤ R.slots) :
    va_Run p l e R s m args below meth c H locs cells slots mc ms g rest (Qc (Value.ref b :: As).toArray) free := by
  obtain ⟨⟨hrc, hrs, hfr, hlo, hws, hcw⟩, hcode, hini, hy, hlen, hl, hin, hse⟩ := cw
  have hK : Back l R p e below s args y 3 8 (PreOf R mc ms Pc) (PostOf Qc mc ms free) := va_backW (hh := hh) (bytes := bytes) (maxL := maxL) (ret := ret) hM hp.1 hrc hrs hfr hlo hws hcw (fun a' U hW => word_at hW (Or.inl (by first | rfl | simp [Cond.onTables, Cond.keeps, Cond.steady])) hini)
  obtain ⟨hx, hb, hml, ho, -⟩ := S
  obtain ⟨-, ⟨cellB, hcB, hoB, hclB⟩, hPc⟩ := hp
  intro T hT X
  obtain ⟨v, vm₁, ⟨U', l2, c2, s2⟩, hW₁, X', ⟨g', mk, t, L, e1, e2, hq, h1, hL, h2, h3⟩, st⟩ := vx_callVW X hx (C := C) (hh := hh) (bytes := bytes) (maxL := maxL) (ret := ret) ho hl hin hse hcode hy hK (by rw [hT]; exact hcB) hoB hclB hg (hsize.trans hml.symm) (argsL := As) (rest := rest) (fun sig h => hn.trans (hlen sig h)) hstack hW (by rw [hb]; exact hdg)
    (fun vm₁ hW₁ => ⟨hf.1, hf.2, hPc (T.setVm vm₁) hT hW₁⟩)
  dsimp only [Pt.U, Pt.locs, Pt.cells, Pt.slots] at X' e1 e2 h1 h2 h3 st
  subst h1; subst h2; subst h3
  exact ⟨v, (T.setVm vm₁).calling g' mk (Value.ref b :: As).toArray, t, U', L, hT, X', hL, e1, e2, hq, st⟩
section
variable {y : MethodName} {bytes cc : ByteArray} {maxL nL mc ms n index : Nat} {ret : Option FieldType} {ws : List Cond} {rm : Room} {Pc : Array Value → State → Prop} {Qc : Array Value → State → Outcome → State → Prop} {XC : String → State → State → Prop} {free : Addr → Prop} {Ts : List Cond} {own C : String} {b : Addr} {As rest : List Value} {g : JFrame}
theorem vx_runVX {hh : List (Nat × Nat × Nat × Nat)} (S : CallFix p m c cc nL s args Ts own) (hM : vx_Met l y ws rm Pc Qc XC mc ms free) (cw : vx_CVW R s args own C index y bytes maxL ret hh ws rm mc ms n) (hp : PreV s H C b Pc As)
    (hg : g.method = m) (hn : As.length = n) (hsize : g.locals.size = nL) (hstack : g.stack = As.reverse ++ .ref b :: rest) (hW : 2 * g.monitorRoom + (rest.map fun v => v.category).sum ≤ 8) (hdg : decode cc g.pc = .ok (.invokevirtual index, 3)) (hf : cells + mc ≤ R.cells ∧ slots + ms ≤ R.slots) :
    vx_Run p l e R s m args below meth c H locs cells slots mc ms g rest (Qc (Value.ref b :: As).toArray) XC free := by
  obtain ⟨⟨hrc, hrs, hfr, hlo, hws, hcw⟩, hcode, hini, hy, hlen, hl, hin, hse⟩ := cw
  have hK : vx_Back l R p e below s args y 3 8 (PreOf R mc ms Pc) (PostOf Qc mc ms free) (vx_Post XC mc ms free) := vx_backW (hh := hh) (bytes := bytes) (maxL := maxL) (ret := ret) hM hp.1 hrc hrs hfr hlo hws hcw (fun a' U hW => word_at hW (Or.inl (by first | rfl | simp [Cond.onTables, Cond.keeps, Cond.steady])) hini)
  obtain ⟨hx, hb, hml, ho, -⟩ := S
  obtain ⟨-, ⟨cellB, hcB, hoB, hclB⟩, hPc⟩ := hp
  intro T hT X
  rcases vx_callVX X hx (C := C) (hh := hh) (bytes := bytes) (maxL := maxL) (ret := ret) ho hl hin hse hcode hy hK (by rw [hT]; exact hcB) hoB hclB hg (hsize.trans hml.symm) (argsL := As) (rest := rest) (fun sig h => hn.trans (hlen sig h)) hstack hW (by rw [hb]; exact hdg)
    (fun vm₁ hW₁ => ⟨hf.1, hf.2, hPc (T.setVm vm₁) hT hW₁⟩) with ⟨v, vm₁, ⟨U', l2, c2, s2⟩, hW₁, X', ⟨g', mk, t, L, e1, e2, hq, h1, hL, h2, h3⟩, st⟩ | ⟨q, vm₁, ⟨U', l2, c2, s2⟩, hW₁, X', ⟨g', mk, t, L, E, ce, e1, e2, hq, hce, hcv, hcl, h1, hL, h2, h3⟩, st⟩
  · dsimp only [Pt.U, Pt.locs, Pt.cells, Pt.slots] at X' e1 e2 h1 h2 h3 st
    subst h1; subst h2; subst h3
    exact Or.inl ⟨v, (T.setVm vm₁).calling g' mk (Value.ref b :: As).toArray, t, U', L, hT, X', hL, e1, e2, hq, st⟩
  · dsimp only [Pt.U, Pt.locs, Pt.cells, Pt.slots] at X' e1 e2 h1 h2 h3 st hcl
    subst h1; subst h2; subst h3
    exact Or.inr ⟨q, (T.setVm vm₁).calling g' mk (Value.ref b :: As).toArray, t, U', L, E, ce, hT, X', hL, e1, e2, hq, hce, hcv, vx_cls hW₁ hcl, st⟩
theorem vx_runSX {hh : List (Nat × Nat × Nat × Nat)} (S : CallFix p m c cc nL s args Ts own) (hM : vx_Met l y ws rm Pc Qc XC mc ms free) (cw : vx_CSW R s args own index y bytes maxL ret hh ws rm mc ms n) (hp : PreS s H Pc As)
    (hg : g.method = m) (hn : As.length = n) (hsize : g.locals.size = nL) (hstack : g.stack = As.reverse ++ rest) (hW : 2 * g.monitorRoom + (rest.map fun v => v.category).sum ≤ 8) (hdg : decode cc g.pc = .ok (.invokestatic index, 3)) (hf : cells + mc ≤ R.cells ∧ slots + ms ≤ R.slots) :
    vx_Run p l e R s m args below meth c H locs cells slots mc ms g rest (Qc As.toArray) XC free := by
  obtain ⟨⟨hrc, hrs, hfr, hlo, hws, hcw⟩, hcode, hini, hy, hlen, hl, hstt⟩ := cw
  have hK : vx_Back l R p e below s args y 3 8 (PreOf R mc ms Pc) (PostOf Qc mc ms free) (vx_Post XC mc ms free) := vx_backW (hh := hh) (bytes := bytes) (maxL := maxL) (ret := ret) hM hp.1 hrc hrs hfr hlo hws hcw (fun a' U hW => word_at hW (Or.inl (by first | rfl | simp [Cond.onTables, Cond.keeps, Cond.steady])) hini)
  obtain ⟨hx, hb, hml, ho, -⟩ := S
  intro T hT X
  rcases vx_callSX X hx (hh := hh) (bytes := bytes) (maxL := maxL) (ret := ret) ho hl hstt hini hcode hy hK hg (hsize.trans hml.symm) (argsL := As) (rest := rest) (fun sig h => hn.trans (hlen sig h)) hstack hW (by rw [hb]; exact hdg)
    (fun vm₁ hW₁ => ⟨hf.1, hf.2, hp.2 (T.setVm vm₁) hT hW₁⟩) with ⟨v, vm₁, ⟨U', l2, c2, s2⟩, hW₁, X', ⟨g', mk, t, L, e1, e2, hq, h1, hL, h2, h3⟩, st⟩ | ⟨q, vm₁, ⟨U', l2, c2, s2⟩, hW₁, X', ⟨g', mk, t, L, E, ce, e1, e2, hq, hce, hcv, hcl, h1, hL, h2, h3⟩, st⟩
  · dsimp only [Pt.U, Pt.locs, Pt.cells, Pt.slots] at X' e1 e2 h1 h2 h3 st
    subst h1; subst h2; subst h3
    exact Or.inl ⟨v, (T.setVm vm₁).calling g' mk As.toArray, t, U', L, hT, X', hL, e1, e2, hq, st⟩
  · dsimp only [Pt.U, Pt.locs, Pt.cells, Pt.slots] at X' e1 e2 h1 h2 h3 st hcl
    subst h1; subst h2; subst h3
    exact Or.inr ⟨q, (T.setVm vm₁).calling g' mk As.toArray, t, U', L, E, ce, hT, X', hL, e1, e2, hq, hce, hcv, vx_cls hW₁ hcl, st⟩
end
end VXH
theorem vx_ofWH {l : Launch} {y : MethodName} {ws ws' : List Cond} {rm : Room} {Pc : Array Value → State → Prop} {Qc : Array Value → State → Outcome → State → Prop} {XC : String → State → State → Prop} {mc ms : Nat} {free : Addr → Prop} {cc : ByteArray} {maxL : Nat} {ret : Option FieldType} {hh : List (Nat × Nat × Nat × Nat)}
    (hy : plainName y.cls = true) (hw : ws = Cond.codeWith y cc maxL ret hh :: ws')
    (body : ∀ p e s m args below meth c s₁, BodyLoose p l y (headSpec ws rm) cc maxL ret e s m args below meth c s₁ → c.maxLocals = maxL → Pc args s →
      W p l e (headSpec ws rm).room s m args below meth c s.heap [] 0 0 (vx_MQ below Qc XC args s mc ms free) (entryFrame m args maxL)) : vx_Met l y ws rm Pc Qc XC mc ms free := by
  refine MetFree.of_bodyS (code := cc) (maxLocals := maxL) (ret := ret) hy ?_ ?_
  · intro args s m h hn
    obtain ⟨m9, meth, c, hn9, h1, h2, h3, h4, -, h5, h6, -⟩ := Cond.codeWith_spec (atoms_spec (ws := ws) h _ (by rw [hw]; exact List.mem_cons_self))
    cases hn.symm.trans hn9
    exact ⟨meth, c, h1, h2, h3, h4, h5, h6⟩
  · intro p e s m args below meth c s₁ B hml hP _
    have hh0 : s₁.heap = s.heap := by rw [B.state]; rfl
    obtain ⟨t, a1, o, b1, b2, b3⟩ := body p e s m args below meth c s₁ B hml hP s₁ hh0 (Stand.of_body B)
    exact ⟨t, o, a1, b1, b2, b3⟩
end
section
def RX0 : String := "ChannelRows$Messages"
def TX0 : u_T := fun k => match k with
  | 0 => ("ChannelRows$Messages", "speaker", "[I", true)
  | 1 => ("ChannelRows$Messages", "channel", "[I", true)
  | 2 => ("ChannelRows$Messages", "begin", "[I", true)
  | 3 => ("ChannelRows$Messages", "words", "[I", true)
  | 4 => ("ChannelRows$Messages", "rank", "[I", true)
  | 5 => ("ChannelRows$Messages", "firstOn", "[I", true)
  | 6 => ("ChannelRows$Messages", "slotsOn", "[I", true)
  | 7 => ("ChannelRows$Messages", "ending", "[I", true)
  | 8 => ("ChannelRows$Messages", "byBegin", "[I", true)
  | _ => ("ChannelRows$Messages", "count", "I", false)
def tyX0 : Nat → FieldType := fun k => match k with
  | 0 => .array .int
  | 1 => .array .int
  | 2 => .array .int
  | 3 => .array .int
  | 4 => .array .int
  | 5 => .array .int
  | 6 => .array .int
  | 7 => .array .int
  | 8 => .array .int
  | _ => .int
abbrev wsX00 : List Cond := u_ws RX0 TX0 10
theorem nmX0 : ∀ a, a < 10 → ∀ b, b < 10 → a ≠ b → (TX0 a).2.1 ≠ (TX0 b).2.1 := by decide +kernel
theorem tyX0_ok : ∀ k, k < 10 → parseFieldDescriptor (TX0 k).2.2.1 = some (tyX0 k) := by decide +kernel
abbrev cX0_init : ByteArray := prog_2_method_1_code
def yX0_init : MethodName := ⟨RX0, "<init>", "(I)V"⟩
abbrev cX0_add : ByteArray := prog_2_method_2_code
def yX0_add : MethodName := ⟨RX0, "add", "(IIIII)I"⟩
abbrev cX0_hasBegin : ByteArray := prog_2_method_3_code
def yX0_hasBegin : MethodName := ⟨RX0, "hasBegin", "(II)Z"⟩
abbrev cX0_beginsWith : ByteArray := prog_2_method_4_code
def yX0_beginsWith : MethodName := ⟨RX0, "beginsWith", "(II)Z"⟩
abbrev cX0_setOn : ByteArray := prog_2_method_5_code
def yX0_setOn : MethodName := ⟨RX0, "setOn", "(IIII)V"⟩
abbrev cX0_markLost : ByteArray := prog_2_method_6_code
def yX0_markLost : MethodName := ⟨RX0, "markLost", "(I)V"⟩
abbrev cX0_cutAfter : ByteArray := prog_2_method_7_code
def yX0_cutAfter : MethodName := ⟨RX0, "cutAfter", "(II)V"⟩
abbrev cX0_isOn : ByteArray := prog_2_method_8_code
def yX0_isOn : MethodName := ⟨RX0, "isOn", "(II)Z"⟩
abbrev cX0_wordIn : ByteArray := prog_2_method_9_code
def yX0_wordIn : MethodName := ⟨RX0, "wordIn", "(II)I"⟩
abbrev cX0_slotsOnWithin : ByteArray := prog_2_method_10_code
def yX0_slotsOnWithin : MethodName := ⟨RX0, "slotsOnWithin", "(III)I"⟩
def RX1 : String := "ChannelRows$Stations"
def TX1 : u_T := fun k => match k with
  | 0 => ("ChannelRows$Stations", "most", "I", true)
  | 1 => ("ChannelRows$Stations", "x", "[I", true)
  | 2 => ("ChannelRows$Stations", "y", "[I", true)
  | 3 => ("ChannelRows$Stations", "reach", "[I", true)
  | 4 => ("ChannelRows$Stations", "channel", "[I", true)
  | _ => ("ChannelRows$Stations", "count", "I", false)
def tyX1 : Nat → FieldType := fun k => match k with
  | 0 => .int
  | 1 => .array .int
  | 2 => .array .int
  | 3 => .array .int
  | 4 => .array .int
  | _ => .int
abbrev wsX10 : List Cond := u_ws RX1 TX1 6
theorem nmX1 : ∀ a, a < 6 → ∀ b, b < 6 → a ≠ b → (TX1 a).2.1 ≠ (TX1 b).2.1 := by decide +kernel
theorem tyX1_ok : ∀ k, k < 6 → parseFieldDescriptor (TX1 k).2.2.1 = some (tyX1 k) := by decide +kernel
abbrev cX1_init : ByteArray := prog_3_method_1_code
def yX1_init : MethodName := ⟨RX1, "<init>", "(I)V"⟩
abbrev cX1_isFull : ByteArray := prog_3_method_2_code
def yX1_isFull : MethodName := ⟨RX1, "isFull", "()Z"⟩
abbrev cX1_add : ByteArray := prog_3_method_3_code
def yX1_add : MethodName := ⟨RX1, "add", "(IIII)I"⟩
abbrev cX1_move : ByteArray := prog_3_method_4_code
def yX1_move : MethodName := ⟨RX1, "move", "(IIII)V"⟩
abbrev cX1_reaches : ByteArray := prog_3_method_5_code
def yX1_reaches : MethodName := ⟨RX1, "reaches", "(ILChannelRows$Stations;I)Z"⟩
def RX2 : String := "ChannelRows"
def TX2 : u_T := fun k => match k with
  | 0 => ("ChannelRows", "units", "LChannelRows$Stations;", true)
  | 1 => ("ChannelRows", "repeaters", "LChannelRows$Stations;", true)
  | 2 => ("ChannelRows", "messages", "LChannelRows$Messages;", true)
  | 3 => ("ChannelRows", "noise", "[Z", true)
  | 4 => ("ChannelRows", "groupOf", "[I", true)
  | 5 => ("ChannelRows", "latestOfGroup", "[I", true)
  | 6 => ("ChannelRows", "slotsOfDay", "I", false)
  | _ => ("ChannelRows", "mostSlotsOn", "I", false)
def tyX2 : Nat → FieldType := fun k => match k with
  | 0 => .object "ChannelRows$Stations"
  | 1 => .object "ChannelRows$Stations"
  | 2 => .object "ChannelRows$Messages"
  | 3 => .array .boolean
  | 4 => .array .int
  | 5 => .array .int
  | 6 => .int
  | _ => .int
abbrev wsX20 : List Cond := u_ws RX2 TX2 8
theorem nmX2 : ∀ a, a < 8 → ∀ b, b < 8 → a ≠ b → (TX2 a).2.1 ≠ (TX2 b).2.1 := by decide +kernel
theorem tyX2_ok : ∀ k, k < 8 → parseFieldDescriptor (TX2 k).2.2.1 = some (tyX2 k) := by decide +kernel
abbrev cX2_init : ByteArray := prog_1_method_1_code
def yX2_init : MethodName := ⟨RX2, "<init>", "()V"⟩
abbrev cX2_day : ByteArray := prog_1_method_2_code
def yX2_day : MethodName := ⟨RX2, "day", "(I)V"⟩
abbrev cX2_unit : ByteArray := prog_1_method_3_code
def yX2_unit : MethodName := ⟨RX2, "unit", "(IIII)I"⟩
abbrev cX2_go : ByteArray := prog_1_method_4_code
def yX2_go : MethodName := ⟨RX2, "go", "(IIII)V"⟩
abbrev cX2_repeater : ByteArray := prog_1_method_5_code
def yX2_repeater : MethodName := ⟨RX2, "repeater", "(IIII)I"⟩
abbrev cX2_patch : ByteArray := prog_1_method_6_code
def yX2_patch : MethodName := ⟨RX2, "patch", "(II)Z"⟩
abbrev cX2_limit : ByteArray := prog_1_method_7_code
def yX2_limit : MethodName := ⟨RX2, "limit", "(I)V"⟩
abbrev cX2_speak : ByteArray := prog_1_method_8_code
def yX2_speak : MethodName := ⟨RX2, "speak", "(IIII)I"⟩
abbrev cX2_relay : ByteArray := prog_1_method_9_code
def yX2_relay : MethodName := ⟨RX2, "relay", "(IIII)I"⟩
abbrev cX2_lose : ByteArray := prog_1_method_10_code
def yX2_lose : MethodName := ⟨RX2, "lose", "(I)Z"⟩
abbrev cX2_hears : ByteArray := prog_1_method_11_code
def yX2_hears : MethodName := ⟨RX2, "hears", "(II)I"⟩
abbrev cX2_on : ByteArray := prog_1_method_12_code
def yX2_on : MethodName := ⟨RX2, "on", "(II)I"⟩
abbrev cX2_ended : ByteArray := prog_1_method_13_code
def yX2_ended : MethodName := ⟨RX2, "ended", "(I)I"⟩
abbrev cX2_length : ByteArray := prog_1_method_14_code
def yX2_length : MethodName := ⟨RX2, "length", "(I)I"⟩
abbrev cX2_unheard : ByteArray := prog_1_method_15_code
def yX2_unheard : MethodName := ⟨RX2, "unheard", "(II)I"⟩
abbrev cX2_used : ByteArray := prog_1_method_16_code
def yX2_used : MethodName := ⟨RX2, "used", "(III)I"⟩
abbrev cX2_forgetAll : ByteArray := prog_1_method_17_code
def yX2_forgetAll : MethodName := ⟨RX2, "forgetAll", "()V"⟩
abbrev cX2_needUnit : ByteArray := prog_1_method_18_code
def yX2_needUnit : MethodName := ⟨RX2, "needUnit", "(I)V"⟩
abbrev cX2_needMessage : ByteArray := prog_1_method_19_code
def yX2_needMessage : MethodName := ⟨RX2, "needMessage", "(I)V"⟩
abbrev cX2_needChannel : ByteArray := prog_1_method_20_code
def yX2_needChannel : MethodName := ⟨RX2, "needChannel", "(I)V"⟩
abbrev cX2_needSlot : ByteArray := prog_1_method_21_code
def yX2_needSlot : MethodName := ⟨RX2, "needSlot", "(I)V"⟩
abbrev cX2_needPlace : ByteArray := prog_1_method_22_code
def yX2_needPlace : MethodName := ⟨RX2, "needPlace", "(III)V"⟩
abbrev cX2_needBegin : ByteArray := prog_1_method_23_code
def yX2_needBegin : MethodName := ⟨RX2, "needBegin", "(II)V"⟩
abbrev cX2_needFreeBegin : ByteArray := prog_1_method_24_code
def yX2_needFreeBegin : MethodName := ⟨RX2, "needFreeBegin", "(II)V"⟩
abbrev cX2_needRoomForMessage : ByteArray := prog_1_method_25_code
def yX2_needRoomForMessage : MethodName := ⟨RX2, "needRoomForMessage", "()V"⟩
abbrev cX2_isChannel : ByteArray := prog_1_method_26_code
def yX2_isChannel : MethodName := ⟨RX2, "isChannel", "(I)Z"⟩
abbrev cX2_isSlot : ByteArray := prog_1_method_27_code
def yX2_isSlot : MethodName := ⟨RX2, "isSlot", "(I)Z"⟩
abbrev cX2_areJoined : ByteArray := prog_1_method_28_code
def yX2_areJoined : MethodName := ⟨RX2, "areJoined", "(II)Z"⟩
abbrev cX2_joinGroups : ByteArray := prog_1_method_29_code
def yX2_joinGroups : MethodName := ⟨RX2, "joinGroups", "(II)V"⟩
abbrev cX2_place : ByteArray := prog_1_method_30_code
def yX2_place : MethodName := ⟨RX2, "place", "(LChannelRows$Stations;IIII)I"⟩
abbrev cX2_tell : ByteArray := prog_1_method_31_code
def yX2_tell : MethodName := ⟨RX2, "tell", "(IIII)I"⟩
abbrev cX2_planAll : ByteArray := prog_1_method_32_code
def yX2_planAll : MethodName := ⟨RX2, "planAll", "()V"⟩
abbrev cX2_plan : ByteArray := prog_1_method_33_code
def yX2_plan : MethodName := ⟨RX2, "plan", "(I)V"⟩
abbrev cX2_meetsItsBetter : ByteArray := prog_1_method_34_code
def yX2_meetsItsBetter : MethodName := ⟨RX2, "meetsItsBetter", "(I)Z"⟩
abbrev cX2_keepsFromCalling : ByteArray := prog_1_method_35_code
def yX2_keepsFromCalling : MethodName := ⟨RX2, "keepsFromCalling", "(II)Z"⟩
abbrev cX2_putOn : ByteArray := prog_1_method_36_code
def yX2_putOn : MethodName := ⟨RX2, "putOn", "(II)V"⟩
abbrev cX2_messageOn : ByteArray := prog_1_method_37_code
def yX2_messageOn : MethodName := ⟨RX2, "messageOn", "(II)I"⟩
abbrev cX2_listensTo : ByteArray := prog_1_method_38_code
def yX2_listensTo : MethodName := ⟨RX2, "listensTo", "(II)Z"⟩
abbrev cX2_receives : ByteArray := prog_1_method_39_code
def yX2_receives : MethodName := ⟨RX2, "receives", "(II)Z"⟩
abbrev cX2_receivesByRepeater : ByteArray := prog_1_method_40_code
def yX2_receivesByRepeater : MethodName := ⟨RX2, "receivesByRepeater", "(II)Z"⟩
abbrev cX2_heardAllSlots : ByteArray := prog_1_method_41_code
def yX2_heardAllSlots : MethodName := ⟨RX2, "heardAllSlots", "(II)Z"⟩
abbrev cX2_missed : ByteArray := prog_1_method_42_code
def yX2_missed : MethodName := ⟨RX2, "missed", "(II)Z"⟩
abbrev cX2_hasNoise : ByteArray := prog_1_method_43_code
def yX2_hasNoise : MethodName := ⟨RX2, "hasNoise", "(I)Z"⟩
def RX3 : String := "ChannelRowsModel"
def TX3 : u_T := fun k => match k with
  | 0 => ("ChannelRowsModel", "thrown", "I", false)
  | 1 => ("ChannelRowsModel", "slots", "I", false)
  | 2 => ("ChannelRowsModel", "limit", "I", false)
  | 3 => ("ChannelRowsModel", "group", "[I", true)
  | 4 => ("ChannelRowsModel", "units", "I", false)
  | 5 => ("ChannelRowsModel", "unitX", "[I", true)
  | 6 => ("ChannelRowsModel", "unitY", "[I", true)
  | 7 => ("ChannelRowsModel", "unitReach", "[I", true)
  | 8 => ("ChannelRowsModel", "unitChannel", "[I", true)
  | 9 => ("ChannelRowsModel", "repeaters", "I", false)
  | 10 => ("ChannelRowsModel", "repeaterX", "[I", true)
  | 11 => ("ChannelRowsModel", "repeaterY", "[I", true)
  | 12 => ("ChannelRowsModel", "repeaterReach", "[I", true)
  | 13 => ("ChannelRowsModel", "repeaterChannel", "[I", true)
  | 14 => ("ChannelRowsModel", "messages", "I", false)
  | 15 => ("ChannelRowsModel", "speaker", "[I", true)
  | 16 => ("ChannelRowsModel", "from", "[I", true)
  | 17 => ("ChannelRowsModel", "words", "[I", true)
  | 18 => ("ChannelRowsModel", "rank", "[I", true)
  | 19 => ("ChannelRowsModel", "channel", "[I", true)
  | 20 => ("ChannelRowsModel", "noise", "[Z", true)
  | 21 => ("ChannelRowsModel", "onAt", "[I", true)
  | 22 => ("ChannelRowsModel", "wordAt", "[I", true)
  | 23 => ("ChannelRowsModel", "end", "[I", true)
  | _ => ("ChannelRowsModel", "long0", "[I", true)
def tyX3 : Nat → FieldType := fun k => match k with
  | 0 => .int
  | 1 => .int
  | 2 => .int
  | 3 => .array .int
  | 4 => .int
  | 5 => .array .int
  | 6 => .array .int
  | 7 => .array .int
  | 8 => .array .int
  | 9 => .int
  | 10 => .array .int
  | 11 => .array .int
  | 12 => .array .int
  | 13 => .array .int
  | 14 => .int
  | 15 => .array .int
  | 16 => .array .int
  | 17 => .array .int
  | 18 => .array .int
  | 19 => .array .int
  | 20 => .array .boolean
  | 21 => .array .int
  | 22 => .array .int
  | 23 => .array .int
  | _ => .array .int
abbrev wsX30 : List Cond := u_ws RX3 TX3 25
theorem nmX3 : ∀ a, a < 25 → ∀ b, b < 25 → a ≠ b → (TX3 a).2.1 ≠ (TX3 b).2.1 := by decide +kernel
theorem tyX3_ok : ∀ k, k < 25 → parseFieldDescriptor (TX3 k).2.2.1 = some (tyX3 k) := by decide +kernel
abbrev cX3_init : ByteArray := prog_5_method_1_code
def yX3_init : MethodName := ⟨RX3, "<init>", "()V"⟩
abbrev cX3_thrown : ByteArray := prog_5_method_2_code
def yX3_thrown : MethodName := ⟨RX3, "thrown", "()I"⟩
abbrev cX3_in : ByteArray := prog_5_method_3_code
def yX3_in : MethodName := ⟨RX3, "in", "(III)Z"⟩
abbrev cX3_goes : ByteArray := prog_5_method_4_code
def yX3_goes : MethodName := ⟨RX3, "goes", "(IZZZZ)Z"⟩
abbrev cX3_isPoint : ByteArray := prog_5_method_5_code
def yX3_isPoint : MethodName := ⟨RX3, "isPoint", "(II)Z"⟩
abbrev cX3_isChannel : ByteArray := prog_5_method_6_code
def yX3_isChannel : MethodName := ⟨RX3, "isChannel", "(I)Z"⟩
abbrev cX3_isUnit : ByteArray := prog_5_method_7_code
def yX3_isUnit : MethodName := ⟨RX3, "isUnit", "(I)Z"⟩
abbrev cX3_isMessage : ByteArray := prog_5_method_8_code
def yX3_isMessage : MethodName := ⟨RX3, "isMessage", "(I)Z"⟩
abbrev cX3_isSlot : ByteArray := prog_5_method_9_code
def yX3_isSlot : MethodName := ⟨RX3, "isSlot", "(I)Z"⟩
abbrev cX3_day : ByteArray := prog_5_method_10_code
def yX3_day : MethodName := ⟨RX3, "day", "(I)V"⟩
abbrev cX3_unit : ByteArray := prog_5_method_11_code
def yX3_unit : MethodName := ⟨RX3, "unit", "(IIII)I"⟩
abbrev cX3_go : ByteArray := prog_5_method_12_code
def yX3_go : MethodName := ⟨RX3, "go", "(IIII)V"⟩
abbrev cX3_repeater : ByteArray := prog_5_method_13_code
def yX3_repeater : MethodName := ⟨RX3, "repeater", "(IIII)I"⟩
abbrev cX3_patch : ByteArray := prog_5_method_14_code
def yX3_patch : MethodName := ⟨RX3, "patch", "(II)Z"⟩
abbrev cX3_limit : ByteArray := prog_5_method_15_code
def yX3_limit : MethodName := ⟨RX3, "limit", "(I)V"⟩
abbrev cX3_begins : ByteArray := prog_5_method_16_code
def yX3_begins : MethodName := ⟨RX3, "begins", "(II)Z"⟩
abbrev cX3_add : ByteArray := prog_5_method_17_code
def yX3_add : MethodName := ⟨RX3, "add", "(IIII)I"⟩
abbrev cX3_speak : ByteArray := prog_5_method_18_code
def yX3_speak : MethodName := ⟨RX3, "speak", "(IIII)I"⟩
abbrev cX3_relay : ByteArray := prog_5_method_19_code
def yX3_relay : MethodName := ⟨RX3, "relay", "(IIII)I"⟩
abbrev cX3_lose : ByteArray := prog_5_method_20_code
def yX3_lose : MethodName := ⟨RX3, "lose", "(I)Z"⟩
abbrev cX3_caller : ByteArray := prog_5_method_21_code
def yX3_caller : MethodName := ⟨RX3, "caller", "(II)I"⟩
abbrev cX3_most : ByteArray := prog_5_method_22_code
def yX3_most : MethodName := ⟨RX3, "most", "(I)I"⟩
abbrev cX3_endOf : ByteArray := prog_5_method_23_code
def yX3_endOf : MethodName := ⟨RX3, "endOf", "(I)I"⟩
abbrev cX3_day0 : ByteArray := prog_5_method_24_code
def yX3_day0 : MethodName := ⟨RX3, "day0", "(I)V"⟩
abbrev cX3_isNear : ByteArray := prog_5_method_25_code
def yX3_isNear : MethodName := ⟨RX3, "isNear", "(IIIII)Z"⟩
abbrev cX3_reaches : ByteArray := prog_5_method_26_code
def yX3_reaches : MethodName := ⟨RX3, "reaches", "(III)Z"⟩
abbrev cX3_gets : ByteArray := prog_5_method_27_code
def yX3_gets : MethodName := ⟨RX3, "gets", "(II)Z"⟩
abbrev cX3_hears : ByteArray := prog_5_method_28_code
def yX3_hears : MethodName := ⟨RX3, "hears", "(II)I"⟩
abbrev cX3_heardAll : ByteArray := prog_5_method_29_code
def yX3_heardAll : MethodName := ⟨RX3, "heardAll", "(II)Z"⟩
abbrev cX3_on : ByteArray := prog_5_method_30_code
def yX3_on : MethodName := ⟨RX3, "on", "(II)I"⟩
abbrev cX3_ended : ByteArray := prog_5_method_31_code
def yX3_ended : MethodName := ⟨RX3, "ended", "(I)I"⟩
abbrev cX3_length : ByteArray := prog_5_method_32_code
def yX3_length : MethodName := ⟨RX3, "length", "(I)I"⟩
abbrev cX3_unheard : ByteArray := prog_5_method_33_code
def yX3_unheard : MethodName := ⟨RX3, "unheard", "(II)I"⟩
abbrev cX3_used : ByteArray := prog_5_method_34_code
def yX3_used : MethodName := ⟨RX3, "used", "(III)I"⟩
def RJx00060 : String := "java/lang/ArrayIndexOutOfBoundsException"
def TJx00060 : u_T := fun k => match k with
  | 0 => ("java/lang/Throwable", "cause", "Ljava/lang/Throwable;", false)
  | 1 => ("java/lang/Throwable", "stackTrace", "[Ljava/lang/StackTraceElement;", false)
  | 2 => ("java/lang/Throwable", "suppressedExceptions", "Ljava/util/List;", false)
  | 3 => ("java/lang/Throwable", "detailMessage", "Ljava/lang/String;", false)
  | 4 => ("java/lang/Throwable", "backtrace", "Ljava/lang/Object;", false)
  | _ => ("java/lang/Throwable", "depth", "I", false)
def tyJx00060 : Nat → FieldType := fun k => match k with
  | 0 => .object "java/lang/Throwable"
  | 1 => .array (.object "java/lang/StackTraceElement")
  | 2 => .object "java/util/List"
  | 3 => .object "java/lang/String"
  | 4 => .object "java/lang/Object"
  | _ => .int
abbrev wsJx000600 : List Cond := u_ws RJx00060 TJx00060 6
theorem nmJx00060 : ∀ a, a < 6 → ∀ b, b < 6 → a ≠ b → (TJx00060 a).2.1 ≠ (TJx00060 b).2.1 := by decide +kernel
theorem tyJx00060_ok : ∀ k, k < 6 → parseFieldDescriptor (TJx00060 k).2.2.1 = some (tyJx00060 k) := by decide +kernel
abbrev cJx00060_init_a7421 : ByteArray := prog_6_method_2_code
def yJx00060_init_a7421 : MethodName := ⟨RJx00060, "<init>", "(Ljava/lang/String;)V"⟩
def RJ9 : String := "java/lang/Math"
def TJ9 : u_T := fun k => match k with
  | _ => ("", "", "", false)
def tyJ9 : Nat → FieldType := fun k => match k with
  | _ => .int
abbrev wsJ90 : List Cond := u_ws RJ9 TJ9 0
theorem nmJ9 : ∀ a, a < 0 → ∀ b, b < 0 → a ≠ b → (TJ9 a).2.1 ≠ (TJ9 b).2.1 := by decide +kernel
theorem tyJ9_ok : ∀ k, k < 0 → parseFieldDescriptor (TJ9 k).2.2.1 = some (tyJ9 k) := by decide +kernel
abbrev cJ9_max_7cf53 : ByteArray := prog_11_method_65_code
def yJ9_max_7cf53 : MethodName := ⟨RJ9, "max", "(II)I"⟩
abbrev cJ9_min_7cf53 : ByteArray := prog_11_method_69_code
def yJ9_min_7cf53 : MethodName := ⟨RJ9, "min", "(II)I"⟩
def RJxde1cd : String := "java/lang/NegativeArraySizeException"
def TJxde1cd : u_T := fun k => match k with
  | 0 => ("java/lang/Throwable", "cause", "Ljava/lang/Throwable;", false)
  | 1 => ("java/lang/Throwable", "stackTrace", "[Ljava/lang/StackTraceElement;", false)
  | 2 => ("java/lang/Throwable", "suppressedExceptions", "Ljava/util/List;", false)
  | 3 => ("java/lang/Throwable", "detailMessage", "Ljava/lang/String;", false)
  | 4 => ("java/lang/Throwable", "backtrace", "Ljava/lang/Object;", false)
  | _ => ("java/lang/Throwable", "depth", "I", false)
def tyJxde1cd : Nat → FieldType := fun k => match k with
  | 0 => .object "java/lang/Throwable"
  | 1 => .array (.object "java/lang/StackTraceElement")
  | 2 => .object "java/util/List"
  | 3 => .object "java/lang/String"
  | 4 => .object "java/lang/Object"
  | _ => .int
abbrev wsJxde1cd0 : List Cond := u_ws RJxde1cd TJxde1cd 6
theorem nmJxde1cd : ∀ a, a < 6 → ∀ b, b < 6 → a ≠ b → (TJxde1cd a).2.1 ≠ (TJxde1cd b).2.1 := by decide +kernel
theorem tyJxde1cd_ok : ∀ k, k < 6 → parseFieldDescriptor (TJxde1cd k).2.2.1 = some (tyJxde1cd k) := by decide +kernel
abbrev cJxde1cd_init_a7421 : ByteArray := prog_12_method_2_code
def yJxde1cd_init_a7421 : MethodName := ⟨RJxde1cd, "<init>", "(Ljava/lang/String;)V"⟩
def RJ0 : String := "java/lang/String"
def TJ0 : u_T := fun k => match k with
  | _ => ("", "", "", false)
def tyJ0 : Nat → FieldType := fun k => match k with
  | _ => .int
abbrev wsJ00 : List Cond := u_ws RJ0 TJ0 0
theorem nmJ0 : ∀ a, a < 0 → ∀ b, b < 0 → a ≠ b → (TJ0 a).2.1 ≠ (TJ0 b).2.1 := by decide +kernel
theorem tyJ0_ok : ∀ k, k < 0 → parseFieldDescriptor (TJ0 k).2.2.1 = some (tyJ0 k) := by decide +kernel
def RJ7 : String := "java/util/Arrays"
def TJ7 : u_T := fun k => match k with
  | _ => ("", "", "", false)
def tyJ7 : Nat → FieldType := fun k => match k with
  | _ => .int
abbrev wsJ70 : List Cond := u_ws RJ7 TJ7 0
theorem nmJ7 : ∀ a, a < 0 → ∀ b, b < 0 → a ≠ b → (TJ7 a).2.1 ≠ (TJ7 b).2.1 := by decide +kernel
theorem tyJ7_ok : ∀ k, k < 0 → parseFieldDescriptor (TJ7 k).2.2.1 = some (tyJ7 k) := by decide +kernel
abbrev cJ7_fill_53178 : ByteArray := prog_17_method_103_code
def yJ7_fill_53178 : MethodName := ⟨RJ7, "fill", "([II)V"⟩
def RL : String := "ChannelRowsLaw"
abbrev cL_day : ByteArray := method_3_code
def yL_day : MethodName := ⟨RL, "day", "(LChannelRows;I)I"⟩
abbrev cL_unit : ByteArray := method_4_code
def yL_unit : MethodName := ⟨RL, "unit", "(LChannelRows;IIII[J)I"⟩
abbrev cL_go : ByteArray := method_5_code
def yL_go : MethodName := ⟨RL, "go", "(LChannelRows;IIII)I"⟩
abbrev cL_repeater : ByteArray := method_6_code
def yL_repeater : MethodName := ⟨RL, "repeater", "(LChannelRows;IIII[J)I"⟩
abbrev cL_patch : ByteArray := method_7_code
def yL_patch : MethodName := ⟨RL, "patch", "(LChannelRows;II[J)I"⟩
abbrev cL_limit : ByteArray := method_8_code
def yL_limit : MethodName := ⟨RL, "limit", "(LChannelRows;I)I"⟩
abbrev cL_speak : ByteArray := method_9_code
def yL_speak : MethodName := ⟨RL, "speak", "(LChannelRows;IIII[J)I"⟩
abbrev cL_relay : ByteArray := method_10_code
def yL_relay : MethodName := ⟨RL, "relay", "(LChannelRows;IIII[J)I"⟩
abbrev cL_lose : ByteArray := method_11_code
def yL_lose : MethodName := ⟨RL, "lose", "(LChannelRows;I[J)I"⟩
abbrev cL_hears : ByteArray := method_12_code
def yL_hears : MethodName := ⟨RL, "hears", "(LChannelRows;II[J)I"⟩
abbrev cL_on : ByteArray := method_13_code
def yL_on : MethodName := ⟨RL, "on", "(LChannelRows;II[J)I"⟩
abbrev cL_ended : ByteArray := method_14_code
def yL_ended : MethodName := ⟨RL, "ended", "(LChannelRows;I[J)I"⟩
abbrev cL_length : ByteArray := method_15_code
def yL_length : MethodName := ⟨RL, "length", "(LChannelRows;I[J)I"⟩
abbrev cL_unheard : ByteArray := method_16_code
def yL_unheard : MethodName := ⟨RL, "unheard", "(LChannelRows;II[J)I"⟩
abbrev cL_used : ByteArray := method_17_code
def yL_used : MethodName := ⟨RL, "used", "(LChannelRows;III[J)I"⟩
abbrev cL_law : ByteArray := code
def yL_law : MethodName := ⟨RL, "law", "([I)Z"⟩
end
section
abbrev k_cl : List vw_C := [(RX0, TX0, 10), (RX1, TX1, 6), (RX2, TX2, 8), (RX3, TX3, 25)]
def k_T : List Cond := lw_tbl.filter goodWord
def k_own (o : Nat) : String := match o with
  | 0 => RX0
  | 1 => RX1
  | 2 => RX2
  | 3 => RX3
  | 4 => RL
  | _ => RJ7
def k_fl (o : Nat) : List (Nat × Nat × Nat) := match o with
  | 0 => [(9, 0, 0), (15, 0, 1), (18, 0, 2), (21, 0, 3), (24, 0, 4), (27, 0, 5), (30, 0, 6), (33, 0, 7), (36, 0, 8), (39, 0, 9)]
  | 1 => [(7, 1, 0), (13, 1, 1), (17, 1, 2), (20, 1, 3), (23, 1, 4), (26, 1, 5)]
  | 2 => [(14, 2, 0), (18, 2, 1), (24, 2, 2), (28, 2, 3), (32, 2, 4), (36, 2, 5), (54, 2, 6), (95, 2, 7), (116, 0, 7), (127, 0, 3), (133, 1, 4), (149, 0, 6), (154, 1, 5), (162, 0, 9), (163, 0, 1), (223, 0, 8), (226, 0, 2), (241, 0, 4), (261, 0, 0), (277, 0, 5)]
  | 3 => [(7, 3, 3), (13, 3, 5), (16, 3, 6), (19, 3, 7), (22, 3, 8), (25, 3, 10), (28, 3, 11), (31, 3, 12), (34, 3, 13), (37, 3, 15), (40, 3, 16), (43, 3, 17), (46, 3, 18), (49, 3, 19), (52, 3, 20), (56, 3, 21), (59, 3, 22), (62, 3, 23), (65, 3, 24), (68, 3, 0), (76, 3, 4), (79, 3, 14), (82, 3, 1), (89, 3, 2), (92, 3, 9)]
  | _ => []
def k_flc (own : String) (q : Nat × Nat × Nat) : Bool := match k_cl[q.2.1]? with
  | some z => decide (q.2.2 < z.2.2) && decide (Cond.fieldLink own q.1 (z.2.1 q.2.2).1 (z.2.1 q.2.2).2.1 (z.2.1 q.2.2).2.2.1 ∈ k_T)
  | none => false
theorem k_fl0 : (k_fl 0).all (k_flc (k_own 0)) = true := by decide +kernel
theorem k_fl1 : (k_fl 1).all (k_flc (k_own 1)) = true := by decide +kernel
theorem k_fl2 : (k_fl 2).all (k_flc (k_own 2)) = true := by decide +kernel
theorem k_fl3 : (k_fl 3).all (k_flc (k_own 3)) = true := by decide +kernel
theorem k_clw : k_cl.all (fun z => (u_ws z.1 z.2.1 z.2.2).all (fun w => decide (w ∈ k_T))) = true := by decide +kernel
end
section
abbrev k_O : Type := (Nat × vp_A) ⊕ (Nat × List Value)
abbrev k_S : Type := Nat × List (Nat × Value) × List Value × List k_O × Nat × Nat
abbrev k_Y : Type := Nat × MethodName × ByteArray × Nat × Option FieldType × Nat × Nat × List (Nat × Nat × Nat × Nat)
abbrev k_nm (Y : k_Y) : MethodName := Y.2.1
abbrev k_cc (Y : k_Y) : ByteArray := Y.2.2.1
abbrev k_nL (Y : k_Y) : Nat := Y.2.2.2.1
abbrev k_rt (Y : k_Y) : Option FieldType := Y.2.2.2.2.1
abbrev k_fr (Y : k_Y) : Nat := Y.2.2.2.2.2.1
abbrev k_lo (Y : k_Y) : Nat := Y.2.2.2.2.2.2.1
abbrev k_hh (Y : k_Y) : List (Nat × Nat × Nat × Nat) := Y.2.2.2.2.2.2.2
abbrev k_G : Type := (Option Value ⊕ String) × List k_O × Nat × Nat
abbrev k_Sc : Type := Option (Nat × (Nat → Int32))
def k_v (ad : Nat → Nat) (v : Value) : Value := match v with
  | .ref a => .ref (ad a)
  | .int x => .int x
  | .long x => .long x
  | .float x => .float x
  | .double x => .double x
  | .null => .null
  | .retAddr x => .retAddr x
def k_o (cA : Nat → ClassId) (ad : Nat → Nat) (o : k_O) : va_E := match o with
  | .inl a => .inl (cA a.1, a.2)
  | .inr c => .inr (c.1, c.2.map (k_v ad))
def k_w (cA : Nat → ClassId) (ad : Nat → Nat) (h : List k_O) : va_W := h.mapIdx (fun i o => (ad i, k_o cA ad o))
def k_get {α : Type} : List α → Nat → Option α
  | [], _ => none
  | o :: _, 0 => some o
  | _ :: h, n + 1 => k_get h n
def k_set {α : Type} : List α → Nat → α → List α
  | [], _, _ => []
  | _ :: h, 0, x => x :: h
  | o :: h, n + 1, x => o :: k_set h n x
def k_lk {α : Type} : List (Nat × α) → Nat → Option α
  | [], _ => none
  | q :: l, i => cond (Nat.beq q.1 i) (some q.2) (k_lk l i)
def k_ci (n : Int) : Int32 := match n with
  | .ofNat k => nI k
  | .negSucc 0 => -1
  | .negSucc k => Int32.ofInt (.negSucc k)
theorem k_get_eq {α : Type} (h : List α) (i : Nat) : k_get h i = h[i]? := by
  induction h generalizing i with
  | nil => rfl
  | cons o h ih => cases i with
    | zero => rfl
    | succ i => simpa [k_get] using ih i
theorem k_set_eq {α : Type} (h : List α) (i : Nat) (x : α) : k_set h i x = h.set i x := by
  induction h generalizing i with
  | nil => rfl
  | cons o h ih => cases i with
    | zero => rfl
    | succ i => simp [k_set, ih i]
theorem k_lk_mem {α : Type} {l : List (Nat × α)} {i : Nat} {v : α} (h : k_lk l i = some v) : (i, v) ∈ l := by
  induction l with
  | nil => cases h
  | cons q l ih =>
    unfold k_lk at h
    cases hb : Nat.beq q.1 i with
    | true =>
      rw [hb] at h
      have e1 : q.1 = i := Nat.eq_of_beq_eq_true hb
      have e2 : q.2 = v := Option.some.inj h
      rw [← e1, ← e2]
      exact List.mem_cons_self
    | false =>
      rw [hb] at h
      exact List.mem_cons_of_mem _ (ih h)
theorem k_ci_eq (n : Int) : Int32.ofInt n = k_ci n := by
  unfold k_ci
  split
  · rfl
  · rfl
  · rfl
theorem k_w_get {cA : Nat → ClassId} {ad : Nat → Nat} {h : List k_O} {i : Nat} {o : k_O} (e : k_get h i = some o) : (k_w cA ad h)[i]? = some (ad i, k_o cA ad o) := by
  rw [k_get_eq] at e
  simp [k_w, e]
theorem k_w_set {cA : Nat → ClassId} {ad : Nat → Nat} {h : List k_O} {i : Nat} {o : k_O} : (k_w cA ad h).set i (ad i, k_o cA ad o) = k_w cA ad (k_set h i o) := by
  rw [k_set_eq]
  apply List.ext_getElem?
  intro j
  simp only [k_w, List.getElem?_set, List.getElem?_mapIdx, List.length_mapIdx]
  by_cases hij : i = j
  · subst hij
    by_cases hl : i < h.length
    · simp [hl]
    · simp [hl]
  · simp [hij]
theorem k_w_push {cA : Nat → ClassId} {ad : Nat → Nat} {h : List k_O} {o : k_O} : k_w cA ad h ++ [(ad h.length, k_o cA ad o)] = k_w cA ad (h ++ [o]) := by
  simp [k_w, List.mapIdx_append]
/-- the values of a list name no thing beyond n, but the script -/
def k_okv (n : Nat) (v : Value) : Bool := match v with
  | .ref a => Nat.blt a n || Nat.beq a 1000000
  | _ => true
def k_oko (n : Nat) (o : k_O) : Bool := match o with
  | .inl _ => true
  | .inr c => c.2.all (k_okv n)
theorem k_v_eq {ad ad' : Nat → Nat} {n : Nat} (h : ∀ i, i < n → ad' i = ad i) (hs : ad' 1000000 = ad 1000000) {v : Value} (ok : k_okv n v = true) : k_v ad' v = k_v ad v := by
  cases v with
  | ref a =>
    have h1 : Nat.blt a n = true ∨ Nat.beq a 1000000 = true := by simpa [k_okv] using ok
    rcases h1 with h1 | h1
    · have : a < n := by simpa [Nat.blt_eq] using h1
      simp [k_v, h a this]
    · have : a = 1000000 := Nat.eq_of_beq_eq_true h1
      simp [k_v, this, hs]
  | _ => rfl
theorem k_cat (ad : Nat → Nat) (v : Value) : (k_v ad v).category = v.category := by
  cases v <;> rfl
end
section
def k_tys (cA : Nat → ClassId) : List (ClassId × FieldType) := [(cA 0, .int), (cA 1, .boolean), (cA 2, .long)]
def k_ex6 : List String := ["java/lang/ArrayIndexOutOfBoundsException", "java/lang/IllegalArgumentException", "java/lang/IllegalStateException", "java/lang/IndexOutOfBoundsException", "java/lang/NegativeArraySizeException", "java/lang/UnsupportedOperationException"]
/-- which of the six kinds of throws a row of a table takes -/
def k_sub (E F : String) : Bool := E == F || (E == "java/lang/ArrayIndexOutOfBoundsException" && F == "java/lang/IndexOutOfBoundsException")
def k_dcl : List MethodName := [⟨"java/lang/Exception", "<init>", "(Ljava/lang/String;)V"⟩, ⟨"java/lang/IndexOutOfBoundsException", "<init>", "(Ljava/lang/String;)V"⟩, ⟨"java/lang/RuntimeException", "<init>", "(Ljava/lang/String;)V"⟩, ⟨"java/lang/Throwable", "<init>", "(Ljava/lang/String;)V"⟩]
def k_Ng (U : State) : Prop := (∀ x ∈ k_dcl, va_Nw (.declares x) U) ∧ ∀ E ∈ k_ex6, ∀ F ∈ k_ex6, (k_sub E F = true → va_Nw (.castable E F) U) ∧ (k_sub E F = false → va_Nc E F U)
def k_str : List (Nat × String) := [(44, "a day of too many slots"), (51, "a day of fewer than no slots"), (79, "no such channels"), (93, "no such limit"), (101, "no such words"), (124, "the unit has not heard the whole message"), (152, "no such place among the units"), (160, "no such part of the day"), (168, "no such unit"), (170, "no such message"), (172, "no such channel"), (179, "no such slot"), (182, "no such point"), (184, "no channel of that number"), (186, "no slot of that number"), (188, "no such rank"), (193, "the unit has a message that begins in this slot"), (197, "no room for one more message"), (200, "no such reach"), (206, "no room for one more")]
def k_Fix (A : Nat → Prop) (U : State) (H : Heap) : Prop :=
  vx_Zq Bundle.tN "UNASSIGNED_STACK" Bundle.steD A U H ∧ vx_Zq Bundle.tN "SUPPRESSED_SENTINEL" Bundle.listD A U H ∧ k_Ng U ∧ ∀ q ∈ k_str, ∃ sa, vk_R RX2 q.1 q.2 sa U
def k_C (Y : k_Y) (sc : k_Sc) (p : Program) (l : Launch) (s : State) (m : MethodId) (args : Array Value) (meth : Method) (c : Code) (g : va_G) (cA : Nat → ClassId) (A : Nat → Prop) (b : Nat) : Prop :=
  p.tables.exec = Jvm.exec ∧ c.code = k_cc Y ∧ c.maxLocals = k_nL Y ∧ s.vm.findClass (k_own Y.1) = some m.cls ∧ (∀ w ∈ k_T, w.before args s = true) ∧ va_K g k_cl (k_tys cA) s ∧ (∀ q, s.heap.size ≤ q → A q) ∧ meth.locks = false ∧ l.stackTraces = false ∧ k_Fix A s s.heap ∧ meth.name = (k_nm Y).name ∧ (k_hh Y ≠ [] → c.exceptionTable.toList = tableOf (k_hh Y)) ∧ ∀ L xs, sc = some (L, xs) → va_X b L xs s s.heap ∧ b < s.heap.size ∧ ¬ A b
def k_I (Y : k_Y) (sc : k_Sc) (s : State) (g : va_G) (cA : Nat → ClassId) (A : Nat → Prop) (b : Nat) (ad0 : Nat → Nat) (n0 : Nat) (ad : Nat → Nat) (H : Heap) (locs : List Loc) (h : List k_O) : Prop :=
  va_P g k_cl (k_w cA ad h) H ∧ va_D A (k_w cA ad h) ∧ va_S A s.heap H locs ∧ (∀ i, i < n0 → ad i = ad0 i) ∧ n0 ≤ h.length ∧ (sc ≠ none → ad 1000000 = b) ∧ ad 1000000 = ad0 1000000
abbrev k_R (Y : k_Y) (G : k_G) : Room := { frames := k_fr Y, cells := G.2.2.1, slots := G.2.2.2, locals := k_lo Y }
/-- the ends that a body may come to -/
def k_E (Y : k_Y) (sc : k_Sc) (G : k_G) (p : Program) (l : Launch) (e : Env) (s : State) (m : MethodId) (args : Array Value) (below : List Frame) (meth : Method) (c : Code) (g : va_G) (cA : Nat → ClassId) (A : Nat → Prop) (b : Nat) (ad0 : Nat → Nat) (n0 : Nat) (Q : State → Prop) : Prop :=
  (∀ (v : Option Value), G.1 = .inl v → (∀ x ty, v = some (.int x) → k_rt Y = some ty → narrow ty (.int x) = .int x) → ∀ (ad : Nat → Nat) (H : Heap) (locs : List Loc) (ls : Array Slot) (pc : Nat), k_I Y sc s g cA A b ad0 n0 ad H locs G.2.1 →
    ((v = none ∧ k_rt Y = none ∧ decode (k_cc Y) pc = .ok (.return_, 1)) ∨ (∃ x ty, v = some (.int x) ∧ k_rt Y = some ty ∧ decode (k_cc Y) pc = .ok (.ireturn, 1))) →
    W p l e (k_R Y G) s m args below meth c H locs G.2.2.1 G.2.2.2 Q (F0 m pc ls (v.map (k_v ad)).toList)) ∧
  (∀ (E : String), G.1 = .inr E → k_hh Y = [] → ∀ (ad : Nat → Nat) (H : Heap) (locs : List Loc) (ls : Array Slot) (pc : Nat) (rest : List Value) (q : Addr) (ce : Cell), k_I Y sc s g cA A b ad0 n0 ad H locs G.2.1 →
    H[q]? = some ce → ce.vm = .none → s.vm.findClass E = some ce.cls → vx_W p l e (k_R Y G) s m args below meth c H locs G.2.2.1 G.2.2.2 Q (F0 m pc ls rest) q) ∧
  (∀ (E : String), G.1 = .inr E → k_hh Y = [] → ∀ (ad : Nat → Nat) (H : Heap) (locs : List Loc) (ls : Array Slot) (pc : Nat) (rest : List Value) (names : List String) (text : String) (ik is ic sa cells slots : Nat), k_I Y sc s g cA A b ad0 n0 ad H locs G.2.1 → ls.size = c.maxLocals →
    Bundle.fit E = true → (∀ n ∈ names, Bundle.fit n = true) → (Cond.classLink (k_own Y.1) ik E).before args s = true → (Cond.initialized E).before args s = true → vk_R (k_own Y.1) is text sa s → (∀ w ∈ vx_atS (k_own Y.1) ic E names, w.before args s = true) →
    (∀ w ∈ Cond.classLink (k_own Y.1) ik E :: Cond.initialized E :: vx_atS (k_own Y.1) ic E names, vx_ot w = true) →
    decode (k_cc Y) pc = .ok (.new ik, 3) → decode (k_cc Y) (pc + 3) = .ok (.dup, 1) → decode (k_cc Y) (pc + 4) = .ok (.ldc is, 2) → decode (k_cc Y) (pc + 6) = .ok (.invokespecial ic, 3) → decode (k_cc Y) (pc + 9) = .ok (.athrow, 1) →
    names.length + 3 < k_fr Y → (rest.map fun v => v.category).sum + (13 * (names.length + 1) + 43) ≤ k_lo Y → cells + 1 ≤ G.2.2.1 → slots + 6 ≤ G.2.2.2 →
    W p l e (k_R Y G) s m args below meth c H locs cells slots Q (F0 m pc ls rest))
def k_W (Y : k_Y) (sc : k_Sc) (G : k_G) (S : k_S) : Prop :=
  ∀ (p : Program) (l : Launch) (e : Env) (s : State) (m : MethodId) (args : Array Value) (below : List Frame) (meth : Method) (c : Code) (g : va_G) (cA : Nat → ClassId) (A : Nat → Prop) (b : Nat) (ad0 : Nat → Nat) (n0 : Nat) (Q : State → Prop),
    k_C Y sc p l s m args meth c g cA A b → k_E Y sc G p l e s m args below meth c g cA A b ad0 n0 Q →
    ∀ (ad : Nat → Nat) (H : Heap) (locs : List Loc) (ls : Array Slot), k_I Y sc s g cA A b ad0 n0 ad H locs S.2.2.2.1 → lv_has ls (k_nL Y) (S.2.1.map (fun q => (q.1, k_v ad q.2))) →
      W p l e (k_R Y G) s m args below meth c H locs S.2.2.2.2.1 S.2.2.2.2.2 Q (F0 m S.1 ls (S.2.2.1.map (k_v ad)))
def k_up (ls : List (Nat × Value)) (i : Nat) (v : Value) : List (Nat × Value) := (i, v) :: ls.filter (fun q => !(Nat.beq q.1 i))
theorem k_lk_at {ls : Array Slot} {nL i : Nat} {ad : Nat → Nat} {l : List (Nat × Value)} {v : Value} (h : lv_has ls nL (l.map (fun q => (q.1, k_v ad q.2)))) (e : k_lk l i = some v) : ls[i]? = some (.val (k_v ad v)) :=
  h.2.2 (i, k_v ad v) (List.mem_map.mpr ⟨(i, v), k_lk_mem e, rfl⟩)
theorem k_up_sub {ls : Array Slot} {nL i : Nat} {ad : Nat → Nat} {l : List (Nat × Value)} {v : Value} (hc : l.all (fun q => Nat.beq q.2.category 1) = true)
    (h : lv_has ls nL ((i, k_v ad v) :: (l.map (fun q => (q.1, k_v ad q.2))).filter (fun q => !(q.1 == i) && !(q.1 + 1 == i && q.2.category == 2)))) : lv_has ls nL ((k_up l i v).map (fun q => (q.1, k_v ad q.2))) := by
  refine ⟨h.1, h.2.1, fun q hq => h.2.2 q ?_⟩
  unfold k_up at hq
  simp only [List.map_cons, List.mem_cons, List.mem_map, List.mem_filter] at hq
  rcases hq with hq | ⟨z, ⟨hz, hz2⟩, hz3⟩
  · rw [hq]; exact List.mem_cons_self
  · refine List.mem_cons_of_mem _ (List.mem_filter.mpr ⟨List.mem_map.mpr ⟨z, hz, hz3⟩, ?_⟩)
    subst hz3
    have h1 := List.all_eq_true.mp hc z hz
    have h2 : z.2.category = 1 := Nat.eq_of_beq_eq_true h1
    simp only [Bool.and_eq_true, Bool.not_eq_true', beq_eq_false_iff_ne, ne_eq, Bool.and_eq_false_iff, k_cat, h2]
    refine ⟨?_, Or.inr (by simp)⟩
    have h3 : Nat.beq z.1 i = false := by simpa using hz2
    exact Nat.ne_of_beq_eq_false h3
end
section
def k_elem (i : Nat) : List Nat → Bool
  | [] => false
  | j :: l => cond (Nat.beq j i) true (k_elem i l)
/-- the whole fields of ints that a method may write: class, place -/
def k_pfl (ci k : Nat) : Bool := match ci with
  | 0 => Nat.beq k 9
  | 1 => Nat.beq k 5
  | 2 => k_elem k [6, 7]
  | 3 => k_elem k [0, 1, 2, 4, 9, 14]
  | _ => false
def k_cnd (c : ClassFile.Cond) (x y : Int32) : Prop := match c with
  | .eq => x = y
  | .ne => ¬ x = y
  | .lt => x < y
  | .ge => y ≤ x
  | .gt => y < x
  | .le => x ≤ y
def k_cnf (c : ClassFile.Cond) (x y : Int32) : Prop := match c with
  | .eq => ¬ x = y
  | .ne => x = y
  | .lt => ¬ x < y
  | .ge => ¬ y ≤ x
  | .gt => ¬ y < x
  | .le => ¬ x ≤ y
/-- one instruction, goal first: what must hold here so that K holds behind it -/
def k_ex (o nL : Nat) (sc : k_Sc) (i : Instr) (nx tg : Nat) (S : k_S) (K : k_S → Prop) : Prop := match i with
  | .iload_n j => (match k_lk S.2.1 j.val with | some (.int x) => K (nx, S.2.1, .int x :: S.2.2.1, S.2.2.2) | _ => False)
  | .iload j => (match k_lk S.2.1 j with | some (.int x) => K (nx, S.2.1, .int x :: S.2.2.1, S.2.2.2) | _ => False)
  | .aload_n j => (match k_lk S.2.1 j.val with | some (.ref x) => K (nx, S.2.1, .ref x :: S.2.2.1, S.2.2.2) | _ => False)
  | .aload j => (match k_lk S.2.1 j with | some (.ref x) => K (nx, S.2.1, .ref x :: S.2.2.1, S.2.2.2) | _ => False)
  | .istore_n j => (match S.2.2.1 with | .int x :: st => cond (Nat.blt j.val nL && S.2.1.all (fun q => Nat.beq q.2.category 1)) (K (nx, k_up S.2.1 j.val (.int x), st, S.2.2.2)) False | _ => False)
  | .istore j => (match S.2.2.1 with | .int x :: st => cond (Nat.blt j nL && S.2.1.all (fun q => Nat.beq q.2.category 1)) (K (nx, k_up S.2.1 j (.int x), st, S.2.2.2)) False | _ => False)
  | .astore_n j => (match S.2.2.1 with | .ref x :: st => cond (Nat.blt j.val nL && S.2.1.all (fun q => Nat.beq q.2.category 1)) (K (nx, k_up S.2.1 j.val (.ref x), st, S.2.2.2)) False | _ => False)
  | .astore j => (match S.2.2.1 with | .ref x :: st => cond (Nat.blt j nL && S.2.1.all (fun q => Nat.beq q.2.category 1)) (K (nx, k_up S.2.1 j (.ref x), st, S.2.2.2)) False | _ => False)
  | .iconst n => K (nx, S.2.1, .int (k_ci n) :: S.2.2.1, S.2.2.2)
  | .bipush n => (match n with | .ofNat q => cond (Nat.blt q 128) (K (nx, S.2.1, .int (nI q) :: S.2.2.1, S.2.2.2)) False | _ => False)
  | .sipush n => (match n with | .ofNat q => cond (Nat.blt q 32768) (K (nx, S.2.1, .int (nI q) :: S.2.2.1, S.2.2.2)) False | _ => False)
  | .lconst n => K (nx, S.2.1, .long (lN n.val) :: S.2.2.1, S.2.2.2)
  | .i2l => (match S.2.2.1 with | .int x :: st => K (nx, S.2.1, .long x.toInt64 :: st, S.2.2.2) | _ => False)
  | .lcmp => (match S.2.2.1 with | .long y :: .long x :: st => K (nx, S.2.1, .int (lg_cmp x y) :: st, S.2.2.2) | _ => False)
  | .iinc j n => (match k_lk S.2.1 j with | some (.int x) => cond (Nat.blt j nL && S.2.1.all (fun q => Nat.beq q.2.category 1)) (∃ z, x + k_ci n = z ∧ K (nx, k_up S.2.1 j (.int z), S.2.2.1, S.2.2.2)) False | _ => False)
  | .iadd => (match S.2.2.1 with | .int y :: .int x :: st => ∃ z, x + y = z ∧ K (nx, S.2.1, .int z :: st, S.2.2.2) | _ => False)
  | .isub => (match S.2.2.1 with | .int y :: .int x :: st => ∃ z, x - y = z ∧ K (nx, S.2.1, .int z :: st, S.2.2.2) | _ => False)
  | .imul => (match S.2.2.1 with | .int y :: .int x :: st => ∃ z, x * y = z ∧ K (nx, S.2.1, .int z :: st, S.2.2.2) | _ => False)
  | .iand => (match S.2.2.1 with | .int y :: .int x :: st => ∃ z, x &&& y = z ∧ K (nx, S.2.1, .int z :: st, S.2.2.2) | _ => False)
  | .dup => (match S.2.2.1 with | v :: st => cond (Nat.beq v.category 1) (K (nx, S.2.1, v :: v :: st, S.2.2.2)) False | _ => False)
  | .dup2 => (match S.2.2.1 with | v :: w :: st => cond (Nat.beq v.category 1 && Nat.beq w.category 1) (K (nx, S.2.1, v :: w :: v :: w :: st, S.2.2.2)) False | _ => False)
  | .ifCond c _ => (match S.2.2.1 with | .int x :: st => (k_cnd c x 0 → K (tg, S.2.1, st, S.2.2.2)) ∧ (k_cnf c x 0 → K (nx, S.2.1, st, S.2.2.2)) | _ => False)
  | .if_icmp c _ => (match S.2.2.1 with | .int y :: .int x :: st => (k_cnd c x y → K (tg, S.2.1, st, S.2.2.2)) ∧ (k_cnf c x y → K (nx, S.2.1, st, S.2.2.2)) | _ => False)
  | .goto _ => K (tg, S.2.1, S.2.2.1, S.2.2.2)
  | .getfield n => (match S.2.2.1 with
    | .ref a :: st => (match k_lk (k_fl o) n with
      | some q => (match k_get S.2.2.2.1 a with
        | some (.inr z) => cond (Nat.beq z.1 q.1) (match k_get z.2 q.2 with | some v => K (nx, S.2.1, v :: st, S.2.2.2) | none => False) False
        | _ => False)
      | none => False)
    | _ => False)
  | .putfield n => (match S.2.2.1 with
    | .int x :: .ref a :: st => (match k_lk (k_fl o) n with
      | some q => (match k_get S.2.2.2.1 a with
        | some (.inr z) => cond (Nat.beq z.1 q.1 && k_pfl q.1 q.2 && Nat.blt q.2 z.2.length) (K (nx, S.2.1, st, k_set S.2.2.2.1 a (.inr (z.1, k_set z.2 q.2 (.int x))), S.2.2.2.2)) False
        | _ => False)
      | none => False)
    | _ => False)
  | .iaload => (match S.2.2.1 with
    | .int i :: .ref a :: st => (match k_get S.2.2.2.1 a with
      | some (.inl (0, n, .inl f)) => cond (Nat.blt n 100000) (∃ j : Nat, i = nI j ∧ j < n ∧ K (nx, S.2.1, .int (f j) :: st, S.2.2.2)) False
      | none => cond (Nat.beq a 1000000) (match sc with | some q => ∃ j : Nat, i = nI j ∧ j < q.1 ∧ j < 100000 ∧ K (nx, S.2.1, .int (q.2 j) :: st, S.2.2.2) | none => False) False
      | _ => False)
    | _ => False)
  | .baload => (match S.2.2.1 with
    | .int i :: .ref a :: st => (match k_get S.2.2.2.1 a with
      | some (.inl (1, n, .inl f)) => cond (Nat.blt n 100000) (∃ j : Nat, i = nI j ∧ j < n ∧ K (nx, S.2.1, .int (f j) :: st, S.2.2.2)) False
      | _ => False)
    | _ => False)
  | .laload => (match S.2.2.1 with
    | .int i :: .ref a :: st => (match k_get S.2.2.2.1 a with
      | some (.inl (2, n, .inr (.inl f))) => cond (Nat.blt n 100000) (∃ j : Nat, i = nI j ∧ j < n ∧ K (nx, S.2.1, .long (f j) :: st, S.2.2.2)) False
      | _ => False)
    | _ => False)
  | .iastore => (match S.2.2.1 with
    | .int x :: .int i :: .ref a :: st => (match k_get S.2.2.2.1 a with
      | some (.inl (0, n, .inl f)) => cond (Nat.blt n 100000) (∃ j : Nat, i = nI j ∧ j < n ∧ K (nx, S.2.1, st, k_set S.2.2.2.1 a (.inl (0, n, .inl (upd f j x))), S.2.2.2.2)) False
      | _ => False)
    | _ => False)
  | .bastore => (match S.2.2.1 with
    | .int x :: .int i :: .ref a :: st => (match k_get S.2.2.2.1 a with
      | some (.inl (1, n, .inl f)) => cond (Nat.blt n 100000) ((x = 0 ∨ x = 1) ∧ ∃ j : Nat, i = nI j ∧ j < n ∧ K (nx, S.2.1, st, k_set S.2.2.2.1 a (.inl (1, n, .inl (upd f j x))), S.2.2.2.2)) False
      | _ => False)
    | _ => False)
  | .lastore => (match S.2.2.1 with
    | .long x :: .int i :: .ref a :: st => (match k_get S.2.2.2.1 a with
      | some (.inl (2, n, .inr (.inl f))) => cond (Nat.blt n 100000) (∃ j : Nat, i = nI j ∧ j < n ∧ K (nx, S.2.1, st, k_set S.2.2.2.1 a (.inl (2, n, .inr (.inl (vp_updL f j x)))), S.2.2.2.2)) False
      | _ => False)
    | _ => False)
  | .arraylength => (match S.2.2.1 with
    | .ref a :: st => (match k_get S.2.2.2.1 a with
      | some (.inl (0, n, .inl _)) => K (nx, S.2.1, .int (nI n) :: st, S.2.2.2)
      | none => cond (Nat.beq a 1000000) (match sc with | some q => K (nx, S.2.1, .int (nI q.1) :: st, S.2.2.2) | none => False) False
      | _ => False)
    | _ => False)
  | _ => False
def k_run (o nL : Nat) (sc : k_Sc) (blk : List (Nat × Instr × Nat × Nat)) (stops : List Nat) (K : k_S → Prop) : Nat → k_S → Prop
  | 0, S => K S
  | f + 1, S => match k_lk blk S.1 with
    | none => K S
    | some q => k_ex o nL sc q.1 q.2.1 q.2.2 S (fun S' => cond (k_elem S'.1 stops) (K S') (k_run o nL sc blk stops K f S'))
def k_tgt (pc : Nat) (i : Instr) (tg : Nat) : Bool := match i with
  | .goto off => decide ((pc : Int) + off = (tg : Int))
  | .ifCond _ off => decide ((pc : Int) + off = (tg : Int))
  | .if_icmp _ off => decide ((pc : Int) + off = (tg : Int))
  | _ => true
end
section
def k_len (i : Instr) : Nat := match i with
  | .iload _ => 2 | .aload _ => 2 | .istore _ => 2 | .astore _ => 2 | .bipush _ => 2 | .sipush _ => 3 | .iinc _ _ => 3 | .ifCond _ _ => 3 | .if_icmp _ _ => 3 | .goto _ => 3 | .getfield _ => 3 | .putfield _ => 3
  | _ => 1
theorem k_cond {b : Bool} {P : Prop} (h : cond b P False) : b = true ∧ P := by
  cases b with
  | true => exact ⟨rfl, h⟩
  | false => exact h.elim
theorem k_and2 {a b : Bool} (h : (a && b) = true) : a = true ∧ b = true := by simpa using h
theorem k_blt {a b : Nat} (h : Nat.blt a b = true) : a < b := by simpa [Nat.blt_eq] using h
section KR
variable {Y : k_Y} {sc : k_Sc} {G : k_G} {pc : Nat} {ls : List (Nat × Value)} {st : List Value} {h : List k_O} {nc ns : Nat}
theorem k_iload_n {j : Fin 4} {x : Int32} (d : decode (k_cc Y) pc = .ok (.iload_n j, 1)) (hl : k_lk ls j.val = some (.int x)) (k : k_W Y sc G (pc + 1, ls, .int x :: st, h, nc, ns)) : k_W Y sc G (pc, ls, st, h, nc, ns) := by
  intro p l e s m args below meth c g cA A b ad0 n0 Q C E ad H locs la I hv
  exact lv_iload_n C.1 C.2.1 d rfl (k_lk_at hv hl) (k p l e s m args below meth c g cA A b ad0 n0 Q C E ad H locs la I hv)
theorem k_istore_n {j : Fin 4} {x : Int32} (d : decode (k_cc Y) pc = .ok (.istore_n j, 1)) (hj : Nat.blt j.val (k_nL Y) = true) (hc : ls.all (fun q => Nat.beq q.2.category 1) = true) (k : k_W Y sc G (pc + 1, k_up ls j.val (.int x), st, h, nc, ns)) : k_W Y sc G (pc, ls, .int x :: st, h, nc, ns) := by
  intro p l e s m args below meth c g cA A b ad0 n0 Q C E ad H locs la I hv
  exact lv_istore_n C.1 C.2.1 d rfl hv (k_blt hj) rfl (fun la hv => k p l e s m args below meth c g cA A b ad0 n0 Q C E ad H locs la I (k_up_sub hc hv))
theorem k_iload {j : Nat} {x : Int32} (d : decode (k_cc Y) pc = .ok (.iload j, 2)) (hl : k_lk ls j = some (.int x)) (k : k_W Y sc G (pc + 2, ls, .int x :: st, h, nc, ns)) : k_W Y sc G (pc, ls, st, h, nc, ns) := by
  intro p l e s m args below meth c g cA A b ad0 n0 Q C E ad H locs la I hv
  exact lv_iload C.1 C.2.1 d (k_lk_at hv hl) (k p l e s m args below meth c g cA A b ad0 n0 Q C E ad H locs la I hv)
theorem k_istore {j : Nat} {x : Int32} (d : decode (k_cc Y) pc = .ok (.istore j, 2)) (hj : Nat.blt j (k_nL Y) = true) (hc : ls.all (fun q => Nat.beq q.2.category 1) = true) (k : k_W Y sc G (pc + 2, k_up ls j (.int x), st, h, nc, ns)) : k_W Y sc G (pc, ls, .int x :: st, h, nc, ns) := by
  intro p l e s m args below meth c g cA A b ad0 n0 Q C E ad H locs la I hv
  exact lv_istore C.1 C.2.1 d hv (k_blt hj) rfl (fun la hv => k p l e s m args below meth c g cA A b ad0 n0 Q C E ad H locs la I (k_up_sub hc hv))
theorem k_aload_n {j : Fin 4} {x : Nat} (d : decode (k_cc Y) pc = .ok (.aload_n j, 1)) (hl : k_lk ls j.val = some (.ref x)) (k : k_W Y sc G (pc + 1, ls, .ref x :: st, h, nc, ns)) : k_W Y sc G (pc, ls, st, h, nc, ns) := by
  intro p l e s m args below meth c g cA A b ad0 n0 Q C E ad H locs la I hv
  exact lv_aload_n C.1 C.2.1 d rfl (k_lk_at hv hl) (k p l e s m args below meth c g cA A b ad0 n0 Q C E ad H locs la I hv)
theorem k_astore_n {j : Fin 4} {x : Nat} (d : decode (k_cc Y) pc = .ok (.astore_n j, 1)) (hj : Nat.blt j.val (k_nL Y) = true) (hc : ls.all (fun q => Nat.beq q.2.category 1) = true) (k : k_W Y sc G (pc + 1, k_up ls j.val (.ref x), st, h, nc, ns)) : k_W Y sc G (pc, ls, .ref x :: st, h, nc, ns) := by
  intro p l e s m args below meth c g cA A b ad0 n0 Q C E ad H locs la I hv
  exact lv_astore_n C.1 C.2.1 d rfl hv (k_blt hj) rfl (fun la hv => k p l e s m args below meth c g cA A b ad0 n0 Q C E ad H locs la I (k_up_sub hc hv))
theorem k_aload {j : Nat} {x : Nat} (d : decode (k_cc Y) pc = .ok (.aload j, 2)) (hl : k_lk ls j = some (.ref x)) (k : k_W Y sc G (pc + 2, ls, .ref x :: st, h, nc, ns)) : k_W Y sc G (pc, ls, st, h, nc, ns) := by
  intro p l e s m args below meth c g cA A b ad0 n0 Q C E ad H locs la I hv
  exact lv_aload C.1 C.2.1 d (k_lk_at hv hl) (k p l e s m args below meth c g cA A b ad0 n0 Q C E ad H locs la I hv)
theorem k_astore {j : Nat} {x : Nat} (d : decode (k_cc Y) pc = .ok (.astore j, 2)) (hj : Nat.blt j (k_nL Y) = true) (hc : ls.all (fun q => Nat.beq q.2.category 1) = true) (k : k_W Y sc G (pc + 2, k_up ls j (.ref x), st, h, nc, ns)) : k_W Y sc G (pc, ls, .ref x :: st, h, nc, ns) := by
  intro p l e s m args below meth c g cA A b ad0 n0 Q C E ad H locs la I hv
  exact lv_astore C.1 C.2.1 d hv (k_blt hj) rfl (fun la hv => k p l e s m args below meth c g cA A b ad0 n0 Q C E ad H locs la I (k_up_sub hc hv))
theorem k_iconst {n : Int} (d : decode (k_cc Y) pc = .ok (.iconst n, 1))  (k : k_W Y sc G (pc + 1, ls, .int (k_ci n) :: st, h, nc, ns)) : k_W Y sc G (pc, ls, st, h, nc, ns) := by
  intro p l e s m args below meth c g cA A b ad0 n0 Q C E ad H locs la I hv
  exact lv_iconst C.1 C.2.1 d (k_ci_eq n) (k p l e s m args below meth c g cA A b ad0 n0 Q C E ad H locs la I hv)
theorem k_i8 : ∀ q, q < 128 → (Int8.ofInt (Int.ofNat q)).toInt32 = nI q := by decide +kernel
theorem k_i16 {q : Nat} (hq : q < 32768) : (Int16.ofInt (Int.ofNat q)).toInt32 = nI q := by
  apply Int32.toInt_inj.mp
  rw [Int16.toInt_toInt32, nI_toInt (by omega), Int16.toInt_ofInt]
  simp only [Int.ofNat_eq_natCast, Int.bmod, Int16.size]
  omega
theorem k_bipush {q : Nat} (d : decode (k_cc Y) pc = .ok (.bipush (.ofNat q), 2)) (hq : Nat.blt q 128 = true) (k : k_W Y sc G (pc + 2, ls, .int (nI q) :: st, h, nc, ns)) : k_W Y sc G (pc, ls, st, h, nc, ns) := by
  intro p l e s m args below meth c g cA A b ad0 n0 Q C E ad H locs la I hv
  exact lv_bipush C.1 C.2.1 d (k_i8 q (k_blt hq)) (k p l e s m args below meth c g cA A b ad0 n0 Q C E ad H locs la I hv)
theorem k_sipush {q : Nat} (d : decode (k_cc Y) pc = .ok (.sipush (.ofNat q), 3)) (hq : Nat.blt q 32768 = true) (k : k_W Y sc G (pc + 3, ls, .int (nI q) :: st, h, nc, ns)) : k_W Y sc G (pc, ls, st, h, nc, ns) := by
  intro p l e s m args below meth c g cA A b ad0 n0 Q C E ad H locs la I hv
  exact lv_sipush C.1 C.2.1 d (k_i16 (k_blt hq)) (k p l e s m args below meth c g cA A b ad0 n0 Q C E ad H locs la I hv)
theorem k_lconst {n : Fin 2} (d : decode (k_cc Y) pc = .ok (.lconst n, 1))  (k : k_W Y sc G (pc + 1, ls, .long (lN n.val) :: st, h, nc, ns)) : k_W Y sc G (pc, ls, st, h, nc, ns) := by
  intro p l e s m args below meth c g cA A b ad0 n0 Q C E ad H locs la I hv
  exact lv_lconst C.1 C.2.1 d rfl (k p l e s m args below meth c g cA A b ad0 n0 Q C E ad H locs la I hv)
theorem k_i2l {x : Int32} (d : decode (k_cc Y) pc = .ok (.i2l, 1))  (k : k_W Y sc G (pc + 1, ls, .long x.toInt64 :: st, h, nc, ns)) : k_W Y sc G (pc, ls, .int x :: st, h, nc, ns) := by
  intro p l e s m args below meth c g cA A b ad0 n0 Q C E ad H locs la I hv
  exact lv_i2l C.1 C.2.1 d rfl (k p l e s m args below meth c g cA A b ad0 n0 Q C E ad H locs la I hv)
theorem k_lcmp {x y : Int64} (d : decode (k_cc Y) pc = .ok (.lcmp, 1))  (k : k_W Y sc G (pc + 1, ls, .int (lg_cmp x y) :: st, h, nc, ns)) : k_W Y sc G (pc, ls, .long y :: .long x :: st, h, nc, ns) := by
  intro p l e s m args below meth c g cA A b ad0 n0 Q C E ad H locs la I hv
  exact W.lcmp C.1 C.2.1 d (k p l e s m args below meth c g cA A b ad0 n0 Q C E ad H locs la I hv)
theorem k_iadd {x y z : Int32} (d : decode (k_cc Y) pc = .ok (.iadd, 1)) (hz : x + y = z) (k : k_W Y sc G (pc + 1, ls, .int z :: st, h, nc, ns)) : k_W Y sc G (pc, ls, .int y :: .int x :: st, h, nc, ns) := by
  intro p l e s m args below meth c g cA A b ad0 n0 Q C E ad H locs la I hv
  subst hz
  exact lv_iadd C.1 C.2.1 d (k p l e s m args below meth c g cA A b ad0 n0 Q C E ad H locs la I hv)
theorem k_isub {x y z : Int32} (d : decode (k_cc Y) pc = .ok (.isub, 1)) (hz : x - y = z) (k : k_W Y sc G (pc + 1, ls, .int z :: st, h, nc, ns)) : k_W Y sc G (pc, ls, .int y :: .int x :: st, h, nc, ns) := by
  intro p l e s m args below meth c g cA A b ad0 n0 Q C E ad H locs la I hv
  subst hz
  exact lv_isub C.1 C.2.1 d (k p l e s m args below meth c g cA A b ad0 n0 Q C E ad H locs la I hv)
theorem k_imul {x y z : Int32} (d : decode (k_cc Y) pc = .ok (.imul, 1)) (hz : x * y = z) (k : k_W Y sc G (pc + 1, ls, .int z :: st, h, nc, ns)) : k_W Y sc G (pc, ls, .int y :: .int x :: st, h, nc, ns) := by
  intro p l e s m args below meth c g cA A b ad0 n0 Q C E ad H locs la I hv
  subst hz
  exact lv_imul C.1 C.2.1 d (k p l e s m args below meth c g cA A b ad0 n0 Q C E ad H locs la I hv)
theorem k_iand {x y z : Int32} (d : decode (k_cc Y) pc = .ok (.iand, 1)) (hz : x &&& y = z) (k : k_W Y sc G (pc + 1, ls, .int z :: st, h, nc, ns)) : k_W Y sc G (pc, ls, .int y :: .int x :: st, h, nc, ns) := by
  intro p l e s m args below meth c g cA A b ad0 n0 Q C E ad H locs la I hv
  subst hz
  exact lv_iand C.1 C.2.1 d (k p l e s m args below meth c g cA A b ad0 n0 Q C E ad H locs la I hv)
theorem k_iinc {j : Nat} {n : Int} {x z : Int32} (d : decode (k_cc Y) pc = .ok (.iinc j n, 3)) (hl : k_lk ls j = some (.int x)) (hz : x + k_ci n = z) (hj : Nat.blt j (k_nL Y) = true) (hc : ls.all (fun q => Nat.beq q.2.category 1) = true) (k : k_W Y sc G (pc + 3, k_up ls j (.int z), st, h, nc, ns)) : k_W Y sc G (pc, ls, st, h, nc, ns) := by
  intro p l e s m args below meth c g cA A b ad0 n0 Q C E ad H locs la I hv
  obtain ⟨t, ht⟩ := List.getElem?_of_mem (List.mem_map.mpr ⟨(j, .int x), k_lk_mem hl, rfl⟩ : (j, k_v ad (.int x)) ∈ ls.map (fun q => (q.1, k_v ad q.2)))
  exact lv_iinc (v := z) C.1 C.2.1 d hv ht (by rw [k_ci_eq]; exact hz) (k_blt hj) rfl (fun la hv => k p l e s m args below meth c g cA A b ad0 n0 Q C E ad H locs la I (k_up_sub hc hv))
theorem k_dup {v : Value} (d : decode (k_cc Y) pc = .ok (.dup, 1)) (hv1 : Nat.beq v.category 1 = true) (k : k_W Y sc G (pc + 1, ls, v :: v :: st, h, nc, ns)) : k_W Y sc G (pc, ls, v :: st, h, nc, ns) := by
  intro p l e s m args below meth c g cA A b ad0 n0 Q C E ad H locs la I hv
  exact lv_dup C.1 C.2.1 d (by rw [k_cat]; exact Nat.eq_of_beq_eq_true hv1) (k p l e s m args below meth c g cA A b ad0 n0 Q C E ad H locs la I hv)
theorem k_dup2 {v w : Value} (d : decode (k_cc Y) pc = .ok (.dup2, 1)) (hv1 : Nat.beq v.category 1 = true) (hw1 : Nat.beq w.category 1 = true) (k : k_W Y sc G (pc + 1, ls, v :: w :: v :: w :: st, h, nc, ns)) : k_W Y sc G (pc, ls, v :: w :: st, h, nc, ns) := by
  intro p l e s m args below meth c g cA A b ad0 n0 Q C E ad H locs la I hv
  exact lv_dup2_11 C.1 C.2.1 d (by rw [k_cat]; exact Nat.eq_of_beq_eq_true hv1) (by rw [k_cat]; exact Nat.eq_of_beq_eq_true hw1) (k p l e s m args below meth c g cA A b ad0 n0 Q C E ad H locs la I hv)
theorem k_goto {off : Int} {tg : Nat} (d : decode (k_cc Y) pc = .ok (.goto off, 3)) (ht : (pc : Int) + off = (tg : Int)) (k : k_W Y sc G (tg, ls, st, h, nc, ns)) : k_W Y sc G (pc, ls, st, h, nc, ns) := by
  intro p l e s m args below meth c g cA A b ad0 n0 Q C E ad H locs la I hv
  exact lv_goto C.1 C.2.1 d ht (k p l e s m args below meth c g cA A b ad0 n0 Q C E ad H locs la I hv)
theorem k_ifCond {cd : ClassFile.Cond} {off : Int} {tg : Nat} {x : Int32} (d : decode (k_cc Y) pc = .ok (.ifCond cd off, 3)) (ht : (pc : Int) + off = (tg : Int)) (k1 : k_cnd cd x 0 → k_W Y sc G (tg, ls, st, h, nc, ns)) (k2 : k_cnf cd x 0 → k_W Y sc G (pc + 3, ls, st, h, nc, ns)) : k_W Y sc G (pc, ls, .int x :: st, h, nc, ns) := by
  intro p l e s m args below meth c g cA A b ad0 n0 Q C E ad H locs la I hv
  cases cd with
  | eq => exact lv_if_eq C.1 C.2.1 d ht (fun q => k1 q p l e s m args below meth c g cA A b ad0 n0 Q C E ad H locs la I hv) (fun q => k2 q p l e s m args below meth c g cA A b ad0 n0 Q C E ad H locs la I hv)
  | ne => exact lv_if_ne C.1 C.2.1 d ht (fun q => k1 q p l e s m args below meth c g cA A b ad0 n0 Q C E ad H locs la I hv) (fun q => k2 q p l e s m args below meth c g cA A b ad0 n0 Q C E ad H locs la I hv)
  | lt => exact lv_if_lt C.1 C.2.1 d ht (fun q => k1 q p l e s m args below meth c g cA A b ad0 n0 Q C E ad H locs la I hv) (fun q => k2 q p l e s m args below meth c g cA A b ad0 n0 Q C E ad H locs la I hv)
  | ge => exact lv_if_ge C.1 C.2.1 d ht (fun q => k1 q p l e s m args below meth c g cA A b ad0 n0 Q C E ad H locs la I hv) (fun q => k2 q p l e s m args below meth c g cA A b ad0 n0 Q C E ad H locs la I hv)
  | gt => exact lv_if_gt C.1 C.2.1 d ht (fun q => k1 q p l e s m args below meth c g cA A b ad0 n0 Q C E ad H locs la I hv) (fun q => k2 q p l e s m args below meth c g cA A b ad0 n0 Q C E ad H locs la I hv)
  | le => exact lv_if_le C.1 C.2.1 d ht (fun q => k1 q p l e s m args below meth c g cA A b ad0 n0 Q C E ad H locs la I hv) (fun q => k2 q p l e s m args below meth c g cA A b ad0 n0 Q C E ad H locs la I hv)
theorem k_if_icmp {cd : ClassFile.Cond} {off : Int} {tg : Nat} {x y : Int32} (d : decode (k_cc Y) pc = .ok (.if_icmp cd off, 3)) (ht : (pc : Int) + off = (tg : Int)) (k1 : k_cnd cd x y → k_W Y sc G (tg, ls, st, h, nc, ns)) (k2 : k_cnf cd x y → k_W Y sc G (pc + 3, ls, st, h, nc, ns)) : k_W Y sc G (pc, ls, .int y :: .int x :: st, h, nc, ns) := by
  intro p l e s m args below meth c g cA A b ad0 n0 Q C E ad H locs la I hv
  cases cd with
  | eq => exact lv_icmp_eq C.1 C.2.1 d ht (fun q => k1 q p l e s m args below meth c g cA A b ad0 n0 Q C E ad H locs la I hv) (fun q => k2 q p l e s m args below meth c g cA A b ad0 n0 Q C E ad H locs la I hv)
  | ne => exact lv_icmp_ne C.1 C.2.1 d ht (fun q => k1 q p l e s m args below meth c g cA A b ad0 n0 Q C E ad H locs la I hv) (fun q => k2 q p l e s m args below meth c g cA A b ad0 n0 Q C E ad H locs la I hv)
  | lt => exact lv_icmp_lt C.1 C.2.1 d ht (fun q => k1 q p l e s m args below meth c g cA A b ad0 n0 Q C E ad H locs la I hv) (fun q => k2 q p l e s m args below meth c g cA A b ad0 n0 Q C E ad H locs la I hv)
  | ge => exact lv_icmp_ge C.1 C.2.1 d ht (fun q => k1 q p l e s m args below meth c g cA A b ad0 n0 Q C E ad H locs la I hv) (fun q => k2 q p l e s m args below meth c g cA A b ad0 n0 Q C E ad H locs la I hv)
  | gt => exact lv_icmp_gt C.1 C.2.1 d ht (fun q => k1 q p l e s m args below meth c g cA A b ad0 n0 Q C E ad H locs la I hv) (fun q => k2 q p l e s m args below meth c g cA A b ad0 n0 Q C E ad H locs la I hv)
  | le => exact lv_icmp_le C.1 C.2.1 d ht (fun q => k1 q p l e s m args below meth c g cA A b ad0 n0 Q C E ad H locs la I hv) (fun q => k2 q p l e s m args below meth c g cA A b ad0 n0 Q C E ad H locs la I hv)
end KR
end
section
theorem k_fl_ok {o n : Nat} {q : Nat × Nat} (h : k_lk (k_fl o) n = some q) : ∃ z, k_cl[q.1]? = some z ∧ q.2 < z.2.2 ∧ Cond.fieldLink (k_own o) n (z.2.1 q.2).1 (z.2.1 q.2).2.1 (z.2.1 q.2).2.2.1 ∈ k_T := by
  have hm : (n, q) ∈ k_fl o := k_lk_mem h
  have hall : (k_fl o).all (k_flc (k_own o)) = true := by
    match o with
    | 0 => exact k_fl0
    | 1 => exact k_fl1
    | 2 => exact k_fl2
    | 3 => exact k_fl3
    | _ + 4 => rfl
  have h1 : k_flc (k_own o) (n, q) = true := List.all_eq_true.mp hall _ hm
  unfold k_flc at h1
  split at h1
  · next z hz =>
    simp only [Bool.and_eq_true, decide_eq_true_eq] at h1
    exact ⟨z, hz, h1.1, h1.2⟩
  · cases h1
theorem k_cl_ok {ci : Nat} {z : vw_C} (h : k_cl[ci]? = some z) : ∀ w ∈ u_ws z.1 z.2.1 z.2.2, w ∈ k_T := fun w hw => by
  have h1 := List.all_eq_true.mp k_clw z (List.mem_of_getElem? h)
  have h2 := List.all_eq_true.mp h1 w hw
  simpa using h2
def k_tyo (ci : Nat) : Nat → FieldType := match ci with
  | 0 => tyX0
  | 1 => tyX1
  | 2 => tyX2
  | _ => tyX3
theorem k_ty_ok {ci : Nat} {z : vw_C} (h : k_cl[ci]? = some z) : ∀ k, k < z.2.2 → parseFieldDescriptor (z.2.1 k).2.2.1 = some (k_tyo ci k) := by
  match ci, h with
  | 0, h => cases h; exact tyX0_ok
  | 1, h => cases h; exact tyX1_ok
  | 2, h => cases h; exact tyX2_ok
  | 3, h => cases h; exact tyX3_ok
  | n + 4, h => simp [k_cl] at h
theorem k_nm_ok {ci : Nat} {z : vw_C} (h : k_cl[ci]? = some z) : ∀ a, a < z.2.2 → ∀ b, b < z.2.2 → a ≠ b → (z.2.1 a).2.1 ≠ (z.2.1 b).2.1 := by
  match ci, h with
  | 0, h => cases h; exact nmX0
  | 1, h => cases h; exact nmX1
  | 2, h => cases h; exact nmX2
  | 3, h => cases h; exact nmX3
  | n + 4, h => simp [k_cl] at h
theorem k_elem_mem {i : Nat} {l : List Nat} (h : k_elem i l = true) : i ∈ l := by
  induction l with
  | nil => cases h
  | cons j l ih =>
    unfold k_elem at h
    cases hb : Nat.beq j i with
    | true => rw [Nat.eq_of_beq_eq_true hb]; exact List.mem_cons_self
    | false => rw [hb] at h; exact List.mem_cons_of_mem _ (ih h)
theorem k_pfl_ok {ci k : Nat} {z : vw_C} (h : k_cl[ci]? = some z) (hp : k_pfl ci k = true) : (z.2.1 k).2.2.2 = false ∧ k_tyo ci k = .int := by
  match ci, h with
  | 0, h =>
    cases h
    have : k = 9 := Nat.eq_of_beq_eq_true hp
    subst this; exact ⟨rfl, rfl⟩
  | 1, h =>
    cases h
    have : k = 5 := Nat.eq_of_beq_eq_true hp
    subst this; exact ⟨rfl, rfl⟩
  | 2, h =>
    cases h
    have : k ∈ [6, 7] := k_elem_mem hp
    simp only [List.mem_cons, List.not_mem_nil, or_false] at this
    rcases this with rfl | rfl <;> exact ⟨rfl, rfl⟩
  | 3, h =>
    cases h
    have : k ∈ [0, 1, 2, 4, 9, 14] := k_elem_mem hp
    simp only [List.mem_cons, List.not_mem_nil, or_false] at this
    rcases this with rfl | rfl | rfl | rfl | rfl | rfl <;> exact ⟨rfl, rfl⟩
  | n + 4, h => simp [k_cl] at h
theorem k_set_len {α : Type} (h : List α) (i : Nat) (x : α) : (k_set h i x).length = h.length := by rw [k_set_eq]; simp
theorem k_map_set {ad : Nat → Nat} (fs : List Value) (k : Nat) (v : Value) : (k_set fs k v).map (k_v ad) = (fs.map (k_v ad)).set k (k_v ad v) := by rw [k_set_eq, List.map_set]
theorem k_map_get {ad : Nat → Nat} {fs : List Value} {k : Nat} {v : Value} (h : k_get fs k = some v) : (fs.map (k_v ad))[k]? = some (k_v ad v) := by
  rw [k_get_eq] at h
  simp [h]
section KM
variable {Y : k_Y} {sc : k_Sc} {G : k_G} {pc : Nat} {ls : List (Nat × Value)} {st : List Value} {h : List k_O} {nc ns : Nat}
theorem k_getfield {n a : Nat} {q : Nat × Nat} {fs : List Value} {v : Value} (d : decode (k_cc Y) pc = .ok (.getfield n, 3)) (hq : k_lk (k_fl Y.1) n = some q) (ho : k_get h a = some (.inr (q.1, fs))) (hf : k_get fs q.2 = some v) (k : k_W Y sc G (pc + 3, ls, v :: st, h, nc, ns)) : k_W Y sc G (pc, ls, .ref a :: st, h, nc, ns) := by
  intro p l e s m args below meth c g cA A b ad0 n0 Q C E ad H locs la I hv
  obtain ⟨z, hz, hk, hw⟩ := k_fl_ok hq
  exact va_get (own := k_own Y.1) (ref := (z.2.1 q.2).1) (C := z.1) (T := z.2.1) (N := z.2.2) (ci := q.1) C.1 C.2.1 C.2.2.2.2.1 (k_cl_ok hz) C.2.2.2.1 C.2.2.2.2.2.1 I.1 a (k_w_get ho) hz q.2 hk (C.2.2.2.2.1 _ hw) (fun _ h9 => h9) (k_map_get hf) d (k p l e s m args below meth c g cA A b ad0 n0 Q C E ad H locs la I hv)
theorem k_putfield {n a : Nat} {q : Nat × Nat} {fs : List Value} {x : Int32} (d : decode (k_cc Y) pc = .ok (.putfield n, 3)) (hq : k_lk (k_fl Y.1) n = some q) (ho : k_get h a = some (.inr (q.1, fs))) (hp : k_pfl q.1 q.2 = true) (hf : q.2 < fs.length) (k : k_W Y sc G (pc + 3, ls, st, k_set h a (.inr (q.1, k_set fs q.2 (.int x))), nc, ns)) : k_W Y sc G (pc, ls, .int x :: .ref a :: st, h, nc, ns) := by
  intro p l e s m args below meth c g cA A b ad0 n0 Q C E ad H locs la I hv
  obtain ⟨z, hz, hk, hw⟩ := k_fl_ok hq
  obtain ⟨f1, f2⟩ := k_pfl_ok hz hp
  refine va_put (own := k_own Y.1) (ref := (z.2.1 q.2).1) (C := z.1) (T := z.2.1) (N := z.2.2) (ci := q.1) (ty := .int) (v := .int x) C.1 C.2.1 C.2.2.2.2.1 (k_cl_ok hz) (k_tyo q.1) (k_ty_ok hz) (k_nm_ok hz) C.2.2.2.1 C.2.2.2.2.2.1 I.1 I.2.1 I.2.2.1 a (k_w_get ho) hz q.2 hk (C.2.2.2.2.1 _ hw) (fun _ h9 => h9) f1 (by rw [k_ty_ok hz _ hk, f2]) rfl rfl (by simpa using hf) d (fun H1 locs1 hP hD hS => ?_)
  have e1 : ((ad a, .inr (q.1, (fs.map (k_v ad)).set q.2 (.int x))) : Nat × va_E) = (ad a, k_o cA ad (.inr (q.1, k_set fs q.2 (.int x)))) := by
    simp only [k_o, k_map_set]; rfl
  have e2 : (k_w cA ad h).set a (ad a, .inr (q.1, (fs.map (k_v ad)).set q.2 (.int x))) = k_w cA ad (k_set h a (.inr (q.1, k_set fs q.2 (.int x)))) := by
    rw [e1]; exact k_w_set
  rw [e2] at hP hD
  exact k p l e s m args below meth c g cA A b ad0 n0 Q C E ad H1 locs1 la ⟨hP, hD, hS, I.2.2.2.1, by rw [k_set_len]; exact I.2.2.2.2.1, I.2.2.2.2.2⟩ hv
theorem k_iald {a n j : Nat} {f : Nat → Int32} {t : Nat} (ht : t = 0) (d : decode (k_cc Y) pc = .ok (.iaload, 1)) (ho : k_get h a = some (.inl (t, n, .inl f))) (hn : n < 100000) (hj : j < n) (k : k_W Y sc G (pc + 1, ls, .int (f j) :: st, h, nc, ns)) : k_W Y sc G (pc, ls, .int (nI j) :: .ref a :: st, h, nc, ns) := by
  intro p l e s m args below meth c g cA A b ad0 n0 Q C E ad H locs la I hv
  subst ht
  refine va_iald C.1 C.2.1 C.2.2.2.2.2.1 I.1 a 0 (k_w_get ho) rfl (vp_in_nI hj (by omega)) d ?_
  rw [nI_clamp (by omega)]
  exact k p l e s m args below meth c g cA A b ad0 n0 Q C E ad H locs la I hv
theorem k_zald {a n j : Nat} {f : Nat → Int32} {t : Nat} (ht : t = 1) (d : decode (k_cc Y) pc = .ok (.baload, 1)) (ho : k_get h a = some (.inl (t, n, .inl f))) (hn : n < 100000) (hj : j < n) (k : k_W Y sc G (pc + 1, ls, .int (f j) :: st, h, nc, ns)) : k_W Y sc G (pc, ls, .int (nI j) :: .ref a :: st, h, nc, ns) := by
  intro p l e s m args below meth c g cA A b ad0 n0 Q C E ad H locs la I hv
  subst ht
  refine va_zald C.1 C.2.1 C.2.2.2.2.2.1 I.1 a 1 (k_w_get ho) rfl (vp_in_nI hj (by omega)) d ?_
  rw [nI_clamp (by omega)]
  exact k p l e s m args below meth c g cA A b ad0 n0 Q C E ad H locs la I hv
theorem k_lald {a n j : Nat} {f : Nat → Int64} {t : Nat} (ht : t = 2) (d : decode (k_cc Y) pc = .ok (.laload, 1)) (ho : k_get h a = some (.inl (t, n, .inr (.inl f)))) (hn : n < 100000) (hj : j < n) (k : k_W Y sc G (pc + 1, ls, .long (f j) :: st, h, nc, ns)) : k_W Y sc G (pc, ls, .int (nI j) :: .ref a :: st, h, nc, ns) := by
  intro p l e s m args below meth c g cA A b ad0 n0 Q C E ad H locs la I hv
  subst ht
  refine va_lald C.1 C.2.1 C.2.2.2.2.2.1 I.1 a 2 (k_w_get ho) rfl (vp_in_nI hj (by omega)) d ?_
  rw [nI_clamp (by omega)]
  exact k p l e s m args below meth c g cA A b ad0 n0 Q C E ad H locs la I hv
theorem k_iast {a n j : Nat} {f : Nat → Int32} {x : Int32} {t : Nat} (ht : t = 0) (d : decode (k_cc Y) pc = .ok (.iastore, 1)) (ho : k_get h a = some (.inl (t, n, .inl f))) (hn : n < 100000) (hj : j < n) (k : k_W Y sc G (pc + 1, ls, st, k_set h a (.inl (t, n, .inl (upd f j x))), nc, ns)) : k_W Y sc G (pc, ls, .int x :: .int (nI j) :: .ref a :: st, h, nc, ns) := by
  intro p l e s m args below meth c g cA A b ad0 n0 Q C E ad H locs la I hv
  subst ht
  refine va_iast C.1 C.2.1 C.2.2.2.2.2.1 I.1 I.2.1 I.2.2.1 a 0 (k_w_get ho) rfl (vp_in_nI hj (by omega)) d (fun H1 locs1 hP hD hS => ?_)
  rw [nI_clamp (by omega)] at hP hD
  have e2 : (k_w cA ad h).set a (ad a, .inl (cA 0, n, .inl (upd f j x))) = k_w cA ad (k_set h a (.inl (0, n, .inl (upd f j x)))) := k_w_set (o := .inl (0, n, .inl (upd f j x)))
  rw [e2] at hP hD
  exact k p l e s m args below meth c g cA A b ad0 n0 Q C E ad H1 locs1 la ⟨hP, hD, hS, I.2.2.2.1, by rw [k_set_len]; exact I.2.2.2.2.1, I.2.2.2.2.2⟩ hv
theorem k_zast {a n j : Nat} {f : Nat → Int32} {x : Int32} {t : Nat} (ht : t = 1) (d : decode (k_cc Y) pc = .ok (.bastore, 1)) (ho : k_get h a = some (.inl (t, n, .inl f))) (hn : n < 100000) (hj : j < n) (hx : x = 0 ∨ x = 1) (k : k_W Y sc G (pc + 1, ls, st, k_set h a (.inl (t, n, .inl (upd f j x))), nc, ns)) : k_W Y sc G (pc, ls, .int x :: .int (nI j) :: .ref a :: st, h, nc, ns) := by
  intro p l e s m args below meth c g cA A b ad0 n0 Q C E ad H locs la I hv
  subst ht
  refine va_zast C.1 C.2.1 C.2.2.2.2.2.1 I.1 I.2.1 I.2.2.1 a 1 (k_w_get ho) rfl (vp_in_nI hj (by omega)) d (fun H1 locs1 hP hD hS => ?_)
  have hx2 : vp_nar .boolean x = x := by rcases hx with rfl | rfl <;> rfl
  rw [nI_clamp (by omega), hx2] at hP hD
  have e2 : (k_w cA ad h).set a (ad a, .inl (cA 1, n, .inl (upd f j x))) = k_w cA ad (k_set h a (.inl (1, n, .inl (upd f j x)))) := k_w_set (o := .inl (1, n, .inl (upd f j x)))
  rw [e2] at hP hD
  exact k p l e s m args below meth c g cA A b ad0 n0 Q C E ad H1 locs1 la ⟨hP, hD, hS, I.2.2.2.1, by rw [k_set_len]; exact I.2.2.2.2.1, I.2.2.2.2.2⟩ hv
theorem k_last {a n j : Nat} {f : Nat → Int64} {x : Int64} {t : Nat} (ht : t = 2) (d : decode (k_cc Y) pc = .ok (.lastore, 1)) (ho : k_get h a = some (.inl (t, n, .inr (.inl f)))) (hn : n < 100000) (hj : j < n) (k : k_W Y sc G (pc + 1, ls, st, k_set h a (.inl (t, n, .inr (.inl (vp_updL f j x)))), nc, ns)) : k_W Y sc G (pc, ls, .long x :: .int (nI j) :: .ref a :: st, h, nc, ns) := by
  intro p l e s m args below meth c g cA A b ad0 n0 Q C E ad H locs la I hv
  subst ht
  refine va_last C.1 C.2.1 C.2.2.2.2.2.1 I.1 I.2.1 I.2.2.1 a 2 (k_w_get ho) rfl (vp_in_nI hj (by omega)) d (fun H1 locs1 hP hD hS => ?_)
  rw [nI_clamp (by omega)] at hP hD
  have e2 : (k_w cA ad h).set a (ad a, .inl (cA 2, n, .inr (.inl (vp_updL f j x)))) = k_w cA ad (k_set h a (.inl (2, n, .inr (.inl (vp_updL f j x))))) := k_w_set (o := .inl (2, n, .inr (.inl (vp_updL f j x))))
  rw [e2] at hP hD
  exact k p l e s m args below meth c g cA A b ad0 n0 Q C E ad H1 locs1 la ⟨hP, hD, hS, I.2.2.2.1, by rw [k_set_len]; exact I.2.2.2.2.1, I.2.2.2.2.2⟩ hv
theorem k_alen {a n : Nat} {f : Nat → Int32} {t : Nat} (ht : t = 0) (d : decode (k_cc Y) pc = .ok (.arraylength, 1)) (ho : k_get h a = some (.inl (t, n, .inl f))) (k : k_W Y sc G (pc + 1, ls, .int (nI n) :: st, h, nc, ns)) : k_W Y sc G (pc, ls, .ref a :: st, h, nc, ns) := by
  intro p l e s m args below meth c g cA A b ad0 n0 Q C E ad H locs la I hv
  subst ht
  exact va_alen C.1 C.2.1 C.2.2.2.2.2.1 I.1 a 0 (k_w_get ho) (ty := .int) rfl rfl d (k p l e s m args below meth c g cA A b ad0 n0 Q C E ad H locs la I hv)
theorem k_slen {L : Nat} {xs : Nat → Int32} (hs : sc = some (L, xs)) (d : decode (k_cc Y) pc = .ok (.arraylength, 1)) (k : k_W Y sc G (pc + 1, ls, .int (nI L) :: st, h, nc, ns)) : k_W Y sc G (pc, ls, .ref 1000000 :: st, h, nc, ns) := by
  intro p l e s m args below meth c g cA A b ad0 n0 Q C E ad H locs la I hv
  obtain ⟨x1, x2, x3⟩ := C.2.2.2.2.2.2.2.2.2.2.2.2 L xs hs
  have hb : ad 1000000 = b := I.2.2.2.2.2.1 (by rw [hs]; exact Option.some_ne_none _)
  show W p l e (k_R Y G) s m args below meth c H locs nc ns Q (F0 m pc la (.ref (ad 1000000) :: st.map (k_v ad)))
  rw [hb]
  exact va_slen C.1 C.2.1 x1 x2 x3 I.2.2.1 d (k p l e s m args below meth c g cA A b ad0 n0 Q C E ad H locs la I hv)
theorem k_sld {L j : Nat} {xs : Nat → Int32} (hs : sc = some (L, xs)) (d : decode (k_cc Y) pc = .ok (.iaload, 1)) (hj : j < L) (hj2 : j < 100000) (k : k_W Y sc G (pc + 1, ls, .int (xs j) :: st, h, nc, ns)) : k_W Y sc G (pc, ls, .int (nI j) :: .ref 1000000 :: st, h, nc, ns) := by
  intro p l e s m args below meth c g cA A b ad0 n0 Q C E ad H locs la I hv
  obtain ⟨x1, x2, x3⟩ := C.2.2.2.2.2.2.2.2.2.2.2.2 L xs hs
  have hb : ad 1000000 = b := I.2.2.2.2.2.1 (by rw [hs]; exact Option.some_ne_none _)
  show W p l e (k_R Y G) s m args below meth c H locs nc ns Q (F0 m pc la (.int (nI j) :: .ref (ad 1000000) :: st.map (k_v ad)))
  rw [hb]
  refine va_sld C.1 C.2.1 x1 x2 x3 I.2.2.1 (vp_in_iff.mpr ⟨by rw [nI_toInt (by omega)]; omega, by rw [nI_toInt (by omega)]; omega⟩) d ?_
  rw [nI_clamp (by omega)]
  exact k p l e s m args below meth c g cA A b ad0 n0 Q C E ad H locs la I hv
end KM
end
section
def k_dck (cc : ByteArray) (q : Nat × Instr × Nat × Nat) : Bool := decide (decode cc q.1 = .ok (q.2.1, k_len q.2.1)) && Nat.beq q.2.2.1 (q.1 + k_len q.2.1) && k_tgt q.1 q.2.1 q.2.2.2
set_option maxHeartbeats 4000000 in
theorem k_ex_ok {Y : k_Y} {sc : k_Sc} {G : k_G} {i : Instr} {nx tg : Nat} {S : k_S} {K : k_S → Prop} (d : decode (k_cc Y) S.1 = .ok (i, k_len i)) (hn : nx = S.1 + k_len i) (ht : k_tgt S.1 i tg = true) (hK : ∀ S', K S' → k_W Y sc G S') (hx : k_ex Y.1 (k_nL Y) sc i nx tg S K) : k_W Y sc G S := by
  obtain ⟨pc, ls, st, h, nc, ns⟩ := S
  subst hn
  cases i with
  | iload_n j =>
    unfold k_ex at hx
    dsimp only at hx
    split at hx
    · next x hl => exact k_iload_n d hl (hK _ hx)
    · exact hx.elim
  | iload j =>
    unfold k_ex at hx
    dsimp only at hx
    split at hx
    · next x hl => exact k_iload d hl (hK _ hx)
    · exact hx.elim
  | aload_n j =>
    unfold k_ex at hx
    dsimp only at hx
    split at hx
    · next x hl => exact k_aload_n d hl (hK _ hx)
    · exact hx.elim
  | aload j =>
    unfold k_ex at hx
    dsimp only at hx
    split at hx
    · next x hl => exact k_aload d hl (hK _ hx)
    · exact hx.elim
  | istore_n j =>
    unfold k_ex at hx
    dsimp only at hx
    split at hx
    · next x st2 =>
      obtain ⟨h1, h2⟩ := k_cond hx
      obtain ⟨h3, h4⟩ := k_and2 h1
      exact k_istore_n d h3 h4 (hK _ h2)
    · exact hx.elim
  | istore j =>
    unfold k_ex at hx
    dsimp only at hx
    split at hx
    · next x st2 =>
      obtain ⟨h1, h2⟩ := k_cond hx
      obtain ⟨h3, h4⟩ := k_and2 h1
      exact k_istore d h3 h4 (hK _ h2)
    · exact hx.elim
  | astore_n j =>
    unfold k_ex at hx
    dsimp only at hx
    split at hx
    · next x st2 =>
      obtain ⟨h1, h2⟩ := k_cond hx
      obtain ⟨h3, h4⟩ := k_and2 h1
      exact k_astore_n d h3 h4 (hK _ h2)
    · exact hx.elim
  | astore j =>
    unfold k_ex at hx
    dsimp only at hx
    split at hx
    · next x st2 =>
      obtain ⟨h1, h2⟩ := k_cond hx
      obtain ⟨h3, h4⟩ := k_and2 h1
      exact k_astore d h3 h4 (hK _ h2)
    · exact hx.elim
  | iconst n => exact k_iconst d (hK _ hx)
  | bipush n =>
    unfold k_ex at hx
    dsimp only at hx
    split at hx
    · next q =>
      obtain ⟨h1, h2⟩ := k_cond hx
      exact k_bipush d h1 (hK _ h2)
    · exact hx.elim
  | sipush n =>
    unfold k_ex at hx
    dsimp only at hx
    split at hx
    · next q =>
      obtain ⟨h1, h2⟩ := k_cond hx
      exact k_sipush d h1 (hK _ h2)
    · exact hx.elim
  | lconst n => exact k_lconst d (hK _ hx)
  | i2l =>
    unfold k_ex at hx
    dsimp only at hx
    split at hx
    · exact k_i2l d (hK _ hx)
    · exact hx.elim
  | lcmp =>
    unfold k_ex at hx
    dsimp only at hx
    split at hx
    · exact k_lcmp d (hK _ hx)
    · exact hx.elim
  | iinc j n =>
    unfold k_ex at hx
    dsimp only at hx
    split at hx
    · next x hl =>
      obtain ⟨h1, z, hz, h2⟩ := k_cond hx
      obtain ⟨h3, h4⟩ := k_and2 h1
      exact k_iinc d hl hz h3 h4 (hK _ h2)
    · exact hx.elim
  | iadd =>
    unfold k_ex at hx
    dsimp only at hx
    split at hx
    · obtain ⟨z, hz, h2⟩ := hx
      exact k_iadd d hz (hK _ h2)
    · exact hx.elim
  | isub =>
    unfold k_ex at hx
    dsimp only at hx
    split at hx
    · obtain ⟨z, hz, h2⟩ := hx
      exact k_isub d hz (hK _ h2)
    · exact hx.elim
  | imul =>
    unfold k_ex at hx
    dsimp only at hx
    split at hx
    · obtain ⟨z, hz, h2⟩ := hx
      exact k_imul d hz (hK _ h2)
    · exact hx.elim
  | iand =>
    unfold k_ex at hx
    dsimp only at hx
    split at hx
    · obtain ⟨z, hz, h2⟩ := hx
      exact k_iand d hz (hK _ h2)
    · exact hx.elim
  | dup =>
    unfold k_ex at hx
    dsimp only at hx
    split at hx
    · obtain ⟨h1, h2⟩ := k_cond hx
      exact k_dup d h1 (hK _ h2)
    · exact hx.elim
  | dup2 =>
    unfold k_ex at hx
    dsimp only at hx
    split at hx
    · obtain ⟨h1, h2⟩ := k_cond hx
      obtain ⟨h3, h4⟩ := k_and2 h1
      exact k_dup2 d h3 h4 (hK _ h2)
    · exact hx.elim
  | ifCond c off =>
    have ht2 : (pc : Int) + off = (tg : Int) := by simpa [k_tgt] using ht
    unfold k_ex at hx
    dsimp only at hx
    split at hx
    · exact k_ifCond d ht2 (fun q => hK _ (hx.1 q)) (fun q => hK _ (hx.2 q))
    · exact hx.elim
  | if_icmp c off =>
    have ht2 : (pc : Int) + off = (tg : Int) := by simpa [k_tgt] using ht
    unfold k_ex at hx
    dsimp only at hx
    split at hx
    · exact k_if_icmp d ht2 (fun q => hK _ (hx.1 q)) (fun q => hK _ (hx.2 q))
    · exact hx.elim
  | goto off =>
    have ht2 : (pc : Int) + off = (tg : Int) := by simpa [k_tgt] using ht
    exact k_goto d ht2 (hK _ hx)
  | getfield n =>
    unfold k_ex at hx
    dsimp only at hx
    split at hx
    · next a st2 =>
      split at hx
      · next q hq =>
        split at hx
        · next z hz =>
          obtain ⟨h1, h2⟩ := k_cond hx
          split at h2
          · next v hv =>
            have e1 : z.1 = q.1 := Nat.eq_of_beq_eq_true h1
            obtain ⟨z1, z2⟩ := z
            dsimp only at e1
            subst e1
            exact k_getfield d hq hz hv (hK _ h2)
          · exact h2.elim
        · exact hx.elim
      · exact hx.elim
    · exact hx.elim
  | putfield n =>
    unfold k_ex at hx
    dsimp only at hx
    split at hx
    · next x a st2 =>
      split at hx
      · next q hq =>
        split at hx
        · next z hz =>
          obtain ⟨h1, h2⟩ := k_cond hx
          obtain ⟨h3, h5⟩ := k_and2 h1
          obtain ⟨h3, h4⟩ := k_and2 h3
          have e1 : z.1 = q.1 := Nat.eq_of_beq_eq_true h3
          obtain ⟨z1, z2⟩ := z
          dsimp only at e1
          subst e1
          exact k_putfield d hq hz h4 (k_blt h5) (hK _ h2)
        · exact hx.elim
      · exact hx.elim
    · exact hx.elim
  | iaload =>
    unfold k_ex at hx
    dsimp only at hx
    split at hx
    · next i a st2 =>
      split at hx
      · next n f hz =>
        obtain ⟨h1, j, rfl, h3, h4⟩ := k_cond hx
        exact k_iald rfl d hz (k_blt h1) h3 (hK _ h4)
      · next hz =>
        obtain ⟨h1, h2⟩ := k_cond hx
        have e1 : a = 1000000 := Nat.eq_of_beq_eq_true h1
        subst e1
        split at h2
        · next q =>
          obtain ⟨j, rfl, h3, h5, h4⟩ := h2
          exact k_sld rfl d h3 h5 (hK _ h4)
        · exact h2.elim
      · exact hx.elim
    · exact hx.elim
  | baload =>
    unfold k_ex at hx
    dsimp only at hx
    split at hx
    · next i a st2 =>
      split at hx
      · next n f hz =>
        obtain ⟨h1, j, rfl, h3, h4⟩ := k_cond hx
        exact k_zald rfl d hz (k_blt h1) h3 (hK _ h4)
      · exact hx.elim
    · exact hx.elim
  | laload =>
    unfold k_ex at hx
    dsimp only at hx
    split at hx
    · next i a st2 =>
      split at hx
      · next n f hz =>
        obtain ⟨h1, j, rfl, h3, h4⟩ := k_cond hx
        exact k_lald rfl d hz (k_blt h1) h3 (hK _ h4)
      · exact hx.elim
    · exact hx.elim
  | iastore =>
    unfold k_ex at hx
    dsimp only at hx
    split at hx
    · next x i a st2 =>
      split at hx
      · next n f hz =>
        obtain ⟨h1, j, rfl, h3, h4⟩ := k_cond hx
        exact k_iast rfl d hz (k_blt h1) h3 (hK _ h4)
      · exact hx.elim
    · exact hx.elim
  | bastore =>
    unfold k_ex at hx
    dsimp only at hx
    split at hx
    · next x i a st2 =>
      split at hx
      · next n f hz =>
        obtain ⟨h1, h2, j, rfl, h3, h4⟩ := k_cond hx
        exact k_zast rfl d hz (k_blt h1) h3 h2 (hK _ h4)
      · exact hx.elim
    · exact hx.elim
  | lastore =>
    unfold k_ex at hx
    dsimp only at hx
    split at hx
    · next x i a st2 =>
      split at hx
      · next n f hz =>
        obtain ⟨h1, j, rfl, h3, h4⟩ := k_cond hx
        exact k_last rfl d hz (k_blt h1) h3 (hK _ h4)
      · exact hx.elim
    · exact hx.elim
  | arraylength =>
    unfold k_ex at hx
    dsimp only at hx
    split at hx
    · next a st2 =>
      split at hx
      · next n f hz => exact k_alen rfl d hz (hK _ hx)
      · next hz =>
        obtain ⟨h1, h2⟩ := k_cond hx
        have e1 : a = 1000000 := Nat.eq_of_beq_eq_true h1
        subst e1
        split at h2
        · next q => exact k_slen rfl d (hK _ h2)
        · exact h2.elim
      · exact hx.elim
    · exact hx.elim
  | _ => exact False.elim hx
theorem k_run_ok {Y : k_Y} {sc : k_Sc} {G : k_G} {blk : List (Nat × Instr × Nat × Nat)} (hb : blk.all (k_dck (k_cc Y)) = true) (stops : List Nat) {K : k_S → Prop} (hK : ∀ S', K S' → k_W Y sc G S') : ∀ (f : Nat) (S : k_S), k_run Y.1 (k_nL Y) sc blk stops K f S → k_W Y sc G S := by
  intro f
  induction f with
  | zero => intro S h; exact hK S h
  | succ f ih =>
    intro S h
    unfold k_run at h
    split at h
    · exact hK S h
    · next q hq =>
      have h1 := List.all_eq_true.mp hb _ (k_lk_mem hq)
      unfold k_dck at h1
      obtain ⟨h2, h3⟩ := k_and2 h1
      obtain ⟨h4, h5⟩ := k_and2 h2
      refine k_ex_ok (of_decide_eq_true h4) (Nat.eq_of_beq_eq_true h5) h3 (K := fun S' => cond (k_elem S'.1 stops) (K S') (k_run Y.1 (k_nL Y) sc blk stops K f S')) (fun S' h' => ?_) h
      cases hc : k_elem S'.1 stops with
      | true => rw [hc] at h'; exact hK S' h'
      | false => rw [hc] at h'; exact ih S' h'
theorem k_go {Y : k_Y} {sc : k_Sc} {G : k_G} {S : k_S} (f : Nat) {blk : List (Nat × Instr × Nat × Nat)} (stops : List Nat) (hb : blk.all (k_dck (k_cc Y)) = true) (h : ∀ K : k_S → Prop, (∀ S', k_W Y sc G S' → K S') → k_run Y.1 (k_nL Y) sc blk stops K f S) : k_W Y sc G S :=
  k_run_ok hb stops (fun _ h' => h') f S (h (k_W Y sc G) (fun _ h' => h'))
end
section
def k_ws (Y : k_Y) : List Cond := (match k_hh Y with | [] => Cond.code (k_nm Y) (k_cc Y) (k_nL Y) (k_rt Y) | q :: hh => Cond.codeWith (k_nm Y) (k_cc Y) (k_nL Y) (k_rt Y) (q :: hh)) :: k_T
def k_B (g : va_G) (cA : Nat → ClassId) (ad : Nat → Nat) (A : Nat → Prop) (h : List k_O) (t : State) : Prop := va_P g k_cl (k_w cA ad h) t.heap ∧ va_K g k_cl (k_tys cA) t ∧ va_D A (k_w cA ad h)
def k_Qc (g : va_G) (cA : Nat → ClassId) (ad0 : Nat → Nat) (n0 : Nat) (A : Nat → Prop) (out : Option Value ⊕ String) (h : List k_O) : Array Value → State → Outcome → State → Prop := fun _ st o t =>
  (∃ (ad : Nat → Nat) (v : Option Value), (∀ i, i < n0 → ad i = ad0 i) ∧ n0 ≤ h.length ∧ ad 1000000 = ad0 1000000 ∧ out = .inl v ∧ o = .returned (v.map (k_v ad)) ∧ k_B g cA ad A h t) ∧ va_F A st t
def k_XC (g : va_G) (cA : Nat → ClassId) (ad0 : Nat → Nat) (n0 : Nat) (A : Nat → Prop) (out : Option Value ⊕ String) (h : List k_O) : String → State → State → Prop := fun E st t =>
  (∃ (ad : Nat → Nat), (∀ i, i < n0 → ad i = ad0 i) ∧ n0 ≤ h.length ∧ ad 1000000 = ad0 1000000 ∧ out = .inr E ∧ k_B g cA ad A h t) ∧ va_F A st t
def k_Pre (g : va_G) (cA : Nat → ClassId) (ad : Nat → Nat) (sz : Nat) (h : List k_O) (U : State) : Prop :=
  U.heap.size = sz ∧ va_P g k_cl (k_w cA ad h) U.heap ∧ va_K g k_cl (k_tys cA) U ∧ va_D (fun _ => True) (k_w cA ad h) ∧ k_Fix (va_A (k_w cA ad h) sz) U U.heap
def k_Met (Y : k_Y) (as : List Value) (h : List k_O) (G : k_G) : Prop := ∀ (l : Launch), l.stackTraces = false → ∀ (g : va_G) (cA : Nat → ClassId) (ad : Nat → Nat) (sz : Nat),
  vx_Met l (k_nm Y) (k_ws Y) (k_R Y G) (va_Pc (as.map (k_v ad)) (k_Pre g cA ad sz h)) (k_Qc g cA ad h.length (va_A (k_w cA ad h) sz) G.1 G.2.1) (k_XC g cA ad h.length (va_A (k_w cA ad h) sz) G.1 G.2.1) G.2.2.1 G.2.2.2 (va_A (k_w cA ad h) sz)
theorem k_Fix.warm {A B : Nat → Prop} {u U : State} {H H1 : Heap} (hW : u.WarmedH U.vm) (hq : ∀ a : Nat, a < H.size → ¬ A a → H1[a]? = H[a]?) (hAB : ∀ q, B q → A q) (h : k_Fix A u H) : k_Fix B U H1 := by
  obtain ⟨h1, h2, h3, h4⟩ := h
  refine ⟨((h1.kept hq).narrow hAB).moved hW.alike, ((h2.kept hq).narrow hAB).moved hW.alike, ⟨fun x hx => va_Nw.warmD hW (h3.1 x hx), fun E hE F hF => ⟨fun hs => va_Nw.warmC hW ((h3.2 E hE F hF).1 hs), fun hs => ((h3.2 E hE F hF).2 hs).moved hW.alike⟩⟩, fun q hq => ?_⟩
  obtain ⟨sa, hsa⟩ := h4 q hq
  exact ⟨sa, vk_R.warm hW hsa⟩
theorem k_Fix.same {A : Nat → Prop} {u U : State} {H : Heap} (hv : U.vm = u.vm) (h : k_Fix A u H) : k_Fix A U H := by
  obtain ⟨h1, h2, h3, h4⟩ := h
  have hal : u.vm.Alike U.vm := by rw [hv]; exact Vm.Alike.refl _
  refine ⟨h1.moved hal, h2.moved hal, ⟨fun x hx => va_Nw.same rfl hv.symm (h3.1 x hx), fun E hE F hF => ⟨fun hs => va_Nw.same rfl hv.symm ((h3.2 E hE F hF).1 hs), fun hs => ((h3.2 E hE F hF).2 hs).moved hal⟩⟩, fun q hq => ?_⟩
  obtain ⟨sa, hsa⟩ := h4 q hq
  exact ⟨sa, vk_R.same hv hsa⟩
theorem k_blind {g : va_G} {cA : Nat → ClassId} {ad : Nat → Nat} {sz : Nat} {h : List k_O} {vs : List Value} : FrameBlind (va_Pc vs (k_Pre g cA ad sz h)) := by
  intro a U fr mk q
  obtain ⟨q0, q1, qP, qK, qD, qF⟩ := q
  exact ⟨q0, q1, qP, va_K.moved (u := U) (U := U.calling fr mk a) (Vm.Alike.refl U.vm) qK, qD, k_Fix.same (u := U) (U := U.calling fr mk a) rfl qF⟩
theorem k_good {ws : List Cond} (h : ∀ w ∈ ws, w ∈ k_T) : GoodIn k_T ws := fun w hw => ⟨h w hw, good_of_word (List.mem_filter.mp (h w hw)).2⟩
theorem k_args (ad : Nat → Nat) (as : List Value) : ∀ i, lv_args i (as.map (k_v ad)) = (lv_args i as).map (fun q => (q.1, k_v ad q.2)) := by
  induction as with
  | nil => intro i; rfl
  | cons a as ih => intro i; simp only [List.map_cons, lv_args, k_cat, ih]
theorem k_sl (ad : Nat → Nat) (as : List Value) : (lg_sl (as.map (k_v ad))).length = (lg_sl as).length := by
  induction as with
  | nil => rfl
  | cons a as ih =>
    have h1 : ∀ (v : Value) (vs : List Value), (lg_sl (v :: vs)).length = (if v.category = 2 then 2 else 1) + (lg_sl vs).length := by
      intro v vs
      simp only [lg_sl, List.flatMap_cons, List.length_append]
      split <;> rfl
    rw [List.map_cons, h1, h1, k_cat, ih]
theorem k_sum (ad : Nat → Nat) (st : List Value) : ((st.map (k_v ad)).map fun v => v.category).sum = (st.map fun v => v.category).sum := by
  rw [List.map_map]
  congr 1
  apply List.map_congr_left
  intro v _
  exact k_cat ad v
end
section
theorem k_inA {g : va_G} {cA : Nat → ClassId} {ad : Nat → Nat} {A : Nat → Prop} {H0 H : Heap} {locs : List Loc} {h : List k_O} (hD : va_D A (k_w cA ad h)) (hS : va_S A H0 H locs) (hA : ∀ q, H0.size ≤ q → A q) : ∀ q, va_A (k_w cA ad h) H.size q → A q := by
  intro q hq
  rcases hq with ⟨k, e, hk⟩ | hq
  · exact hD.2 k (q, e) hk
  · exact hA q (Nat.le_trans hS.1 hq)
set_option maxHeartbeats 1000000 in
theorem k_intro {Y : k_Y} {as : List Value} {h : List k_O} {G : k_G} (hy : plainName (k_nm Y).cls = true) (ho : (k_nm Y).cls = k_own Y.1) (hh : k_hh Y = []) (hn : Nat.ble (lg_sl as).length (k_nL Y) = true) (k : k_W Y none G (0, lv_args 0 as, [], h, 0, 0)) : k_Met Y as h G := by
  intro l hl g cA ad sz
  have hws : k_ws Y = Cond.code (k_nm Y) (k_cc Y) (k_nL Y) (k_rt Y) :: k_T := by unfold k_ws; rw [hh]
  refine vx_ofW (cc := k_cc Y) (maxL := k_nL Y) (ret := k_rt Y) hy hws ?_
  intro p e s m args below meth c s₁ B hml htab hv
  obtain ⟨rfl, hsz, hP, hK, hD0, hF⟩ := hv
  have hts : ∀ w ∈ k_T, w.before (as.map (k_v ad)).toArray s = true := fun w hw => atoms_spec (ws := k_ws Y) B.pre w (by rw [hws]; exact List.mem_cons_of_mem _ hw)
  have hown : s.vm.findClass (k_own Y.1) = some m.cls := by rw [← ho]; exact findClass_of_methodNamed B.named
  have hlocks := B.notSynchronized
  have hin : meth.name = (k_nm Y).name := (name_of_methodNamed B.named B.method).1
  subst hsz
  have hD := hD0.self (sz := s.heap.size)
  have hA : ∀ q : Nat, s.heap.size ≤ q → va_A (k_w cA ad h) s.heap.size q := fun q h => Or.inr h
  have C : k_C Y none p l s m (as.map (k_v ad)).toArray meth c g cA (va_A (k_w cA ad h) s.heap.size) 0 :=
    ⟨B.exec, B.bytes, hml, hown, hts, hK, hA, hlocks, hl, hF, hin, fun q => absurd hh q, fun L xs q => by cases q⟩
  have hlv : lv_has ((lg_sl (as.map (k_v ad)) ++ List.replicate (k_nL Y - (lg_sl (as.map (k_v ad))).length) Slot.unset).toArray) (k_nL Y) ((lv_args 0 as).map (fun q => (q.1, k_v ad q.2))) := by
    rw [← k_args]
    exact lv_entry _ (by rw [k_sl]; exact Nat.le_of_ble_eq_true hn)
  rw [lg_entry_eq]
  refine k p l e s m _ below meth c g cA (va_A (k_w cA ad h) s.heap.size) 0 ad h.length _ C ?_ ad s.heap [] _ ⟨hP, hD, va_S.rf, fun _ _ => rfl, Nat.le_refl _, fun q => absurd rfl q, rfl⟩ hlv
  refine ⟨?_, ?_, ?_⟩
  · intro v hG hnar ad1 H1 locs1 la pc I hd
    refine vx_ret ?_
    rcases hd with ⟨rfl, hrt, hd⟩ | ⟨x, ty, rfl, hrt, hd⟩
    · exact W.vret B.exec B.bytes (B.returns.trans hrt) (fun t ht hW => ⟨⟨ad1, none, I.2.2.2.1, I.2.2.2.2.1, I.2.2.2.2.2.2, hG, rfl, by rw [ht]; exact I.1, va_K.moved hW.alike hK, I.2.1⟩, I.2.2.1.F ht⟩) I.2.2.1.2.2 hd
    · exact W.zret B.exec B.bytes (B.returns.trans hrt) (hnar x ty rfl hrt) (fun t ht hW => ⟨⟨ad1, some (.int x), I.2.2.2.1, I.2.2.2.2.1, I.2.2.2.2.2.2, hG, rfl, by rw [ht]; exact I.1, va_K.moved hW.alike hK, I.2.1⟩, I.2.2.1.F ht⟩) I.2.2.1.2.2 hd
  · intro E hG _ ad1 H1 locs1 la pc rest q ce I hce hcv hcl
    exact vx_out (fun x hx => (htab x hx).elim) hlocks hce hcv hcl (fun t ht hal => ⟨⟨ad1, I.2.2.2.1, I.2.2.2.2.1, I.2.2.2.2.2.2, hG, by rw [ht]; exact I.1, va_K.moved hal hK, I.2.1⟩, I.2.2.1.F ht⟩) I.2.2.1.2.2 (Nat.le_refl _) (Nat.le_refl _)
  · intro E hG _ ad1 H1 locs1 la pc rest names text ik is ic sa cells slots I hsize f1 f2 w1 w2 w3 w4 w5 d0 d3 d4 d6 d9 r1 r2 r3 r4
    refine vx_throwS (A := va_A (k_w cA ad h) s.heap.size) (names := names) B.exec B.bytes hl hown f1 f2 w1 w2 w3 w4 w5 hF.1 hF.2.1 I.2.2.1 hsize d0 d3 d4 d6 d9 (fun x hx => (htab x hx).elim) r1 r2 r3 r4 hlocks (fun t hal hsz hk => ?_) I.2.2.1.2.2 r3 r4
    refine ⟨⟨ad1, I.2.2.2.1, I.2.2.2.2.1, I.2.2.2.2.2.2, hG, I.1.kept (fun k x hx => hk x.1 (I.1 k x hx).lt), va_K.moved hal hK, I.2.1⟩, ?_⟩
    exact ⟨Nat.le_trans I.2.2.1.1 hsz, fun q h1 h2 => by rw [hk q (Nat.lt_of_lt_of_le h1 I.2.2.1.1)]; exact I.2.2.1.2.1 q h1 h2⟩
end
section
section KE
variable {Y : k_Y} {sc : k_Sc} {G : k_G} {pc : Nat} {ls : List (Nat × Value)} {st : List Value} {h : List k_O} {nc ns : Nat}
theorem k_ireturn {x : Int32} {ty : FieldType} (d : decode (k_cc Y) pc = .ok (.ireturn, 1)) (hrt : k_rt Y = some ty) (hn : narrow ty (.int x) = .int x) (h1 : G.1 = .inl (some (.int x))) (h2 : G.2.1 = h) (h3 : nc ≤ G.2.2.1) (h4 : ns ≤ G.2.2.2) : k_W Y sc G (pc, ls, [.int x], h, nc, ns) := by
  intro p l e s m args below meth c g cA A b ad0 n0 Q C E ad H locs la I hv
  subst h2
  exact W.widen h3 h4 (E.1 (some (.int x)) h1 (fun x' ty' e1 e2 => by cases e1; rw [hrt] at e2; cases e2; exact hn) ad H locs la pc I (Or.inr ⟨x, ty, rfl, hrt, d⟩))
theorem k_return (d : decode (k_cc Y) pc = .ok (.return_, 1)) (hrt : k_rt Y = none) (h1 : G.1 = .inl none) (h2 : G.2.1 = h) (h3 : nc ≤ G.2.2.1) (h4 : ns ≤ G.2.2.2) : k_W Y sc G (pc, ls, [], h, nc, ns) := by
  intro p l e s m args below meth c g cA A b ad0 n0 Q C E ad H locs la I hv
  subst h2
  exact W.widen h3 h4 (E.1 none h1 (fun x' ty' e1 e2 => by cases e1) ad H locs la pc I (Or.inl ⟨rfl, hrt, d⟩))
/-- what is checked of a throw with a text -/
def k_okT (o ik is ic : Nat) (E text : String) (names : List String) : Bool :=
  Bundle.fit E && names.all Bundle.fit && decide (E ∈ k_ex6) && k_sub E E && decide (Cond.classLink (k_own o) ik E ∈ k_T) && decide (Cond.initialized E ∈ k_T) && decide ((is, text) ∈ k_str) &&
  (vx_atS (k_own o) ic E names).all (fun w => decide (w ∈ k_T) || decide (w = Cond.castable E E) || k_dcl.any (fun x => decide (w = Cond.declares x))) && (Cond.classLink (k_own o) ik E :: Cond.initialized E :: vx_atS (k_own o) ic E names).all vx_ot
theorem k_throw {E text : String} {names : List String} {ik is ic : Nat} (ho : k_own Y.1 = RX2) (hok : k_okT Y.1 ik is ic E text names = true) (hh : k_hh Y = [])
    (d0 : decode (k_cc Y) pc = .ok (.new ik, 3)) (d3 : decode (k_cc Y) (pc + 3) = .ok (.dup, 1)) (d4 : decode (k_cc Y) (pc + 4) = .ok (.ldc is, 2)) (d6 : decode (k_cc Y) (pc + 6) = .ok (.invokespecial ic, 3)) (d9 : decode (k_cc Y) (pc + 9) = .ok (.athrow, 1))
    (r1 : names.length + 3 < k_fr Y) (r2 : (st.map fun v => v.category).sum + (13 * (names.length + 1) + 43) ≤ k_lo Y) (h1 : G.1 = .inr E) (h2 : G.2.1 = h) (h3 : nc + 1 ≤ G.2.2.1) (h4 : ns + 6 ≤ G.2.2.2) : k_W Y sc G (pc, ls, st, h, nc, ns) := by
  intro p l e s m args below meth c g cA A b ad0 n0 Q C EE ad H locs la I hv
  subst h2
  unfold k_okT at hok
  simp only [Bool.and_eq_true, decide_eq_true_eq, List.all_eq_true] at hok
  obtain ⟨⟨⟨⟨⟨⟨⟨⟨a1, a2⟩, a3⟩, a4⟩, a5⟩, a6⟩, a7⟩, a8⟩, a9⟩ := hok
  obtain ⟨f1, f2, f3, f4⟩ := C.2.2.2.2.2.2.2.2.2.1
  obtain ⟨sa, hsa⟩ := f4 _ a7
  have hts := C.2.2.2.2.1
  refine EE.2.2 E h1 hh ad H locs la pc (st.map (k_v ad)) names text ik is ic sa nc ns I (hv.1.trans C.2.2.1.symm) a1 a2 (hts _ a5) (hts _ a6) (by rw [ho]; exact hsa) (fun w hw => ?_) a9 d0 d3 d4 d6 d9 r1 (by rw [k_sum]; exact r2) h3 h4
  have h8 := a8 w hw
  simp only [Bool.or_eq_true, decide_eq_true_eq] at h8
  rcases h8 with (h8 | h8) | h8
  · exact hts _ h8
  · rw [h8]
    exact va_Nw.use rfl ((f3.2 E a3 E a3).1 a4)
  · obtain ⟨x, hx, hxe⟩ := List.any_eq_true.mp h8
    rw [of_decide_eq_true hxe]
    exact va_Nw.use rfl (f3.1 x hx)
end KE
end
section
def k_okB (o idx n : Nat) (Y : k_Y) : Bool := decide (k_hh Y = []) && decide (Cond.methodLink (k_own o) idx (k_nm Y) ∈ k_T) && decide (Cond.initialized (k_nm Y).cls ∈ k_T) && decide (Cond.code (k_nm Y) (k_cc Y) (k_nL Y) (k_rt Y) ∈ k_T) && decide ((k_nm Y).cls ≠ "java/lang/invoke/MethodHandle" ∧ (k_nm Y).cls ≠ "java/lang/invoke/VarHandle" ∧ (parseMethodDescriptor (k_nm Y).desc).map (fun d => d.parameters.length) = some n) && decide ((k_nm Y).cls = k_own Y.1)
def k_okV (o idx n : Nat) (Y : k_Y) : Bool := k_okB o idx n Y && Nat.blt Y.1 4 && decide (Cond.instanceMethod (k_nm Y) ∈ k_T) && decide (Cond.selects (k_nm Y).cls (k_nm Y) (k_nm Y) ∈ k_T)
def k_okSt (o idx n : Nat) (Y : k_Y) : Bool := k_okB o idx n Y && decide (Cond.static (k_nm Y) ∈ k_T)
def k_okI (o idx n : Nat) (Y : k_Y) : Bool := k_okB o idx n Y && decide (Cond.instanceMethod (k_nm Y) ∈ k_T) && decide ((k_nm Y).name = "<init>") && decide (k_rt Y = none)
theorem k_wsT {Y : k_Y} (h1 : k_hh Y = []) (h2 : Cond.code (k_nm Y) (k_cc Y) (k_nL Y) (k_rt Y) ∈ k_T) : GoodIn k_T (k_ws Y) := by
  have hws : k_ws Y = Cond.code (k_nm Y) (k_cc Y) (k_nL Y) (k_rt Y) :: k_T := by unfold k_ws; rw [h1]
  rw [hws]
  exact k_good (fun w hw => (List.mem_cons.mp hw).elim (fun e => by rw [e]; exact h2) (fun h => h))
theorem k_cl_own {o : Nat} (h : o < 4) : ∃ z, k_cl[o]? = some z ∧ z.1 = k_own o := by
  match o, h with
  | 0, _ => exact ⟨_, rfl, rfl⟩
  | 1, _ => exact ⟨_, rfl, rfl⟩
  | 2, _ => exact ⟨_, rfl, rfl⟩
  | 3, _ => exact ⟨_, rfl, rfl⟩
def k_rm (Y Y' : k_Y) : Bool := Nat.ble (k_fr Y' + 1) (k_fr Y) && Nat.ble (8 + (k_nL Y' + 11) + k_lo Y') (k_lo Y)
section KV
variable {p : Program} {l : Launch} {e : Env} {s : State} {m : MethodId} {args : Array Value} {below : List Frame} {meth : Method} {c : Code} {g : va_G} {cA : Nat → ClassId} {A : Nat → Prop} {b : Nat} {ad0 : Nat → Nat} {n0 : Nat} {Q : State → Prop} {ad : Nat → Nat} {H : Heap} {locs : List Loc} {la : Array Slot}
variable {Y Y' : k_Y} {sc : k_Sc} {G G' : k_G} {pc : Nat} {ls : List (Nat × Value)} {st : List Value} {h : List k_O} {nc ns idx : Nat} {as : List Value}
theorem k_preOf (C : k_C Y sc p l s m args meth c g cA A b) (I : k_I Y sc s g cA A b ad0 n0 ad H locs h) : FrameBlind (va_Pc (as.map (k_v ad)) (k_Pre g cA ad H.size h)) ∧ ∀ U : State, U.heap = H → s.WarmedH U.vm → va_Pc (as.map (k_v ad)) (k_Pre g cA ad H.size h) (as.map (k_v ad)).toArray U := by
  refine ⟨k_blind, fun U hU hW => ⟨rfl, by rw [hU], by rw [hU]; exact I.1, va_K.moved hW.alike C.2.2.2.2.2.1, I.2.1.weaken (fun _ _ _ _ => trivial), ?_⟩⟩
  rw [hU]
  exact k_Fix.warm hW I.2.2.1.2.1 (k_inA (g := g) I.2.1 I.2.2.1 C.2.2.2.2.2.2.1) C.2.2.2.2.2.2.2.2.2.1
theorem k_runV {a : Nat} {fs : List Value} (C : k_C Y sc p l s m args meth c g cA A b) (I : k_I Y sc s g cA A b ad0 n0 ad H locs h) (hv : lv_has la (k_nL Y) (ls.map (fun q => (q.1, k_v ad q.2))))
    (hM : k_Met Y' (.ref a :: as) h G') (hok : k_okV Y.1 idx as.length Y' = true) (hrm : k_rm Y Y' = true) (hr : k_get h a = some (.inr (Y'.1, fs))) (hsum : Nat.ble (st.map fun v => v.category).sum 8 = true) (hd : decode (k_cc Y) pc = .ok (.invokevirtual idx, 3)) (hf : nc + G'.2.2.1 ≤ G.2.2.1 ∧ ns + G'.2.2.2 ≤ G.2.2.2) :
    vx_Run p l e (k_R Y G) s m args below meth c H locs nc ns G'.2.2.1 G'.2.2.2 (F0 m pc la ((as.reverse ++ .ref a :: st).map (k_v ad))) (st.map (k_v ad)) (k_Qc g cA ad h.length (va_A (k_w cA ad h) H.size) G'.1 G'.2.1 (((Value.ref a :: as).map (k_v ad)).toArray)) (k_XC g cA ad h.length (va_A (k_w cA ad h) H.size) G'.1 G'.2.1) (va_A (k_w cA ad h) H.size) := by
  unfold k_okV k_okB at hok
  simp only [Bool.and_eq_true, decide_eq_true_eq] at hok
  obtain ⟨⟨⟨⟨⟨⟨⟨⟨a1, a2⟩, a3⟩, a4⟩, a5⟩, a6⟩, a7⟩, a8⟩, a9⟩ := hok
  obtain ⟨r1, r2⟩ := k_and2 hrm
  obtain ⟨z, hz, hz1⟩ := k_cl_own (k_blt a7)
  have hws : k_ws Y' = Cond.code (k_nm Y') (k_cc Y') (k_nL Y') (k_rt Y') :: k_T := by unfold k_ws; rw [a1]
  have hG : GoodIn k_T (wsV (k_own Y.1) idx (k_nm Y').cls (k_nm Y') (k_ws Y')) := goodIn_app (k_good (fun w hw => by
    simp only [List.mem_cons, List.not_mem_nil, or_false] at hw
    rcases hw with rfl | rfl | rfl | rfl <;> assumption)) (k_wsT a1 a4)
  have hpre := k_preOf (as := .ref a :: as) C I
  have hrec := va_recv C.2.2.2.2.2.1 I.1 hz (k_w_get hr)
  rw [hz1, ← a6] at hrec
  have hst : (F0 m pc la ((as.reverse ++ .ref a :: st).map (k_v ad))).stack = (as.map (k_v ad)).reverse ++ .ref (ad a) :: st.map (k_v ad) := by
    simp [k_v]
  refine vx_runV (As := as.map (k_v ad)) (rest := st.map (k_v ad)) ⟨C.1, C.2.1, C.2.2.1, C.2.2.2.1, C.2.2.2.2.1⟩ (hM l C.2.2.2.2.2.2.2.2.1 g cA ad H.size) (cwV as.length C.2.2.2.2.1 hG hws rfl rfl ⟨rfl, a5⟩ ⟨Nat.le_of_ble_eq_true r1, Nat.le_of_ble_eq_true r2⟩) ⟨hpre.1, hrec, hpre.2⟩ rfl (by simp) hv.1 hst (lv_room (by rw [k_sum]; exact Nat.le_of_ble_eq_true hsum)) hd hf
theorem k_runS (C : k_C Y sc p l s m args meth c g cA A b) (I : k_I Y sc s g cA A b ad0 n0 ad H locs h) (hv : lv_has la (k_nL Y) (ls.map (fun q => (q.1, k_v ad q.2))))
    (hM : k_Met Y' as h G') (hok : k_okSt Y.1 idx as.length Y' = true) (hrm : k_rm Y Y' = true) (hsum : Nat.ble (st.map fun v => v.category).sum 8 = true) (hd : decode (k_cc Y) pc = .ok (.invokestatic idx, 3)) (hf : nc + G'.2.2.1 ≤ G.2.2.1 ∧ ns + G'.2.2.2 ≤ G.2.2.2) :
    vx_Run p l e (k_R Y G) s m args below meth c H locs nc ns G'.2.2.1 G'.2.2.2 (F0 m pc la ((as.reverse ++ st).map (k_v ad))) (st.map (k_v ad)) (k_Qc g cA ad h.length (va_A (k_w cA ad h) H.size) G'.1 G'.2.1 ((as.map (k_v ad)).toArray)) (k_XC g cA ad h.length (va_A (k_w cA ad h) H.size) G'.1 G'.2.1) (va_A (k_w cA ad h) H.size) := by
  unfold k_okSt k_okB at hok
  simp only [Bool.and_eq_true, decide_eq_true_eq] at hok
  obtain ⟨⟨⟨⟨⟨⟨a1, a2⟩, a3⟩, a4⟩, a5⟩, a6⟩, a8⟩ := hok
  obtain ⟨r1, r2⟩ := k_and2 hrm
  have hws : k_ws Y' = Cond.code (k_nm Y') (k_cc Y') (k_nL Y') (k_rt Y') :: k_T := by unfold k_ws; rw [a1]
  have hG : GoodIn k_T (va_wsS (k_own Y.1) idx (k_nm Y') (k_ws Y')) := goodIn_app (k_good (fun w hw => by
    simp only [List.mem_cons, List.not_mem_nil, or_false] at hw
    rcases hw with rfl | rfl | rfl <;> assumption)) (k_wsT a1 a4)
  have hpre := k_preOf (as := as) C I
  have hst : (F0 m pc la ((as.reverse ++ st).map (k_v ad))).stack = (as.map (k_v ad)).reverse ++ st.map (k_v ad) := by
    simp
  refine vx_runS (As := as.map (k_v ad)) (rest := st.map (k_v ad)) ⟨C.1, C.2.1, C.2.2.1, C.2.2.2.1, C.2.2.2.2.1⟩ (hM l C.2.2.2.2.2.2.2.2.1 g cA ad H.size) (va_cwS as.length C.2.2.2.2.1 hG hws rfl rfl a5 ⟨Nat.le_of_ble_eq_true r1, Nat.le_of_ble_eq_true r2⟩) ⟨hpre.1, hpre.2⟩ rfl (by simp) hv.1 hst (lv_room (by rw [k_sum]; exact Nat.le_of_ble_eq_true hsum)) hd hf
/-- behind a call that comes back -/
theorem k_backR {st0 : List Value} {aa : Array Value} {v : Option Value} (C : k_C Y sc p l s m args meth c g cA A b) (E : k_E Y sc G p l e s m args below meth c g cA A b ad0 n0 Q) (I : k_I Y sc s g cA A b ad0 n0 ad H locs h) (hv : lv_has la (k_nL Y) (ls.map (fun q => (q.1, k_v ad q.2))))
    (hr : vx_Run p l e (k_R Y G) s m args below meth c H locs nc ns G'.2.2.1 G'.2.2.2 (F0 m pc la st0) (st.map (k_v ad)) (k_Qc g cA ad h.length (va_A (k_w cA ad h) H.size) G'.1 G'.2.1 aa) (k_XC g cA ad h.length (va_A (k_w cA ad h) H.size) G'.1 G'.2.1) (va_A (k_w cA ad h) H.size))
    (hG : G'.1 = .inl v) (ho1 : ls.all (fun q => k_okv h.length q.2) = true) (ho2 : st.all (k_okv h.length) = true)
    (k : k_W Y sc G (pc + 3, ls, v.toList ++ st, G'.2.1, nc + G'.2.2.1, ns + G'.2.2.2)) : W p l e (k_R Y G) s m args below meth c H locs nc ns Q (F0 m pc la st0) := by
  have hin := k_inA (g := g) I.2.1 I.2.2.1 C.2.2.2.2.2.2.1
  intro T hT X
  rcases hr T hT X with ⟨w, st₀, t, T', L, h0, X', hL, e1, e2, ⟨⟨ad1, v1, q1, q2, q3, q4, q5, q6⟩, hF⟩, stp⟩ | ⟨q, st₀, t, T', L, E1, ce, h0, X', hL, e1, e2, ⟨⟨ad1, q1, q2, q3, q4, q5⟩, hF⟩, hce, hcv, hcl, stp⟩
  · rw [hG] at q4
    cases q4
    obtain ⟨k1, k2, k3⟩ := vx_keep h0 e1 I.2.2.1 (fun q _ hq => hin q hq) hin hL hF
    have hst : w.toList ++ st.map (k_v ad) = (v.toList ++ st).map (k_v ad1) := by
      have e5 : w = v.map (k_v ad1) := by injection q5
      have e6 : st.map (k_v ad) = st.map (k_v ad1) := List.map_congr_left (fun x hx => (k_v_eq (ad := ad) (ad' := ad1) q1 q3 (List.all_eq_true.mp ho2 x hx)).symm)
      rw [e5, e6, List.map_append]
      cases v <;> rfl
    have hv1 : lv_has la (k_nL Y) (ls.map (fun q => (q.1, k_v ad1 q.2))) := by
      have e7 : ls.map (fun q => (q.1, k_v ad1 q.2)) = ls.map (fun q => (q.1, k_v ad q.2)) := List.map_congr_left (fun x hx => by
        have := k_v_eq (ad := ad) (ad' := ad1) q1 q3 (List.all_eq_true.mp ho1 x hx)
        rw [this])
      rw [e7]; exact hv
    have I1 : k_I Y sc s g cA A b ad0 n0 ad1 T'.heap (locs ++ L) G'.2.1 := ⟨by rw [e1]; exact q6.1, q6.2.2.weaken (fun _ _ _ hq => hin _ hq), k3, fun i hi => (q1 i (Nat.lt_of_lt_of_le hi I.2.2.2.2.1)).trans (I.2.2.2.1 i hi), Nat.le_trans I.2.2.2.2.1 q2, fun hs => q3.trans (I.2.2.2.2.2.1 hs), q3.trans I.2.2.2.2.2.2⟩
    have hk := k p l e s m args below meth c g cA A b ad0 n0 Q C E ad1 T'.heap (locs ++ L) la I1 hv1
    dsimp only at hk
    rw [← hst] at hk
    obtain ⟨t2, a1, b1⟩ := hk T' rfl X'
    exact ⟨t2, stp t2 a1, b1⟩
  · rw [hG] at q4
    cases q4
/-- behind a call that throws, which nobody takes here -/
theorem k_backX {st0 : List Value} {aa : Array Value} {F : String} (C : k_C Y sc p l s m args meth c g cA A b) (E : k_E Y sc G p l e s m args below meth c g cA A b ad0 n0 Q) (I : k_I Y sc s g cA A b ad0 n0 ad H locs h)
    (hr : vx_Run p l e (k_R Y G) s m args below meth c H locs nc ns G'.2.2.1 G'.2.2.2 (F0 m pc la st0) (st.map (k_v ad)) (k_Qc g cA ad h.length (va_A (k_w cA ad h) H.size) G'.1 G'.2.1 aa) (k_XC g cA ad h.length (va_A (k_w cA ad h) H.size) G'.1 G'.2.1) (va_A (k_w cA ad h) H.size))
    (hG : G'.1 = .inr F) (hh : k_hh Y = []) (g1 : G.1 = .inr F) (g2 : G.2.1 = G'.2.1) (g3 : nc + G'.2.2.1 ≤ G.2.2.1) (g4 : ns + G'.2.2.2 ≤ G.2.2.2) : W p l e (k_R Y G) s m args below meth c H locs nc ns Q (F0 m pc la st0) := by
  have hin := k_inA (g := g) I.2.1 I.2.2.1 C.2.2.2.2.2.2.1
  intro T hT X
  rcases hr T hT X with ⟨w, st₀, t, T', L, h0, X', hL, e1, e2, ⟨⟨ad1, v1, q1, q2, q3, q4, q5, q6⟩, hF⟩, stp⟩ | ⟨q, st₀, t, T', L, E1, ce, h0, X', hL, e1, e2, ⟨⟨ad1, q1, q2, q3, q4, q6⟩, hF⟩, hce, hcv, hcl, stp⟩
  · rw [hG] at q4
    cases q4
  · rw [hG] at q4
    cases q4
    obtain ⟨k1, k2, k3⟩ := vx_keep h0 e1 I.2.2.1 (fun q _ hq => hin q hq) hin hL hF
    have I1 : k_I Y sc s g cA A b ad0 n0 ad1 T'.heap (locs ++ L) G.2.1 := by
      rw [g2]
      exact ⟨by rw [e1]; exact q6.1, q6.2.2.weaken (fun _ _ _ hq => hin _ hq), k3, fun i hi => (q1 i (Nat.lt_of_lt_of_le hi I.2.2.2.2.1)).trans (I.2.2.2.1 i hi), Nat.le_trans I.2.2.2.2.1 q2, fun hs => q3.trans (I.2.2.2.2.2.1 hs), q3.trans I.2.2.2.2.2.2⟩
    have hk := vx_widen g3 g4 (E.2.1 F g1 hh ad1 T'.heap (locs ++ L) la pc (st.map (k_v ad)) q ce I1 (by rw [e1]; exact hce) hcv hcl)
    obtain ⟨t2, a1, b1⟩ := hk T' rfl X'
    exact ⟨t2, stp.trans a1, b1⟩
theorem k_callV {a : Nat} {fs : List Value} {v : Option Value} (hM : k_Met Y' (.ref a :: as) h G') (hG : G'.1 = .inl v) (hok : k_okV Y.1 idx as.length Y' = true) (hrm : k_rm Y Y' = true) (hr : k_get h a = some (.inr (Y'.1, fs))) (hsum : Nat.ble (st.map fun v => v.category).sum 8 = true) (hd : decode (k_cc Y) pc = .ok (.invokevirtual idx, 3)) (hf1 : nc + G'.2.2.1 ≤ G.2.2.1) (hf2 : ns + G'.2.2.2 ≤ G.2.2.2)
    (ho1 : ls.all (fun q => k_okv h.length q.2) = true) (ho2 : st.all (k_okv h.length) = true) (k : k_W Y sc G (pc + 3, ls, v.toList ++ st, G'.2.1, nc + G'.2.2.1, ns + G'.2.2.2)) : k_W Y sc G (pc, ls, as.reverse ++ .ref a :: st, h, nc, ns) := by
  intro p l e s m args below meth c g cA A b ad0 n0 Q C E ad H locs la I hv
  exact k_backR C E I hv (k_runV C I hv hM hok hrm hr hsum hd ⟨hf1, hf2⟩) hG ho1 ho2 k
theorem k_callS {v : Option Value} (hM : k_Met Y' as h G') (hG : G'.1 = .inl v) (hok : k_okSt Y.1 idx as.length Y' = true) (hrm : k_rm Y Y' = true) (hsum : Nat.ble (st.map fun v => v.category).sum 8 = true) (hd : decode (k_cc Y) pc = .ok (.invokestatic idx, 3)) (hf1 : nc + G'.2.2.1 ≤ G.2.2.1) (hf2 : ns + G'.2.2.2 ≤ G.2.2.2)
    (ho1 : ls.all (fun q => k_okv h.length q.2) = true) (ho2 : st.all (k_okv h.length) = true) (k : k_W Y sc G (pc + 3, ls, v.toList ++ st, G'.2.1, nc + G'.2.2.1, ns + G'.2.2.2)) : k_W Y sc G (pc, ls, as.reverse ++ st, h, nc, ns) := by
  intro p l e s m args below meth c g cA A b ad0 n0 Q C E ad H locs la I hv
  exact k_backR C E I hv (k_runS C I hv hM hok hrm hsum hd ⟨hf1, hf2⟩) hG ho1 ho2 k
theorem k_callVX {a : Nat} {fs : List Value} {F : String} (hM : k_Met Y' (.ref a :: as) h G') (hG : G'.1 = .inr F) (hok : k_okV Y.1 idx as.length Y' = true) (hrm : k_rm Y Y' = true) (hr : k_get h a = some (.inr (Y'.1, fs))) (hsum : Nat.ble (st.map fun v => v.category).sum 8 = true) (hd : decode (k_cc Y) pc = .ok (.invokevirtual idx, 3)) (hf1 : nc + G'.2.2.1 ≤ G.2.2.1) (hf2 : ns + G'.2.2.2 ≤ G.2.2.2)
    (hh : k_hh Y = []) (g1 : G.1 = .inr F) (g2 : G.2.1 = G'.2.1) : k_W Y sc G (pc, ls, as.reverse ++ .ref a :: st, h, nc, ns) := by
  intro p l e s m args below meth c g cA A b ad0 n0 Q C E ad H locs la I hv
  exact k_backX C E I (k_runV C I hv hM hok hrm hr hsum hd ⟨hf1, hf2⟩) hG hh g1 g2 hf1 hf2
end KV
end
