section
-- ===== PART A: goes FIRST, ahead of the names: the tables' words, and 'selects' of the private methods out of them =====
/-- a private method of a class that the tables say can be made, by its rows of tables_1 -/
def lw_okq (q : MethodName × Nat) : Prop := (q.1.cls ≠ "java/lang/invoke/MethodHandle" ∧ q.1.cls ≠ "java/lang/invoke/VarHandle") ∧ Cond.instantiable q.1.cls q.2 ∈ tables_1 ∧ Cond.privateMethod q.1 ∈ tables_1 ∧ Cond.instanceMethod q.1 ∈ tables_1
theorem lw_p0 : lw_okq (⟨"NightDots$PairList", "findBits", "()V"⟩, 11) := ⟨⟨by decide +kernel, by decide +kernel⟩, List.mem_of_getElem? (i := 109) (by decide +kernel), List.mem_of_getElem? (i := 387) (by decide +kernel), List.mem_of_getElem? (i := 388) (by decide +kernel)⟩
theorem lw_p1 : lw_okq (⟨"NightDots$PairList", "keepBit", "(II)V"⟩, 11) := ⟨⟨by decide +kernel, by decide +kernel⟩, List.mem_of_getElem? (i := 109) (by decide +kernel), List.mem_of_getElem? (i := 392) (by decide +kernel), List.mem_of_getElem? (i := 393) (by decide +kernel)⟩
theorem lw_p2 : lw_okq (⟨"NightDots$PairList", "findPairs", "()V"⟩, 11) := ⟨⟨by decide +kernel, by decide +kernel⟩, List.mem_of_getElem? (i := 109) (by decide +kernel), List.mem_of_getElem? (i := 396) (by decide +kernel), List.mem_of_getElem? (i := 397) (by decide +kernel)⟩
theorem lw_p3 : lw_okq (⟨"NightDots$PairList", "areOfUnlikeNights", "(II)Z"⟩, 11) := ⟨⟨by decide +kernel, by decide +kernel⟩, List.mem_of_getElem? (i := 109) (by decide +kernel), List.mem_of_getElem? (i := 412) (by decide +kernel), List.mem_of_getElem? (i := 413) (by decide +kernel)⟩
theorem lw_p4 : lw_okq (⟨"NightDots$Net", "isSoundBy", "(LNightDots$Row;I)Z"⟩, 5) := ⟨⟨by decide +kernel, by decide +kernel⟩, List.mem_of_getElem? (i := 63) (by decide +kernel), List.mem_of_getElem? (i := 421) (by decide +kernel), List.mem_of_getElem? (i := 422) (by decide +kernel)⟩
theorem lw_p5 : lw_okq (⟨"NightDots$Net", "span", "(LNightDots$Row;II)Z"⟩, 5) := ⟨⟨by decide +kernel, by decide +kernel⟩, List.mem_of_getElem? (i := 63) (by decide +kernel), List.mem_of_getElem? (i := 425) (by decide +kernel), List.mem_of_getElem? (i := 426) (by decide +kernel)⟩
theorem lw_p6 : lw_okq (⟨"NightDots$PairList", "keepPair", "(II)V"⟩, 11) := ⟨⟨by decide +kernel, by decide +kernel⟩, List.mem_of_getElem? (i := 109) (by decide +kernel), List.mem_of_getElem? (i := 442) (by decide +kernel), List.mem_of_getElem? (i := 443) (by decide +kernel)⟩
theorem lw_p7 : lw_okq (⟨"NightDots", "begin", "(I)I"⟩, 8) := ⟨⟨by decide +kernel, by decide +kernel⟩, List.mem_of_getElem? (i := 16) (by decide +kernel), List.mem_of_getElem? (i := 458) (by decide +kernel), List.mem_of_getElem? (i := 459) (by decide +kernel)⟩
theorem lw_p8 : lw_okq (⟨"NightDots", "changeRow", "(I)LNightDots$Act;"⟩, 8) := ⟨⟨by decide +kernel, by decide +kernel⟩, List.mem_of_getElem? (i := 16) (by decide +kernel), List.mem_of_getElem? (i := 466) (by decide +kernel), List.mem_of_getElem? (i := 467) (by decide +kernel)⟩
theorem lw_p9 : lw_okq (⟨"NightDots", "joinGroup", "(I)I"⟩, 8) := ⟨⟨by decide +kernel, by decide +kernel⟩, List.mem_of_getElem? (i := 16) (by decide +kernel), List.mem_of_getElem? (i := 511) (by decide +kernel), List.mem_of_getElem? (i := 512) (by decide +kernel)⟩
theorem lw_p10 : lw_okq (⟨"NightDots", "lengthen", "(I)I"⟩, 8) := ⟨⟨by decide +kernel, by decide +kernel⟩, List.mem_of_getElem? (i := 16) (by decide +kernel), List.mem_of_getElem? (i := 515) (by decide +kernel), List.mem_of_getElem? (i := 516) (by decide +kernel)⟩
theorem lw_p11 : lw_okq (⟨"NightDots$Net", "linesBy", "(LNightDots$Row;I)J"⟩, 5) := ⟨⟨by decide +kernel, by decide +kernel⟩, List.mem_of_getElem? (i := 63) (by decide +kernel), List.mem_of_getElem? (i := 542) (by decide +kernel), List.mem_of_getElem? (i := 543) (by decide +kernel)⟩
theorem lw_p12 : lw_okq (⟨"NightDots$Net", "reachesBy", "(LNightDots$Row;II)Z"⟩, 5) := ⟨⟨by decide +kernel, by decide +kernel⟩, List.mem_of_getElem? (i := 63) (by decide +kernel), List.mem_of_getElem? (i := 566) (by decide +kernel), List.mem_of_getElem? (i := 567) (by decide +kernel)⟩
theorem lw_p13 : lw_okq (⟨"NightDots", "lay", "(II)Z"⟩, 8) := ⟨⟨by decide +kernel, by decide +kernel⟩, List.mem_of_getElem? (i := 16) (by decide +kernel), List.mem_of_getElem? (i := 575) (by decide +kernel), List.mem_of_getElem? (i := 576) (by decide +kernel)⟩
theorem lw_p14 : lw_okq (⟨"NightDots", "parting", "(LNightDots$Row;)I"⟩, 8) := ⟨⟨by decide +kernel, by decide +kernel⟩, List.mem_of_getElem? (i := 16) (by decide +kernel), List.mem_of_getElem? (i := 617) (by decide +kernel), List.mem_of_getElem? (i := 618) (by decide +kernel)⟩
theorem lw_p15 : lw_okq (⟨"NightDots", "keepStaying", "(LNightDots$Row;I)V"⟩, 8) := ⟨⟨by decide +kernel, by decide +kernel⟩, List.mem_of_getElem? (i := 16) (by decide +kernel), List.mem_of_getElem? (i := 627) (by decide +kernel), List.mem_of_getElem? (i := 628) (by decide +kernel)⟩
def lw_privs_1 : List (MethodName × Nat) := [(⟨"NightDots$PairList", "findBits", "()V"⟩, 11), (⟨"NightDots$PairList", "keepBit", "(II)V"⟩, 11), (⟨"NightDots$PairList", "findPairs", "()V"⟩, 11), (⟨"NightDots$PairList", "areOfUnlikeNights", "(II)Z"⟩, 11), (⟨"NightDots$Net", "isSoundBy", "(LNightDots$Row;I)Z"⟩, 5), (⟨"NightDots$Net", "span", "(LNightDots$Row;II)Z"⟩, 5), (⟨"NightDots$PairList", "keepPair", "(II)V"⟩, 11), (⟨"NightDots", "begin", "(I)I"⟩, 8), (⟨"NightDots", "changeRow", "(I)LNightDots$Act;"⟩, 8), (⟨"NightDots", "joinGroup", "(I)I"⟩, 8), (⟨"NightDots", "lengthen", "(I)I"⟩, 8), (⟨"NightDots$Net", "linesBy", "(LNightDots$Row;I)J"⟩, 5), (⟨"NightDots$Net", "reachesBy", "(LNightDots$Row;II)Z"⟩, 5), (⟨"NightDots", "lay", "(II)Z"⟩, 8), (⟨"NightDots", "parting", "(LNightDots$Row;)I"⟩, 8), (⟨"NightDots", "keepStaying", "(LNightDots$Row;I)V"⟩, 8)]
theorem lw_r1 : ∀ q ∈ lw_privs_1, lw_okq q := List.forall_mem_cons.mpr ⟨lw_p0, List.forall_mem_cons.mpr ⟨lw_p1, List.forall_mem_cons.mpr ⟨lw_p2, List.forall_mem_cons.mpr ⟨lw_p3, List.forall_mem_cons.mpr ⟨lw_p4, List.forall_mem_cons.mpr ⟨lw_p5, List.forall_mem_cons.mpr ⟨lw_p6, List.forall_mem_cons.mpr ⟨lw_p7, List.forall_mem_cons.mpr ⟨lw_p8, List.forall_mem_cons.mpr ⟨lw_p9, List.forall_mem_cons.mpr ⟨lw_p10, List.forall_mem_cons.mpr ⟨lw_p11, List.forall_mem_cons.mpr ⟨lw_p12, List.forall_mem_cons.mpr ⟨lw_p13, List.forall_mem_cons.mpr ⟨lw_p14, List.forall_mem_cons.mpr ⟨lw_p15, fun _ h => absurd h List.not_mem_nil⟩⟩⟩⟩⟩⟩⟩⟩⟩⟩⟩⟩⟩⟩⟩⟩
theorem lw_p16 : lw_okq (⟨"NightDots", "gatherBoth", "(II)V"⟩, 8) := ⟨⟨by decide +kernel, by decide +kernel⟩, List.mem_of_getElem? (i := 16) (by decide +kernel), List.mem_of_getElem? (i := 635) (by decide +kernel), List.mem_of_getElem? (i := 636) (by decide +kernel)⟩
theorem lw_p17 : lw_okq (⟨"NightDotsModel", "isDot", "(I)Z"⟩, 36) := ⟨⟨by decide +kernel, by decide +kernel⟩, List.mem_of_getElem? (i := 672) (by decide +kernel), List.mem_of_getElem? (i := 807) (by decide +kernel), List.mem_of_getElem? (i := 808) (by decide +kernel)⟩
theorem lw_p18 : lw_okq (⟨"NightDotsModel", "night", "(I)I"⟩, 36) := ⟨⟨by decide +kernel, by decide +kernel⟩, List.mem_of_getElem? (i := 672) (by decide +kernel), List.mem_of_getElem? (i := 811) (by decide +kernel), List.mem_of_getElem? (i := 812) (by decide +kernel)⟩
theorem lw_p19 : lw_okq (⟨"NightDotsModel", "findBits", "()V"⟩, 36) := ⟨⟨by decide +kernel, by decide +kernel⟩, List.mem_of_getElem? (i := 672) (by decide +kernel), List.mem_of_getElem? (i := 819) (by decide +kernel), List.mem_of_getElem? (i := 820) (by decide +kernel)⟩
theorem lw_p20 : lw_okq (⟨"NightDotsModel", "isNear", "(II)Z"⟩, 36) := ⟨⟨by decide +kernel, by decide +kernel⟩, List.mem_of_getElem? (i := 672) (by decide +kernel), List.mem_of_getElem? (i := 823) (by decide +kernel), List.mem_of_getElem? (i := 824) (by decide +kernel)⟩
theorem lw_p21 : lw_okq (⟨"NightDotsModel", "findPairs", "()Z"⟩, 36) := ⟨⟨by decide +kernel, by decide +kernel⟩, List.mem_of_getElem? (i := 672) (by decide +kernel), List.mem_of_getElem? (i := 836) (by decide +kernel), List.mem_of_getElem? (i := 837) (by decide +kernel)⟩
theorem lw_p22 : lw_okq (⟨"NightDotsModel", "adds", "(I)V"⟩, 36) := ⟨⟨by decide +kernel, by decide +kernel⟩, List.mem_of_getElem? (i := 672) (by decide +kernel), List.mem_of_getElem? (i := 840) (by decide +kernel), List.mem_of_getElem? (i := 841) (by decide +kernel)⟩
theorem lw_p23 : lw_okq (⟨"NightDotsModel", "isHeap", "()Z"⟩, 36) := ⟨⟨by decide +kernel, by decide +kernel⟩, List.mem_of_getElem? (i := 672) (by decide +kernel), List.mem_of_getElem? (i := 844) (by decide +kernel), List.mem_of_getElem? (i := 845) (by decide +kernel)⟩
theorem lw_p24 : lw_okq (⟨"NightDotsModel", "allLines", "(I)J"⟩, 36) := ⟨⟨by decide +kernel, by decide +kernel⟩, List.mem_of_getElem? (i := 672) (by decide +kernel), List.mem_of_getElem? (i := 848) (by decide +kernel), List.mem_of_getElem? (i := 849) (by decide +kernel)⟩
theorem lw_p25 : lw_okq (⟨"NightDotsModel", "lines", "(II)I"⟩, 36) := ⟨⟨by decide +kernel, by decide +kernel⟩, List.mem_of_getElem? (i := 672) (by decide +kernel), List.mem_of_getElem? (i := 852) (by decide +kernel), List.mem_of_getElem? (i := 853) (by decide +kernel)⟩
theorem lw_p26 : lw_okq (⟨"NightDotsModel", "placeOf", "(II)I"⟩, 36) := ⟨⟨by decide +kernel, by decide +kernel⟩, List.mem_of_getElem? (i := 672) (by decide +kernel), List.mem_of_getElem? (i := 856) (by decide +kernel), List.mem_of_getElem? (i := 857) (by decide +kernel)⟩
theorem lw_p27 : lw_okq (⟨"NightDotsModel", "own", "()V"⟩, 36) := ⟨⟨by decide +kernel, by decide +kernel⟩, List.mem_of_getElem? (i := 672) (by decide +kernel), List.mem_of_getElem? (i := 871) (by decide +kernel), List.mem_of_getElem? (i := 872) (by decide +kernel)⟩
theorem lw_p28 : lw_okq (⟨"NightDotsModel", "begins", "(I)I"⟩, 36) := ⟨⟨by decide +kernel, by decide +kernel⟩, List.mem_of_getElem? (i := 672) (by decide +kernel), List.mem_of_getElem? (i := 879) (by decide +kernel), List.mem_of_getElem? (i := 880) (by decide +kernel)⟩
theorem lw_p29 : lw_okq (⟨"NightDotsModel", "keep", "()V"⟩, 36) := ⟨⟨by decide +kernel, by decide +kernel⟩, List.mem_of_getElem? (i := 672) (by decide +kernel), List.mem_of_getElem? (i := 883) (by decide +kernel), List.mem_of_getElem? (i := 884) (by decide +kernel)⟩
theorem lw_p30 : lw_okq (⟨"NightDotsModel", "comes", "(II)V"⟩, 36) := ⟨⟨by decide +kernel, by decide +kernel⟩, List.mem_of_getElem? (i := 672) (by decide +kernel), List.mem_of_getElem? (i := 887) (by decide +kernel), List.mem_of_getElem? (i := 888) (by decide +kernel)⟩
theorem lw_p31 : lw_okq (⟨"NightDotsModel", "isPath", "(I)Z"⟩, 36) := ⟨⟨by decide +kernel, by decide +kernel⟩, List.mem_of_getElem? (i := 672) (by decide +kernel), List.mem_of_getElem? (i := 899) (by decide +kernel), List.mem_of_getElem? (i := 900) (by decide +kernel)⟩
def lw_privs_2 : List (MethodName × Nat) := [(⟨"NightDots", "gatherBoth", "(II)V"⟩, 8), (⟨"NightDotsModel", "isDot", "(I)Z"⟩, 36), (⟨"NightDotsModel", "night", "(I)I"⟩, 36), (⟨"NightDotsModel", "findBits", "()V"⟩, 36), (⟨"NightDotsModel", "isNear", "(II)Z"⟩, 36), (⟨"NightDotsModel", "findPairs", "()Z"⟩, 36), (⟨"NightDotsModel", "adds", "(I)V"⟩, 36), (⟨"NightDotsModel", "isHeap", "()Z"⟩, 36), (⟨"NightDotsModel", "allLines", "(I)J"⟩, 36), (⟨"NightDotsModel", "lines", "(II)I"⟩, 36), (⟨"NightDotsModel", "placeOf", "(II)I"⟩, 36), (⟨"NightDotsModel", "own", "()V"⟩, 36), (⟨"NightDotsModel", "begins", "(I)I"⟩, 36), (⟨"NightDotsModel", "keep", "()V"⟩, 36), (⟨"NightDotsModel", "comes", "(II)V"⟩, 36), (⟨"NightDotsModel", "isPath", "(I)Z"⟩, 36)]
theorem lw_r2 : ∀ q ∈ lw_privs_2, lw_okq q := List.forall_mem_cons.mpr ⟨lw_p16, List.forall_mem_cons.mpr ⟨lw_p17, List.forall_mem_cons.mpr ⟨lw_p18, List.forall_mem_cons.mpr ⟨lw_p19, List.forall_mem_cons.mpr ⟨lw_p20, List.forall_mem_cons.mpr ⟨lw_p21, List.forall_mem_cons.mpr ⟨lw_p22, List.forall_mem_cons.mpr ⟨lw_p23, List.forall_mem_cons.mpr ⟨lw_p24, List.forall_mem_cons.mpr ⟨lw_p25, List.forall_mem_cons.mpr ⟨lw_p26, List.forall_mem_cons.mpr ⟨lw_p27, List.forall_mem_cons.mpr ⟨lw_p28, List.forall_mem_cons.mpr ⟨lw_p29, List.forall_mem_cons.mpr ⟨lw_p30, List.forall_mem_cons.mpr ⟨lw_p31, fun _ h => absurd h List.not_mem_nil⟩⟩⟩⟩⟩⟩⟩⟩⟩⟩⟩⟩⟩⟩⟩⟩
theorem lw_p32 : lw_okq (⟨"NightDotsModel", "take", "(I)V"⟩, 36) := ⟨⟨by decide +kernel, by decide +kernel⟩, List.mem_of_getElem? (i := 672) (by decide +kernel), List.mem_of_getElem? (i := 903) (by decide +kernel), List.mem_of_getElem? (i := 904) (by decide +kernel)⟩
theorem lw_p33 : lw_okq (⟨"NightDotsModel", "isSound", "(I)Z"⟩, 36) := ⟨⟨by decide +kernel, by decide +kernel⟩, List.mem_of_getElem? (i := 672) (by decide +kernel), List.mem_of_getElem? (i := 919) (by decide +kernel), List.mem_of_getElem? (i := 920) (by decide +kernel)⟩
theorem lw_p34 : lw_okq (⟨"NightDotsModel", "ahead0", "(II)V"⟩, 36) := ⟨⟨by decide +kernel, by decide +kernel⟩, List.mem_of_getElem? (i := 672) (by decide +kernel), List.mem_of_getElem? (i := 933) (by decide +kernel), List.mem_of_getElem? (i := 934) (by decide +kernel)⟩
theorem lw_p35 : lw_okq (⟨"NightDotsModel", "isWithin", "(II)Z"⟩, 36) := ⟨⟨by decide +kernel, by decide +kernel⟩, List.mem_of_getElem? (i := 672) (by decide +kernel), List.mem_of_getElem? (i := 947) (by decide +kernel), List.mem_of_getElem? (i := 948) (by decide +kernel)⟩
theorem lw_p36 : lw_okq (⟨"NightDotsModel", "fits", "(II)Z"⟩, 36) := ⟨⟨by decide +kernel, by decide +kernel⟩, List.mem_of_getElem? (i := 672) (by decide +kernel), List.mem_of_getElem? (i := 955) (by decide +kernel), List.mem_of_getElem? (i := 956) (by decide +kernel)⟩
theorem lw_p37 : lw_okq (⟨"NightDotsModel", "isSoundWithout", "(II)Z"⟩, 36) := ⟨⟨by decide +kernel, by decide +kernel⟩, List.mem_of_getElem? (i := 672) (by decide +kernel), List.mem_of_getElem? (i := 976) (by decide +kernel), List.mem_of_getElem? (i := 977) (by decide +kernel)⟩
theorem lw_p38 : lw_okq (⟨"NightDotsModel", "areSame", "(II)Z"⟩, 36) := ⟨⟨by decide +kernel, by decide +kernel⟩, List.mem_of_getElem? (i := 672) (by decide +kernel), List.mem_of_getElem? (i := 984) (by decide +kernel), List.mem_of_getElem? (i := 985) (by decide +kernel)⟩
def lw_privs_3 : List (MethodName × Nat) := [(⟨"NightDotsModel", "take", "(I)V"⟩, 36), (⟨"NightDotsModel", "isSound", "(I)Z"⟩, 36), (⟨"NightDotsModel", "ahead0", "(II)V"⟩, 36), (⟨"NightDotsModel", "isWithin", "(II)Z"⟩, 36), (⟨"NightDotsModel", "fits", "(II)Z"⟩, 36), (⟨"NightDotsModel", "isSoundWithout", "(II)Z"⟩, 36), (⟨"NightDotsModel", "areSame", "(II)Z"⟩, 36)]
theorem lw_r3 : ∀ q ∈ lw_privs_3, lw_okq q := List.forall_mem_cons.mpr ⟨lw_p32, List.forall_mem_cons.mpr ⟨lw_p33, List.forall_mem_cons.mpr ⟨lw_p34, List.forall_mem_cons.mpr ⟨lw_p35, List.forall_mem_cons.mpr ⟨lw_p36, List.forall_mem_cons.mpr ⟨lw_p37, List.forall_mem_cons.mpr ⟨lw_p38, fun _ h => absurd h List.not_mem_nil⟩⟩⟩⟩⟩⟩⟩
def lw_privs : List (MethodName × Nat) := lw_privs_1 ++ (lw_privs_2 ++ (lw_privs_3))
def lw_tbl : List Cond := k2_sels lw_privs ++ tables_1
theorem lw_privs_ok : ∀ q ∈ lw_privs, lw_okq q := by
  show ∀ q ∈ lw_privs_1 ++ (lw_privs_2 ++ (lw_privs_3)), lw_okq q
  exact List.forall_mem_append.mpr ⟨lw_r1, List.forall_mem_append.mpr ⟨lw_r2, lw_r3⟩⟩
end
section
/-! ===== BEGIN words of one list among another's, by their places ===== -/
theorem goodIn_r {big : List Cond} (ws : List Cond) (ps : List Nat) (hp : ws = ps.filterMap (fun i => big[i]?)) (h : ws.all goodWord = true) : GoodIn big ws := by
  intro w hw
  have h1 := List.all_eq_true.mp h w hw
  rw [hp] at hw
  obtain ⟨i, -, hi⟩ := List.mem_filterMap.mp hw
  have hm : w ∈ big := by first | exact List.mem_of_getElem? hi | exact List.getElem?_mem hi
  exact ⟨hm, good_of_word h1⟩
theorem goodIn_app {big a b : List Cond} (ha : GoodIn big a) (hb : GoodIn big b) : GoodIn big (a ++ b) := fun w h => (List.mem_append.mp h).elim (ha w) (hb w)
theorem goodIn_ca {big a b : List Cond} {c : Cond} (ha : GoodIn big (c :: a)) (hb : GoodIn big b) : GoodIn big (c :: (a ++ b)) := fun w h => (List.mem_cons.mp h).elim (fun e => ha w (List.mem_cons.mpr (Or.inl e))) (fun h => (List.mem_append.mp h).elim (fun h => ha w (List.mem_cons.mpr (Or.inr h))) (hb w))
theorem goodIn_sub {big ws : List Cond} (hm : ∀ w ∈ ws, w ∈ big) (h : ws.all goodWord = true) : GoodIn big ws := fun w hw => ⟨hm w hw, good_of_word (List.all_eq_true.mp h w hw)⟩
/-! ===== END ===== -/

/-! ===== BEGIN printed: names, fields, word lists, decode rows ===== -/
def RX0 : String := "NightDots$Act"
def TX0 : u_T := fun k => match k with
  | 0 => ("NightDots$Act", "path", "I", false)
  | 1 => ("NightDots$Act", "born", "Z", false)
  | 2 => ("NightDots$Act", "swallowed", "I", false)
  | _ => ("NightDots$Act", "before", "LNightDots$Row;", true)
def tyX0 : Nat → FieldType := fun k => match k with
  | 0 => .int
  | 1 => .boolean
  | 2 => .int
  | _ => .object "NightDots$Row"
abbrev wsX00 : List Cond := u_ws RX0 TX0 4
theorem nmX0 : ∀ a, a < 4 → ∀ b, b < 4 → a ≠ b → (TX0 a).2.1 ≠ (TX0 b).2.1 := by decide +kernel
theorem tyX0_ok : ∀ k, k < 4 → parseFieldDescriptor (TX0 k).2.2.1 = some (tyX0 k) := by decide +kernel
abbrev cX0_init : ByteArray := prog_2_method_1_code
def yX0_init : MethodName := ⟨RX0, "<init>", "()V"⟩
def RX1 : String := "NightDots$Acts"
def TX1 : u_T := fun k => match k with
  | 0 => ("NightDots$Acts", "ring", "[LNightDots$Act;", true)
  | 1 => ("NightDots$Acts", "next", "I", false)
  | _ => ("NightDots$Acts", "kept", "I", false)
def tyX1 : Nat → FieldType := fun k => match k with
  | 0 => .array (.object "NightDots$Act")
  | 1 => .int
  | _ => .int
abbrev wsX10 : List Cond := u_ws RX1 TX1 3
theorem nmX1 : ∀ a, a < 3 → ∀ b, b < 3 → a ≠ b → (TX1 a).2.1 ≠ (TX1 b).2.1 := by decide +kernel
theorem tyX1_ok : ∀ k, k < 3 → parseFieldDescriptor (TX1 k).2.2.1 = some (tyX1 k) := by decide +kernel
abbrev cX1_init : ByteArray := prog_3_method_1_code
def yX1_init : MethodName := ⟨RX1, "<init>", "()V"⟩
abbrev cX1_keep : ByteArray := prog_3_method_2_code
def yX1_keep : MethodName := ⟨RX1, "keep", "(ILNightDots$Row;)LNightDots$Act;"⟩
abbrev cX1_takeLatest : ByteArray := prog_3_method_3_code
def yX1_takeLatest : MethodName := ⟨RX1, "takeLatest", "()LNightDots$Act;"⟩
abbrev cX1_forgetAll : ByteArray := prog_3_method_4_code
def yX1_forgetAll : MethodName := ⟨RX1, "forgetAll", "()V"⟩
def RX2 : String := "NightDots$BitList"
def TX2 : u_T := fun k => match k with
  | 0 => ("NightDots$BitList", "sky", "LNightDots$Sky;", true)
  | 1 => ("NightDots$BitList", "pace", "I", false)
  | 2 => ("NightDots$BitList", "first", "I", false)
  | _ => ("NightDots$BitList", "second", "I", false)
def tyX2 : Nat → FieldType := fun k => match k with
  | 0 => .object "NightDots$Sky"
  | 1 => .int
  | 2 => .int
  | _ => .int
abbrev wsX20 : List Cond := u_ws RX2 TX2 4
theorem nmX2 : ∀ a, a < 4 → ∀ b, b < 4 → a ≠ b → (TX2 a).2.1 ≠ (TX2 b).2.1 := by decide +kernel
theorem tyX2_ok : ∀ k, k < 4 → parseFieldDescriptor (TX2 k).2.2.1 = some (tyX2 k) := by decide +kernel
abbrev cX2_init : ByteArray := prog_4_method_1_code
def yX2_init : MethodName := ⟨RX2, "<init>", "(LNightDots$Sky;)V"⟩
abbrev cX2_isBit : ByteArray := prog_4_method_2_code
def yX2_isBit : MethodName := ⟨RX2, "isBit", "(II)Z"⟩
abbrev cX2_total : ByteArray := prog_4_method_3_code
def yX2_total : MethodName := ⟨RX2, "total", "()I"⟩
abbrev cX2_seek : ByteArray := prog_4_method_4_code
def yX2_seek : MethodName := ⟨RX2, "seek", "(I)Z"⟩
def RX3 : String := "NightDots$Line"
def TX3 : u_T := fun k => match k with
  | 0 => ("NightDots$Line", "dots", "J", false)
  | 1 => ("NightDots$Line", "hours", "J", false)
  | 2 => ("NightDots$Line", "places", "J", false)
  | 3 => ("NightDots$Line", "speedTop", "J", false)
  | _ => ("NightDots$Line", "speedBelow", "J", false)
def tyX3 : Nat → FieldType := fun k => match k with
  | 0 => .long
  | 1 => .long
  | 2 => .long
  | 3 => .long
  | _ => .long
abbrev wsX30 : List Cond := u_ws RX3 TX3 5
theorem nmX3 : ∀ a, a < 5 → ∀ b, b < 5 → a ≠ b → (TX3 a).2.1 ≠ (TX3 b).2.1 := by decide +kernel
theorem tyX3_ok : ∀ k, k < 5 → parseFieldDescriptor (TX3 k).2.2.1 = some (tyX3 k) := by decide +kernel
abbrev cX3_init : ByteArray := prog_5_method_1_code
def yX3_init : MethodName := ⟨RX3, "<init>", "()V"⟩
abbrev cX3_through : ByteArray := prog_5_method_2_code
def yX3_through : MethodName := ⟨RX3, "through", "(LNightDots$Sky;LNightDots$Row;I)Z"⟩
abbrev cX3_placeTop : ByteArray := prog_5_method_3_code
def yX3_placeTop : MethodName := ⟨RX3, "placeTop", "()J"⟩
abbrev cX3_placeBelow : ByteArray := prog_5_method_4_code
def yX3_placeBelow : MethodName := ⟨RX3, "placeBelow", "()J"⟩
abbrev cX3_missTop : ByteArray := prog_5_method_5_code
def yX3_missTop : MethodName := ⟨RX3, "missTop", "(JJ)J"⟩
abbrev cX3_reduced : ByteArray := prog_5_method_6_code
def yX3_reduced : MethodName := ⟨RX3, "reduced", "(JJI)J"⟩
abbrev cX3_commonDivisor : ByteArray := prog_5_method_7_code
def yX3_commonDivisor : MethodName := ⟨RX3, "commonDivisor", "(JJ)J"⟩
def RX4 : String := "NightDots$Net"
def TX4 : u_T := fun k => match k with
  | 0 => ("NightDots$Net", "sky", "LNightDots$Sky;", true)
  | 1 => ("NightDots$Net", "grid", "I", false)
  | 2 => ("NightDots$Net", "end", "I", false)
  | 3 => ("NightDots$Net", "least", "I", false)
  | _ => ("NightDots$Net", "greatest", "I", false)
def tyX4 : Nat → FieldType := fun k => match k with
  | 0 => .object "NightDots$Sky"
  | 1 => .int
  | 2 => .int
  | 3 => .int
  | _ => .int
abbrev wsX40 : List Cond := u_ws RX4 TX4 5
theorem nmX4 : ∀ a, a < 5 → ∀ b, b < 5 → a ≠ b → (TX4 a).2.1 ≠ (TX4 b).2.1 := by decide +kernel
theorem tyX4_ok : ∀ k, k < 5 → parseFieldDescriptor (TX4 k).2.2.1 = some (tyX4 k) := by decide +kernel
abbrev cX4_init : ByteArray := prog_6_method_1_code
def yX4_init : MethodName := ⟨RX4, "<init>", "(LNightDots$Sky;)V"⟩
abbrev cX4_span : ByteArray := prog_6_method_2_code
def yX4_span : MethodName := ⟨RX4, "span", "(LNightDots$Row;II)Z"⟩
abbrev cX4_linesBy : ByteArray := prog_6_method_3_code
def yX4_linesBy : MethodName := ⟨RX4, "linesBy", "(LNightDots$Row;I)J"⟩
abbrev cX4_linesOf : ByteArray := prog_6_method_4_code
def yX4_linesOf : MethodName := ⟨RX4, "linesOf", "(LNightDots$Row;)J"⟩
abbrev cX4_isSoundBy : ByteArray := prog_6_method_5_code
def yX4_isSoundBy : MethodName := ⟨RX4, "isSoundBy", "(LNightDots$Row;I)Z"⟩
abbrev cX4_isSound : ByteArray := prog_6_method_6_code
def yX4_isSound : MethodName := ⟨RX4, "isSound", "(LNightDots$Row;)Z"⟩
abbrev cX4_edge : ByteArray := prog_6_method_7_code
def yX4_edge : MethodName := ⟨RX4, "edge", "(LNightDots$Row;IIZ)J"⟩
abbrev cX4_reachesBy : ByteArray := prog_6_method_8_code
def yX4_reachesBy : MethodName := ⟨RX4, "reachesBy", "(LNightDots$Row;II)Z"⟩
abbrev cX4_reaches : ByteArray := prog_6_method_9_code
def yX4_reaches : MethodName := ⟨RX4, "reaches", "(LNightDots$Row;I)Z"⟩
def RX5 : String := "NightDots$PairList"
def TX5 : u_T := fun k => match k with
  | 0 => ("NightDots$PairList", "sky", "LNightDots$Sky;", true)
  | 1 => ("NightDots$PairList", "lines", "LNightDots$Net;", true)
  | 2 => ("NightDots$PairList", "twos", "LNightDots$BitList;", true)
  | 3 => ("NightDots$PairList", "one", "[I", true)
  | 4 => ("NightDots$PairList", "other", "[I", true)
  | 5 => ("NightDots$PairList", "first", "[I", true)
  | 6 => ("NightDots$PairList", "second", "[I", true)
  | 7 => ("NightDots$PairList", "four", "LNightDots$Row;", true)
  | 8 => ("NightDots$PairList", "bitsFound", "I", false)
  | 9 => ("NightDots$PairList", "found", "I", false)
  | _ => ("NightDots$PairList", "isKnown", "Z", false)
def tyX5 : Nat → FieldType := fun k => match k with
  | 0 => .object "NightDots$Sky"
  | 1 => .object "NightDots$Net"
  | 2 => .object "NightDots$BitList"
  | 3 => .array .int
  | 4 => .array .int
  | 5 => .array .int
  | 6 => .array .int
  | 7 => .object "NightDots$Row"
  | 8 => .int
  | 9 => .int
  | _ => .boolean
abbrev wsX50 : List Cond := u_ws RX5 TX5 11
theorem nmX5 : ∀ a, a < 11 → ∀ b, b < 11 → a ≠ b → (TX5 a).2.1 ≠ (TX5 b).2.1 := by decide +kernel
theorem tyX5_ok : ∀ k, k < 11 → parseFieldDescriptor (TX5 k).2.2.1 = some (tyX5 k) := by decide +kernel
abbrev cX5_init : ByteArray := prog_7_method_1_code
def yX5_init : MethodName := ⟨RX5, "<init>", "(LNightDots$Sky;LNightDots$Net;LNightDots$BitList;)V"⟩
abbrev cX5_forget : ByteArray := prog_7_method_2_code
def yX5_forget : MethodName := ⟨RX5, "forget", "()V"⟩
abbrev cX5_total : ByteArray := prog_7_method_3_code
def yX5_total : MethodName := ⟨RX5, "total", "()I"⟩
abbrev cX5_gather : ByteArray := prog_7_method_4_code
def yX5_gather : MethodName := ⟨RX5, "gather", "(IILNightDots$Row;)V"⟩
abbrev cX5_findBits : ByteArray := prog_7_method_5_code
def yX5_findBits : MethodName := ⟨RX5, "findBits", "()V"⟩
abbrev cX5_keepBit : ByteArray := prog_7_method_6_code
def yX5_keepBit : MethodName := ⟨RX5, "keepBit", "(II)V"⟩
abbrev cX5_findPairs : ByteArray := prog_7_method_7_code
def yX5_findPairs : MethodName := ⟨RX5, "findPairs", "()V"⟩
abbrev cX5_areOfUnlikeNights : ByteArray := prog_7_method_8_code
def yX5_areOfUnlikeNights : MethodName := ⟨RX5, "areOfUnlikeNights", "(II)Z"⟩
abbrev cX5_keepPair : ByteArray := prog_7_method_9_code
def yX5_keepPair : MethodName := ⟨RX5, "keepPair", "(II)V"⟩
def RX6 : String := "NightDots$Row"
def TX6 : u_T := fun k => match k with
  | 0 => ("NightDots$Row", "dots", "[I", true)
  | _ => ("NightDots$Row", "length", "I", false)
def tyX6 : Nat → FieldType := fun k => match k with
  | 0 => .array .int
  | _ => .int
abbrev wsX60 : List Cond := u_ws RX6 TX6 2
theorem nmX6 : ∀ a, a < 2 → ∀ b, b < 2 → a ≠ b → (TX6 a).2.1 ≠ (TX6 b).2.1 := by decide +kernel
theorem tyX6_ok : ∀ k, k < 2 → parseFieldDescriptor (TX6 k).2.2.1 = some (tyX6 k) := by decide +kernel
abbrev cX6_init : ByteArray := prog_8_method_1_code
def yX6_init : MethodName := ⟨RX6, "<init>", "()V"⟩
abbrev cX6_clear : ByteArray := prog_8_method_2_code
def yX6_clear : MethodName := ⟨RX6, "clear", "()V"⟩
abbrev cX6_add : ByteArray := prog_8_method_3_code
def yX6_add : MethodName := ⟨RX6, "add", "(I)V"⟩
abbrev cX6_addAll : ByteArray := prog_8_method_4_code
def yX6_addAll : MethodName := ⟨RX6, "addAll", "(LNightDots$Row;)V"⟩
abbrev cX6_become : ByteArray := prog_8_method_5_code
def yX6_become : MethodName := ⟨RX6, "become", "(LNightDots$Row;)V"⟩
def RX7 : String := "NightDots$Sky"
def TX7 : u_T := fun k => match k with
  | 0 => ("NightDots$Sky", "hour", "[I", true)
  | 1 => ("NightDots$Sky", "x", "[I", true)
  | 2 => ("NightDots$Sky", "y", "[I", true)
  | 3 => ("NightDots$Sky", "watcher", "[I", true)
  | 4 => ("NightDots$Sky", "path", "[I", true)
  | _ => ("NightDots$Sky", "size", "I", false)
def tyX7 : Nat → FieldType := fun k => match k with
  | 0 => .array .int
  | 1 => .array .int
  | 2 => .array .int
  | 3 => .array .int
  | 4 => .array .int
  | _ => .int
abbrev wsX70 : List Cond := u_ws RX7 TX7 6
theorem nmX7 : ∀ a, a < 6 → ∀ b, b < 6 → a ≠ b → (TX7 a).2.1 ≠ (TX7 b).2.1 := by decide +kernel
theorem tyX7_ok : ∀ k, k < 6 → parseFieldDescriptor (TX7 k).2.2.1 = some (tyX7 k) := by decide +kernel
abbrev cX7_init : ByteArray := prog_9_method_1_code
def yX7_init : MethodName := ⟨RX7, "<init>", "()V"⟩
abbrev cX7_has : ByteArray := prog_9_method_2_code
def yX7_has : MethodName := ⟨RX7, "has", "(I)Z"⟩
abbrev cX7_isFree : ByteArray := prog_9_method_3_code
def yX7_isFree : MethodName := ⟨RX7, "isFree", "(I)Z"⟩
abbrev cX7_nightOf : ByteArray := prog_9_method_4_code
def yX7_nightOf : MethodName := ⟨RX7, "nightOf", "(I)I"⟩
abbrev cX7_placeOf : ByteArray := prog_9_method_5_code
def yX7_placeOf : MethodName := ⟨RX7, "placeOf", "(II)I"⟩
abbrev cX7_find : ByteArray := prog_9_method_6_code
def yX7_find : MethodName := ⟨RX7, "find", "(III)I"⟩
abbrev cX7_add : ByteArray := prog_9_method_7_code
def yX7_add : MethodName := ⟨RX7, "add", "(IIII)I"⟩
abbrev cX7_freeOnes : ByteArray := prog_9_method_8_code
def yX7_freeOnes : MethodName := ⟨RX7, "freeOnes", "()I"⟩
abbrev cX7_putAll : ByteArray := prog_9_method_9_code
def yX7_putAll : MethodName := ⟨RX7, "putAll", "(LNightDots$Row;I)V"⟩
def RX8 : String := "NightDots$Wanderer"
def TX8 : u_T := fun k => match k with
  | 0 => ("NightDots$Wanderer", "name", "I", false)
  | 1 => ("NightDots$Wanderer", "gone", "Z", false)
  | _ => ("NightDots$Wanderer", "row", "LNightDots$Row;", true)
def tyX8 : Nat → FieldType := fun k => match k with
  | 0 => .int
  | 1 => .boolean
  | _ => .object "NightDots$Row"
abbrev wsX80 : List Cond := u_ws RX8 TX8 3
theorem nmX8 : ∀ a, a < 3 → ∀ b, b < 3 → a ≠ b → (TX8 a).2.1 ≠ (TX8 b).2.1 := by decide +kernel
theorem tyX8_ok : ∀ k, k < 3 → parseFieldDescriptor (TX8 k).2.2.1 = some (tyX8 k) := by decide +kernel
abbrev cX8_init : ByteArray := prog_10_method_1_code
def yX8_init : MethodName := ⟨RX8, "<init>", "()V"⟩
def RX9 : String := "NightDots$Wanderers"
def TX9 : u_T := fun k => match k with
  | 0 => ("NightDots$Wanderers", "sky", "LNightDots$Sky;", true)
  | 1 => ("NightDots$Wanderers", "list", "[LNightDots$Wanderer;", true)
  | _ => ("NightDots$Wanderers", "ever", "I", false)
def tyX9 : Nat → FieldType := fun k => match k with
  | 0 => .object "NightDots$Sky"
  | 1 => .array (.object "NightDots$Wanderer")
  | _ => .int
abbrev wsX90 : List Cond := u_ws RX9 TX9 3
theorem nmX9 : ∀ a, a < 3 → ∀ b, b < 3 → a ≠ b → (TX9 a).2.1 ≠ (TX9 b).2.1 := by decide +kernel
theorem tyX9_ok : ∀ k, k < 3 → parseFieldDescriptor (TX9 k).2.2.1 = some (tyX9 k) := by decide +kernel
abbrev cX9_init : ByteArray := prog_11_method_1_code
def yX9_init : MethodName := ⟨RX9, "<init>", "(LNightDots$Sky;)V"⟩
abbrev cX9_has : ByteArray := prog_11_method_2_code
def yX9_has : MethodName := ⟨RX9, "has", "(I)Z"⟩
abbrev cX9_add : ByteArray := prog_11_method_3_code
def yX9_add : MethodName := ⟨RX9, "add", "(I)I"⟩
abbrev cX9_notGone : ByteArray := prog_11_method_4_code
def yX9_notGone : MethodName := ⟨RX9, "notGone", "()I"⟩
abbrev cX9_replaceRow : ByteArray := prog_11_method_5_code
def yX9_replaceRow : MethodName := ⟨RX9, "replaceRow", "(ILNightDots$Row;)V"⟩
abbrev cX9_bringBack : ByteArray := prog_11_method_6_code
def yX9_bringBack : MethodName := ⟨RX9, "bringBack", "(I)V"⟩
def RX10 : String := "NightDots"
def TX10 : u_T := fun k => match k with
  | 0 => ("NightDots", "sky", "LNightDots$Sky;", true)
  | 1 => ("NightDots", "lines", "LNightDots$Net;", true)
  | 2 => ("NightDots", "twos", "LNightDots$BitList;", true)
  | 3 => ("NightDots", "fours", "LNightDots$PairList;", true)
  | 4 => ("NightDots", "wanderers", "LNightDots$Wanderers;", true)
  | 5 => ("NightDots", "acts", "LNightDots$Acts;", true)
  | 6 => ("NightDots", "line", "LNightDots$Line;", true)
  | _ => ("NightDots", "group", "LNightDots$Row;", true)
def tyX10 : Nat → FieldType := fun k => match k with
  | 0 => .object "NightDots$Sky"
  | 1 => .object "NightDots$Net"
  | 2 => .object "NightDots$BitList"
  | 3 => .object "NightDots$PairList"
  | 4 => .object "NightDots$Wanderers"
  | 5 => .object "NightDots$Acts"
  | 6 => .object "NightDots$Line"
  | _ => .object "NightDots$Row"
abbrev wsX100 : List Cond := u_ws RX10 TX10 8
theorem nmX10 : ∀ a, a < 8 → ∀ b, b < 8 → a ≠ b → (TX10 a).2.1 ≠ (TX10 b).2.1 := by decide +kernel
theorem tyX10_ok : ∀ k, k < 8 → parseFieldDescriptor (TX10 k).2.2.1 = some (tyX10 k) := by decide +kernel
abbrev cX10_init : ByteArray := prog_1_method_1_code
def yX10_init : MethodName := ⟨RX10, "<init>", "()V"⟩
abbrev cX10_dot : ByteArray := prog_1_method_2_code
def yX10_dot : MethodName := ⟨RX10, "dot", "(IIII)I"⟩
abbrev cX10_pace : ByteArray := prog_1_method_3_code
def yX10_pace : MethodName := ⟨RX10, "pace", "(I)I"⟩
abbrev cX10_net : ByteArray := prog_1_method_4_code
def yX10_net : MethodName := ⟨RX10, "net", "(II)I"⟩
abbrev cX10_about : ByteArray := prog_1_method_5_code
def yX10_about : MethodName := ⟨RX10, "about", "(II)I"⟩
abbrev cX10_bits : ByteArray := prog_1_method_6_code
def yX10_bits : MethodName := ⟨RX10, "bits", "()I"⟩
abbrev cX10_bit : ByteArray := prog_1_method_7_code
def yX10_bit : MethodName := ⟨RX10, "bit", "(II)I"⟩
abbrev cX10_pairs : ByteArray := prog_1_method_8_code
def yX10_pairs : MethodName := ⟨RX10, "pairs", "()I"⟩
abbrev cX10_pair : ByteArray := prog_1_method_9_code
def yX10_pair : MethodName := ⟨RX10, "pair", "(II)I"⟩
abbrev cX10_start : ByteArray := prog_1_method_10_code
def yX10_start : MethodName := ⟨RX10, "start", "(II)I"⟩
abbrev cX10_single : ByteArray := prog_1_method_11_code
def yX10_single : MethodName := ⟨RX10, "single", "(II)I"⟩
abbrev cX10_join : ByteArray := prog_1_method_12_code
def yX10_join : MethodName := ⟨RX10, "join", "(II)I"⟩
abbrev cX10_joinBit : ByteArray := prog_1_method_13_code
def yX10_joinBit : MethodName := ⟨RX10, "joinBit", "(II)I"⟩
abbrev cX10_force : ByteArray := prog_1_method_14_code
def yX10_force : MethodName := ⟨RX10, "force", "(II)I"⟩
abbrev cX10_path : ByteArray := prog_1_method_15_code
def yX10_path : MethodName := ⟨RX10, "path", "(II)I"⟩
abbrev cX10_heap : ByteArray := prog_1_method_16_code
def yX10_heap : MethodName := ⟨RX10, "heap", "(I)J"⟩
abbrev cX10_ahead : ByteArray := prog_1_method_17_code
def yX10_ahead : MethodName := ⟨RX10, "ahead", "(III)J"⟩
abbrev cX10_tellOff : ByteArray := prog_1_method_18_code
def yX10_tellOff : MethodName := ⟨RX10, "tellOff", "(I)I"⟩
abbrev cX10_fit : ByteArray := prog_1_method_19_code
def yX10_fit : MethodName := ⟨RX10, "fit", "(IIII)J"⟩
abbrev cX10_miss : ByteArray := prog_1_method_20_code
def yX10_miss : MethodName := ⟨RX10, "miss", "(IIII)J"⟩
abbrev cX10_part : ByteArray := prog_1_method_21_code
def yX10_part : MethodName := ⟨RX10, "part", "(I)I"⟩
abbrev cX10_same : ByteArray := prog_1_method_22_code
def yX10_same : MethodName := ⟨RX10, "same", "(II)I"⟩
abbrev cX10_merge : ByteArray := prog_1_method_23_code
def yX10_merge : MethodName := ⟨RX10, "merge", "(II)I"⟩
abbrev cX10_undo : ByteArray := prog_1_method_24_code
def yX10_undo : MethodName := ⟨RX10, "undo", "()I"⟩
abbrev cX10_count : ByteArray := prog_1_method_25_code
def yX10_count : MethodName := ⟨RX10, "count", "(I)I"⟩
abbrev cX10_isWithin : ByteArray := prog_1_method_26_code
def yX10_isWithin : MethodName := ⟨RX10, "isWithin", "(III)Z"⟩
abbrev cX10_isName : ByteArray := prog_1_method_27_code
def yX10_isName : MethodName := ⟨RX10, "isName", "(I)Z"⟩
abbrev cX10_dotOfRow : ByteArray := prog_1_method_28_code
def yX10_dotOfRow : MethodName := ⟨RX10, "dotOfRow", "(LNightDots$Row;I)I"⟩
abbrev cX10_begin : ByteArray := prog_1_method_29_code
def yX10_begin : MethodName := ⟨RX10, "begin", "(I)I"⟩
abbrev cX10_joinGroup : ByteArray := prog_1_method_30_code
def yX10_joinGroup : MethodName := ⟨RX10, "joinGroup", "(I)I"⟩
abbrev cX10_lengthen : ByteArray := prog_1_method_31_code
def yX10_lengthen : MethodName := ⟨RX10, "lengthen", "(I)I"⟩
abbrev cX10_changeRow : ByteArray := prog_1_method_32_code
def yX10_changeRow : MethodName := ⟨RX10, "changeRow", "(I)LNightDots$Act;"⟩
abbrev cX10_gatherBoth : ByteArray := prog_1_method_33_code
def yX10_gatherBoth : MethodName := ⟨RX10, "gatherBoth", "(II)V"⟩
abbrev cX10_lay : ByteArray := prog_1_method_34_code
def yX10_lay : MethodName := ⟨RX10, "lay", "(II)Z"⟩
abbrev cX10_parting : ByteArray := prog_1_method_35_code
def yX10_parting : MethodName := ⟨RX10, "parting", "(LNightDots$Row;)I"⟩
abbrev cX10_keepStaying : ByteArray := prog_1_method_36_code
def yX10_keepStaying : MethodName := ⟨RX10, "keepStaying", "(LNightDots$Row;I)V"⟩
def RX11 : String := "NightDotsModel"
def TX11 : u_T := fun k => match k with
  | 0 => ("NightDotsModel", "dots", "I", false)
  | 1 => ("NightDotsModel", "paths", "I", false)
  | 2 => ("NightDotsModel", "pace", "I", false)
  | 3 => ("NightDotsModel", "grid", "I", false)
  | 4 => ("NightDotsModel", "end", "I", false)
  | 5 => ("NightDotsModel", "hour", "[I", true)
  | 6 => ("NightDotsModel", "x", "[I", true)
  | 7 => ("NightDotsModel", "y", "[I", true)
  | 8 => ("NightDotsModel", "watcher", "[I", true)
  | 9 => ("NightDotsModel", "of", "[I", true)
  | 10 => ("NightDotsModel", "name", "[I", true)
  | 11 => ("NightDotsModel", "size", "[I", true)
  | 12 => ("NightDotsModel", "row", "[I", true)
  | 13 => ("NightDotsModel", "gone", "[Z", true)
  | 14 => ("NightDotsModel", "some", "[I", true)
  | 15 => ("NightDotsModel", "count", "I", false)
  | 16 => ("NightDotsModel", "low", "I", false)
  | 17 => ("NightDotsModel", "high", "I", false)
  | 18 => ("NightDotsModel", "least", "J", false)
  | 19 => ("NightDotsModel", "most", "J", false)
  | 20 => ("NightDotsModel", "bitA", "[I", true)
  | 21 => ("NightDotsModel", "bitB", "[I", true)
  | 22 => ("NightDotsModel", "bits", "I", false)
  | 23 => ("NightDotsModel", "pairA", "[I", true)
  | 24 => ("NightDotsModel", "pairB", "[I", true)
  | 25 => ("NightDotsModel", "pairs", "I", false)
  | 26 => ("NightDotsModel", "acts", "I", false)
  | 27 => ("NightDotsModel", "firstAct", "I", false)
  | 28 => ("NightDotsModel", "keptPaths", "[I", true)
  | 29 => ("NightDotsModel", "keptSize", "[I", true)
  | 30 => ("NightDotsModel", "keptRow", "[I", true)
  | 31 => ("NightDotsModel", "keptGone", "[Z", true)
  | 32 => ("NightDotsModel", "vUp", "J", false)
  | 33 => ("NightDotsModel", "pUp", "J", false)
  | 34 => ("NightDotsModel", "under", "J", false)
  | _ => ("NightDotsModel", "pUnder", "J", false)
def tyX11 : Nat → FieldType := fun k => match k with
  | 0 => .int
  | 1 => .int
  | 2 => .int
  | 3 => .int
  | 4 => .int
  | 5 => .array .int
  | 6 => .array .int
  | 7 => .array .int
  | 8 => .array .int
  | 9 => .array .int
  | 10 => .array .int
  | 11 => .array .int
  | 12 => .array .int
  | 13 => .array .boolean
  | 14 => .array .int
  | 15 => .int
  | 16 => .int
  | 17 => .int
  | 18 => .long
  | 19 => .long
  | 20 => .array .int
  | 21 => .array .int
  | 22 => .int
  | 23 => .array .int
  | 24 => .array .int
  | 25 => .int
  | 26 => .int
  | 27 => .int
  | 28 => .array .int
  | 29 => .array .int
  | 30 => .array .int
  | 31 => .array .boolean
  | 32 => .long
  | 33 => .long
  | 34 => .long
  | _ => .long
abbrev wsX110 : List Cond := u_ws RX11 TX11 36
theorem nmX11 : ∀ a, a < 36 → ∀ b, b < 36 → a ≠ b → (TX11 a).2.1 ≠ (TX11 b).2.1 := by decide +kernel
theorem tyX11_ok : ∀ k, k < 36 → parseFieldDescriptor (TX11 k).2.2.1 = some (tyX11 k) := by decide +kernel
abbrev cX11_init : ByteArray := prog_13_method_1_code
def yX11_init : MethodName := ⟨RX11, "<init>", "()V"⟩
abbrev cX11_isIn : ByteArray := prog_13_method_2_code
def yX11_isIn : MethodName := ⟨RX11, "isIn", "(III)Z"⟩
abbrev cX11_isDot : ByteArray := prog_13_method_3_code
def yX11_isDot : MethodName := ⟨RX11, "isDot", "(I)Z"⟩
abbrev cX11_isPath : ByteArray := prog_13_method_4_code
def yX11_isPath : MethodName := ⟨RX11, "isPath", "(I)Z"⟩
abbrev cX11_dot : ByteArray := prog_13_method_5_code
def yX11_dot : MethodName := ⟨RX11, "dot", "(IIII)I"⟩
abbrev cX11_pace : ByteArray := prog_13_method_6_code
def yX11_pace : MethodName := ⟨RX11, "pace", "(I)I"⟩
abbrev cX11_net : ByteArray := prog_13_method_7_code
def yX11_net : MethodName := ⟨RX11, "net", "(II)I"⟩
abbrev cX11_night : ByteArray := prog_13_method_8_code
def yX11_night : MethodName := ⟨RX11, "night", "(I)I"⟩
abbrev cX11_about : ByteArray := prog_13_method_9_code
def yX11_about : MethodName := ⟨RX11, "about", "(II)I"⟩
abbrev cX11_take : ByteArray := prog_13_method_10_code
def yX11_take : MethodName := ⟨RX11, "take", "(I)V"⟩
abbrev cX11_adds : ByteArray := prog_13_method_11_code
def yX11_adds : MethodName := ⟨RX11, "adds", "(I)V"⟩
abbrev cX11_placeOf : ByteArray := prog_13_method_12_code
def yX11_placeOf : MethodName := ⟨RX11, "placeOf", "(II)I"⟩
abbrev cX11_lines : ByteArray := prog_13_method_13_code
def yX11_lines : MethodName := ⟨RX11, "lines", "(II)I"⟩
abbrev cX11_allLines : ByteArray := prog_13_method_14_code
def yX11_allLines : MethodName := ⟨RX11, "allLines", "(I)J"⟩
abbrev cX11_isHeap : ByteArray := prog_13_method_15_code
def yX11_isHeap : MethodName := ⟨RX11, "isHeap", "()Z"⟩
abbrev cX11_isSound : ByteArray := prog_13_method_16_code
def yX11_isSound : MethodName := ⟨RX11, "isSound", "(I)Z"⟩
abbrev cX11_ahead0 : ByteArray := prog_13_method_17_code
def yX11_ahead0 : MethodName := ⟨RX11, "ahead0", "(II)V"⟩
abbrev cX11_isNear : ByteArray := prog_13_method_18_code
def yX11_isNear : MethodName := ⟨RX11, "isNear", "(II)Z"⟩
abbrev cX11_findBits : ByteArray := prog_13_method_19_code
def yX11_findBits : MethodName := ⟨RX11, "findBits", "()V"⟩
abbrev cX11_bits : ByteArray := prog_13_method_20_code
def yX11_bits : MethodName := ⟨RX11, "bits", "()I"⟩
abbrev cX11_bit : ByteArray := prog_13_method_21_code
def yX11_bit : MethodName := ⟨RX11, "bit", "(II)I"⟩
abbrev cX11_findPairs : ByteArray := prog_13_method_22_code
def yX11_findPairs : MethodName := ⟨RX11, "findPairs", "()Z"⟩
abbrev cX11_pairs : ByteArray := prog_13_method_23_code
def yX11_pairs : MethodName := ⟨RX11, "pairs", "()I"⟩
abbrev cX11_pair : ByteArray := prog_13_method_24_code
def yX11_pair : MethodName := ⟨RX11, "pair", "(II)I"⟩
abbrev cX11_keep : ByteArray := prog_13_method_25_code
def yX11_keep : MethodName := ⟨RX11, "keep", "()V"⟩
abbrev cX11_own : ByteArray := prog_13_method_26_code
def yX11_own : MethodName := ⟨RX11, "own", "()V"⟩
abbrev cX11_undo : ByteArray := prog_13_method_27_code
def yX11_undo : MethodName := ⟨RX11, "undo", "()I"⟩
abbrev cX11_comes : ByteArray := prog_13_method_28_code
def yX11_comes : MethodName := ⟨RX11, "comes", "(II)V"⟩
abbrev cX11_begins : ByteArray := prog_13_method_29_code
def yX11_begins : MethodName := ⟨RX11, "begins", "(I)I"⟩
abbrev cX11_start : ByteArray := prog_13_method_30_code
def yX11_start : MethodName := ⟨RX11, "start", "(II)I"⟩
abbrev cX11_single : ByteArray := prog_13_method_31_code
def yX11_single : MethodName := ⟨RX11, "single", "(II)I"⟩
abbrev cX11_join : ByteArray := prog_13_method_32_code
def yX11_join : MethodName := ⟨RX11, "join", "(II)I"⟩
abbrev cX11_joinBit : ByteArray := prog_13_method_33_code
def yX11_joinBit : MethodName := ⟨RX11, "joinBit", "(II)I"⟩
abbrev cX11_force : ByteArray := prog_13_method_34_code
def yX11_force : MethodName := ⟨RX11, "force", "(II)I"⟩
abbrev cX11_path : ByteArray := prog_13_method_35_code
def yX11_path : MethodName := ⟨RX11, "path", "(II)I"⟩
abbrev cX11_heap : ByteArray := prog_13_method_36_code
def yX11_heap : MethodName := ⟨RX11, "heap", "(I)J"⟩
abbrev cX11_ahead : ByteArray := prog_13_method_37_code
def yX11_ahead : MethodName := ⟨RX11, "ahead", "(III)J"⟩
abbrev cX11_isWithin : ByteArray := prog_13_method_38_code
def yX11_isWithin : MethodName := ⟨RX11, "isWithin", "(II)Z"⟩
abbrev cX11_tellOff : ByteArray := prog_13_method_39_code
def yX11_tellOff : MethodName := ⟨RX11, "tellOff", "(I)I"⟩
abbrev cX11_fits : ByteArray := prog_13_method_40_code
def yX11_fits : MethodName := ⟨RX11, "fits", "(II)Z"⟩
abbrev cX11_divisor : ByteArray := prog_13_method_41_code
def yX11_divisor : MethodName := ⟨RX11, "divisor", "(JJ)J"⟩
abbrev cX11_told : ByteArray := prog_13_method_42_code
def yX11_told : MethodName := ⟨RX11, "told", "(JJI)J"⟩
abbrev cX11_fit : ByteArray := prog_13_method_43_code
def yX11_fit : MethodName := ⟨RX11, "fit", "(IIII)J"⟩
abbrev cX11_miss : ByteArray := prog_13_method_44_code
def yX11_miss : MethodName := ⟨RX11, "miss", "(IIII)J"⟩
abbrev cX11_bitsOf : ByteArray := prog_13_method_45_code
def yX11_bitsOf : MethodName := ⟨RX11, "bitsOf", "(I)I"⟩
abbrev cX11_isSoundWithout : ByteArray := prog_13_method_46_code
def yX11_isSoundWithout : MethodName := ⟨RX11, "isSoundWithout", "(II)Z"⟩
abbrev cX11_part : ByteArray := prog_13_method_47_code
def yX11_part : MethodName := ⟨RX11, "part", "(I)I"⟩
abbrev cX11_areSame : ByteArray := prog_13_method_48_code
def yX11_areSame : MethodName := ⟨RX11, "areSame", "(II)Z"⟩
abbrev cX11_same : ByteArray := prog_13_method_49_code
def yX11_same : MethodName := ⟨RX11, "same", "(II)I"⟩
abbrev cX11_merge : ByteArray := prog_13_method_50_code
def yX11_merge : MethodName := ⟨RX11, "merge", "(II)I"⟩
abbrev cX11_count : ByteArray := prog_13_method_51_code
def yX11_count : MethodName := ⟨RX11, "count", "(I)I"⟩
def RJ6 : String := "java/lang/Integer"
def TJ6 : u_T := fun k => match k with
  | _ => ("", "", "", false)
def tyJ6 : Nat → FieldType := fun k => match k with
  | _ => .int
abbrev wsJ60 : List Cond := u_ws RJ6 TJ6 0
theorem nmJ6 : ∀ a, a < 0 → ∀ b, b < 0 → a ≠ b → (TJ6 a).2.1 ≠ (TJ6 b).2.1 := by decide +kernel
theorem tyJ6_ok : ∀ k, k < 0 → parseFieldDescriptor (TJ6 k).2.2.1 = some (tyJ6 k) := by decide +kernel
abbrev cJ6_bitCount_0f7a4 : ByteArray := prog_14_method_49_code
def yJ6_bitCount_0f7a4 : MethodName := ⟨RJ6, "bitCount", "(I)I"⟩
def RJ9 : String := "java/lang/Math"
def TJ9 : u_T := fun k => match k with
  | _ => ("", "", "", false)
def tyJ9 : Nat → FieldType := fun k => match k with
  | _ => .int
abbrev wsJ90 : List Cond := u_ws RJ9 TJ9 0
theorem nmJ9 : ∀ a, a < 0 → ∀ b, b < 0 → a ≠ b → (TJ9 a).2.1 ≠ (TJ9 b).2.1 := by decide +kernel
theorem tyJ9_ok : ∀ k, k < 0 → parseFieldDescriptor (TJ9 k).2.2.1 = some (tyJ9 k) := by decide +kernel
abbrev cJ9_floorDiv_7cf53 : ByteArray := prog_15_method_47_code
def yJ9_floorDiv_7cf53 : MethodName := ⟨RJ9, "floorDiv", "(II)I"⟩
abbrev cJ9_abs_0f7a4 : ByteArray := prog_15_method_59_code
def yJ9_abs_0f7a4 : MethodName := ⟨RJ9, "abs", "(I)I"⟩
abbrev cJ9_abs_067f4 : ByteArray := prog_15_method_61_code
def yJ9_abs_067f4 : MethodName := ⟨RJ9, "abs", "(J)J"⟩
abbrev cJ9_max_7cf53 : ByteArray := prog_15_method_65_code
def yJ9_max_7cf53 : MethodName := ⟨RJ9, "max", "(II)I"⟩
abbrev cJ9_max_f86c9 : ByteArray := prog_15_method_66_code
def yJ9_max_f86c9 : MethodName := ⟨RJ9, "max", "(JJ)J"⟩
abbrev cJ9_min_7cf53 : ByteArray := prog_15_method_69_code
def yJ9_min_7cf53 : MethodName := ⟨RJ9, "min", "(II)I"⟩
abbrev cJ9_min_f86c9 : ByteArray := prog_15_method_70_code
def yJ9_min_f86c9 : MethodName := ⟨RJ9, "min", "(JJ)J"⟩
def RL : String := "NightDotsLaw"
abbrev cL_law : ByteArray := code
def yL_law : MethodName := ⟨RL, "law", "([I)Z"⟩
abbrev vwCl : List vw_C := [(RX0, TX0, 4), (RX1, TX1, 3), (RX2, TX2, 4), (RX3, TX3, 5), (RX4, TX4, 5), (RX5, TX5, 11), (RX6, TX6, 2), (RX7, TX7, 6), (RX8, TX8, 3), (RX9, TX9, 3), (RX10, TX10, 8), (RX11, TX11, 36)]
/-! ===== the words that every method's contract takes: those of the tables that stay (by their places) ===== -/
def g_tb : List Cond := lw_tbl.filter goodWord
theorem g_tb_good : GoodIn lw_tbl g_tb := fun w h => ⟨(List.mem_filter.mp h).1, good_of_word (List.mem_filter.mp h).2⟩
theorem tbl0 {w : Cond} (j : Nat) (h : (k2_sels lw_privs)[j]? = some w) : w ∈ lw_tbl := List.mem_append_left _ (List.mem_of_getElem? h)
theorem tbl1 {w : Cond} (j : Nat) (h : tables_1_1[j]? = some w) : w ∈ lw_tbl := List.mem_append_right _ (List.mem_append_left _ (List.mem_of_getElem? h))
theorem tbl2 {w : Cond} (j : Nat) (h : tables_1_2[j]? = some w) : w ∈ lw_tbl := List.mem_append_right _ (List.mem_append_right _ (List.mem_append_left _ (List.mem_of_getElem? h)))
theorem tbl3 {w : Cond} (j : Nat) (h : tables_1_3[j]? = some w) : w ∈ lw_tbl := List.mem_append_right _ (List.mem_append_right _ (List.mem_append_right _ (List.mem_append_left _ (List.mem_of_getElem? h))))
theorem tbl4 {w : Cond} (j : Nat) (h : tables_1_4[j]? = some w) : w ∈ lw_tbl := List.mem_append_right _ (List.mem_append_right _ (List.mem_append_right _ (List.mem_append_right _ (List.mem_append_left _ (List.mem_of_getElem? h)))))
theorem tbl5 {w : Cond} (j : Nat) (h : tables_1_5[j]? = some w) : w ∈ lw_tbl := List.mem_append_right _ (List.mem_append_right _ (List.mem_append_right _ (List.mem_append_right _ (List.mem_append_right _ (List.mem_of_getElem? h)))))
theorem tb0 {w : Cond} (j : Nat) (h : (k2_sels lw_privs)[j]? = some w) (hg : goodWord w = true) : w ∈ g_tb := List.mem_filter.mpr ⟨tbl0 j h, hg⟩
theorem tb1 {w : Cond} (j : Nat) (h : tables_1_1[j]? = some w) (hg : goodWord w = true) : w ∈ g_tb := List.mem_filter.mpr ⟨tbl1 j h, hg⟩
theorem tb2 {w : Cond} (j : Nat) (h : tables_1_2[j]? = some w) (hg : goodWord w = true) : w ∈ g_tb := List.mem_filter.mpr ⟨tbl2 j h, hg⟩
theorem tb3 {w : Cond} (j : Nat) (h : tables_1_3[j]? = some w) (hg : goodWord w = true) : w ∈ g_tb := List.mem_filter.mpr ⟨tbl3 j h, hg⟩
theorem tb4 {w : Cond} (j : Nat) (h : tables_1_4[j]? = some w) (hg : goodWord w = true) : w ∈ g_tb := List.mem_filter.mpr ⟨tbl4 j h, hg⟩
theorem tb5 {w : Cond} (j : Nat) (h : tables_1_5[j]? = some w) (hg : goodWord w = true) : w ∈ g_tb := List.mem_filter.mpr ⟨tbl5 j h, hg⟩
end
section
theorem w1_0 : Cond.initialized RL ∈ g_tb := tb1 0 rfl rfl
theorem w1_1 : Cond.initialized RX10 ∈ g_tb := tb1 1 rfl rfl
theorem w1_2 : Cond.initialized RX7 ∈ g_tb := tb1 2 rfl rfl
theorem w1_3 : Cond.initialized RX4 ∈ g_tb := tb1 3 rfl rfl
theorem w1_4 : Cond.initialized RX2 ∈ g_tb := tb1 4 rfl rfl
theorem w1_5 : Cond.initialized RX5 ∈ g_tb := tb1 5 rfl rfl
theorem w1_6 : Cond.initialized RX6 ∈ g_tb := tb1 6 rfl rfl
theorem w1_7 : Cond.initialized RX9 ∈ g_tb := tb1 7 rfl rfl
theorem w1_8 : Cond.initialized RX8 ∈ g_tb := tb1 8 rfl rfl
theorem w1_9 : Cond.initialized RX1 ∈ g_tb := tb1 9 rfl rfl
theorem w1_10 : Cond.initialized RX0 ∈ g_tb := tb1 10 rfl rfl
theorem w1_11 : Cond.initialized RX3 ∈ g_tb := tb1 11 rfl rfl
theorem w1_12 : Cond.initialized RX11 ∈ g_tb := tb1 12 rfl rfl
theorem w1_13 : Cond.initialized RJ9 ∈ g_tb := tb1 13 rfl rfl
theorem w1_14 : Cond.initialized RJ6 ∈ g_tb := tb1 14 rfl rfl
theorem w1_15 : Cond.classLink RL 7 RX10 ∈ g_tb := tb1 15 rfl rfl
theorem w1_16 : Cond.instantiable RX10 8 ∈ g_tb := tb1 16 rfl rfl
theorem w1_17 : Cond.methodLink RL 9 yX10_init ∈ g_tb := tb1 17 rfl rfl
theorem w1_18 : Cond.instanceMethod yX10_init ∈ g_tb := tb1 18 rfl rfl
theorem w1_19 : Cond.code yX10_init cX10_init 1 none ∈ g_tb := tb1 19 rfl rfl
theorem w1_20 : Cond.methodLink RX10 5 objectInit ∈ g_tb := tb1 20 rfl rfl
theorem w1_21 : Cond.instanceMethod objectInit ∈ g_tb := tb1 21 rfl rfl
theorem w1_22 : Cond.code objectInit ⟨#[0xb1]⟩ 1 none ∈ g_tb := tb1 22 rfl rfl
theorem w1_23 : Cond.classLink RX10 11 RX7 ∈ g_tb := tb1 23 rfl rfl
theorem w1_24 : Cond.instantiable RX7 6 ∈ g_tb := tb1 24 rfl rfl
theorem w1_25 : Cond.methodLinkNest RX10 13 yX7_init RX10 ∈ lw_tbl := tbl1 25 rfl
theorem w1_26 : Cond.instanceMethod yX7_init ∈ g_tb := tb1 26 rfl rfl
theorem w1_27 : Cond.code yX7_init cX7_init 1 none ∈ g_tb := tb1 27 rfl rfl
theorem w1_28 : Cond.methodLink RX7 3 objectInit ∈ g_tb := tb1 28 rfl rfl
theorem w1_29 : Cond.fieldLink RX7 9 "NightDots$Sky" "hour" "[I" ∈ g_tb := tb1 29 rfl rfl
theorem w1_30 : Cond.fieldLink RX2 17 "NightDots$Sky" "hour" "[I" ∈ g_tb := tb1 30 rfl rfl
theorem w1_31 : Cond.fieldLink RX3 27 "NightDots$Sky" "hour" "[I" ∈ g_tb := tb1 31 rfl rfl
theorem w1_32 : Cond.fieldLink RX4 37 "NightDots$Sky" "hour" "[I" ∈ g_tb := tb1 32 rfl rfl
theorem w1_33 : Cond.fieldLink RX10 103 "NightDots$Sky" "hour" "[I" ∈ g_tb := tb1 33 rfl rfl
theorem w1_34 : Cond.fieldLink RX7 15 "NightDots$Sky" "x" "[I" ∈ g_tb := tb1 34 rfl rfl
theorem w1_35 : Cond.fieldLink RX2 31 "NightDots$Sky" "x" "[I" ∈ g_tb := tb1 35 rfl rfl
theorem w1_36 : Cond.fieldLink RX10 107 "NightDots$Sky" "x" "[I" ∈ g_tb := tb1 36 rfl rfl
theorem w1_37 : Cond.fieldLink RX7 18 "NightDots$Sky" "y" "[I" ∈ g_tb := tb1 37 rfl rfl
theorem w1_38 : Cond.fieldLink RX2 39 "NightDots$Sky" "y" "[I" ∈ g_tb := tb1 38 rfl rfl
theorem w1_39 : Cond.fieldLink RX10 110 "NightDots$Sky" "y" "[I" ∈ g_tb := tb1 39 rfl rfl
theorem w1_40 : Cond.fieldLink RX7 21 "NightDots$Sky" "watcher" "[I" ∈ g_tb := tb1 40 rfl rfl
theorem w1_41 : Cond.fieldLink RX10 113 "NightDots$Sky" "watcher" "[I" ∈ g_tb := tb1 41 rfl rfl
theorem w1_42 : Cond.fieldLink RX7 24 "NightDots$Sky" "path" "[I" ∈ g_tb := tb1 42 rfl rfl
theorem w1_43 : Cond.fieldLink RX10 120 "NightDots$Sky" "path" "[I" ∈ g_tb := tb1 43 rfl rfl
theorem w1_44 : Cond.fieldLink RX7 27 "NightDots$Sky" "size" "I" ∈ g_tb := tb1 44 rfl rfl
theorem w1_45 : Cond.fieldLink RX2 42 "NightDots$Sky" "size" "I" ∈ g_tb := tb1 45 rfl rfl
theorem w1_46 : Cond.fieldLink RX5 67 "NightDots$Sky" "size" "I" ∈ g_tb := tb1 46 rfl rfl
theorem w1_47 : Cond.fieldLink RX10 303 "NightDots$Sky" "size" "I" ∈ g_tb := tb1 47 rfl rfl
theorem w1_61 : Cond.arrayClass .int ∈ g_tb := tb1 61 rfl rfl
theorem w1_62 : Cond.classLink RX10 18 RX4 ∈ g_tb := tb1 62 rfl rfl
theorem w1_63 : Cond.instantiable RX4 5 ∈ g_tb := tb1 63 rfl rfl
theorem w1_64 : Cond.methodLink RX10 20 yX4_init ∈ g_tb := tb1 64 rfl rfl
theorem w1_65 : Cond.instanceMethod yX4_init ∈ g_tb := tb1 65 rfl rfl
theorem w1_66 : Cond.code yX4_init cX4_init 2 none ∈ g_tb := tb1 66 rfl rfl
theorem w1_67 : Cond.methodLink RX4 3 objectInit ∈ g_tb := tb1 67 rfl rfl
theorem w1_68 : Cond.fieldLink RX4 18 "NightDots$Net" "sky" "LNightDots$Sky;" ∈ g_tb := tb1 68 rfl rfl
theorem w1_69 : Cond.fieldLink RX4 9 "NightDots$Net" "grid" "I" ∈ g_tb := tb1 69 rfl rfl
theorem w1_70 : Cond.fieldLink RX10 93 "NightDots$Net" "grid" "I" ∈ g_tb := tb1 70 rfl rfl
theorem w1_71 : Cond.fieldLink RX4 15 "NightDots$Net" "end" "I" ∈ g_tb := tb1 71 rfl rfl
theorem w1_72 : Cond.fieldLink RX10 96 "NightDots$Net" "end" "I" ∈ g_tb := tb1 72 rfl rfl
theorem w1_73 : Cond.fieldLink RX4 51 "NightDots$Net" "least" "I" ∈ g_tb := tb1 73 rfl rfl
theorem w1_74 : Cond.fieldLink RX4 54 "NightDots$Net" "greatest" "I" ∈ g_tb := tb1 74 rfl rfl
theorem w1_86 : Cond.classLink RX10 27 RX2 ∈ g_tb := tb1 86 rfl rfl
theorem w1_87 : Cond.instantiable RX2 4 ∈ g_tb := tb1 87 rfl rfl
theorem w1_88 : Cond.methodLink RX10 29 yX2_init ∈ g_tb := tb1 88 rfl rfl
theorem w1_89 : Cond.instanceMethod yX2_init ∈ g_tb := tb1 89 rfl rfl
theorem w1_90 : Cond.code yX2_init cX2_init 2 none ∈ g_tb := tb1 90 rfl rfl
theorem w1_91 : Cond.methodLink RX2 1 objectInit ∈ g_tb := tb1 91 rfl rfl
theorem w1_92 : Cond.fieldLink RX2 13 "NightDots$BitList" "sky" "LNightDots$Sky;" ∈ g_tb := tb1 92 rfl rfl
theorem w1_93 : Cond.fieldLink RX2 7 "NightDots$BitList" "pace" "I" ∈ g_tb := tb1 93 rfl rfl
theorem w1_94 : Cond.fieldLink RX10 89 "NightDots$BitList" "pace" "I" ∈ g_tb := tb1 94 rfl rfl
theorem w1_95 : Cond.fieldLink RX2 49 "NightDots$BitList" "first" "I" ∈ g_tb := tb1 95 rfl rfl
theorem w1_96 : Cond.fieldLink RX10 130 "NightDots$BitList" "first" "I" ∈ g_tb := tb1 96 rfl rfl
theorem w1_97 : Cond.fieldLink RX2 52 "NightDots$BitList" "second" "I" ∈ g_tb := tb1 97 rfl rfl
theorem w1_98 : Cond.fieldLink RX10 133 "NightDots$BitList" "second" "I" ∈ g_tb := tb1 98 rfl rfl
theorem w1_108 : Cond.classLink RX10 34 RX5 ∈ g_tb := tb1 108 rfl rfl
theorem w1_109 : Cond.instantiable RX5 11 ∈ g_tb := tb1 109 rfl rfl
theorem w1_110 : Cond.methodLink RX10 36 yX5_init ∈ g_tb := tb1 110 rfl rfl
theorem w1_111 : Cond.instanceMethod yX5_init ∈ g_tb := tb1 111 rfl rfl
theorem w1_112 : Cond.code yX5_init cX5_init 4 none ∈ g_tb := tb1 112 rfl rfl
theorem w1_113 : Cond.methodLink RX5 3 objectInit ∈ g_tb := tb1 113 rfl rfl
theorem w1_114 : Cond.classLink RX5 24 RX6 ∈ g_tb := tb1 114 rfl rfl
theorem w1_115 : Cond.instantiable RX6 2 ∈ g_tb := tb1 115 rfl rfl
theorem w1_116 : Cond.methodLinkNest RX5 26 yX6_init RX10 ∈ lw_tbl := tbl1 116 rfl
theorem w1_117 : Cond.instanceMethod yX6_init ∈ g_tb := tb1 117 rfl rfl
theorem w1_118 : Cond.code yX6_init cX6_init 1 none ∈ g_tb := tb1 118 rfl rfl
theorem w1_119 : Cond.methodLink RX6 3 objectInit ∈ g_tb := tb1 119 rfl rfl
theorem w1_120 : Cond.fieldLink RX6 11 "NightDots$Row" "dots" "[I" ∈ g_tb := tb1 120 rfl rfl
theorem w1_121 : Cond.fieldLink RX4 27 "NightDots$Row" "dots" "[I" ∈ g_tb := tb1 121 rfl rfl
theorem w1_122 : Cond.fieldLink RX3 33 "NightDots$Row" "dots" "[I" ∈ g_tb := tb1 122 rfl rfl
theorem w1_123 : Cond.fieldLink RX7 40 "NightDots$Row" "dots" "[I" ∈ g_tb := tb1 123 rfl rfl
theorem w1_124 : Cond.fieldLink RX10 241 "NightDots$Row" "dots" "[I" ∈ g_tb := tb1 124 rfl rfl
theorem w1_125 : Cond.fieldLink RX6 15 "NightDots$Row" "length" "I" ∈ g_tb := tb1 125 rfl rfl
theorem w1_126 : Cond.fieldLink RX3 9 "NightDots$Row" "length" "I" ∈ g_tb := tb1 126 rfl rfl
theorem w1_127 : Cond.fieldLink RX4 22 "NightDots$Row" "length" "I" ∈ g_tb := tb1 127 rfl rfl
theorem w1_128 : Cond.fieldLink RX7 35 "NightDots$Row" "length" "I" ∈ g_tb := tb1 128 rfl rfl
theorem w1_129 : Cond.fieldLink RX10 183 "NightDots$Row" "length" "I" ∈ g_tb := tb1 129 rfl rfl
theorem w1_135 : Cond.fieldLink RX5 31 "NightDots$PairList" "sky" "LNightDots$Sky;" ∈ g_tb := tb1 135 rfl rfl
theorem w1_136 : Cond.fieldLink RX5 35 "NightDots$PairList" "lines" "LNightDots$Net;" ∈ g_tb := tb1 136 rfl rfl
theorem w1_137 : Cond.fieldLink RX5 39 "NightDots$PairList" "twos" "LNightDots$BitList;" ∈ g_tb := tb1 137 rfl rfl
theorem w1_138 : Cond.fieldLink RX5 9 "NightDots$PairList" "one" "[I" ∈ g_tb := tb1 138 rfl rfl
theorem w1_139 : Cond.fieldLink RX10 137 "NightDots$PairList" "one" "[I" ∈ g_tb := tb1 139 rfl rfl
theorem w1_140 : Cond.fieldLink RX5 15 "NightDots$PairList" "other" "[I" ∈ g_tb := tb1 140 rfl rfl
theorem w1_141 : Cond.fieldLink RX10 140 "NightDots$PairList" "other" "[I" ∈ g_tb := tb1 141 rfl rfl
theorem w1_142 : Cond.fieldLink RX5 18 "NightDots$PairList" "first" "[I" ∈ g_tb := tb1 142 rfl rfl
theorem w1_143 : Cond.fieldLink RX5 21 "NightDots$PairList" "second" "[I" ∈ g_tb := tb1 143 rfl rfl
theorem w1_144 : Cond.fieldLink RX5 27 "NightDots$PairList" "four" "LNightDots$Row;" ∈ g_tb := tb1 144 rfl rfl
theorem w1_145 : Cond.fieldLink RX5 53 "NightDots$PairList" "bitsFound" "I" ∈ g_tb := tb1 145 rfl rfl
theorem w1_146 : Cond.fieldLink RX5 57 "NightDots$PairList" "found" "I" ∈ g_tb := tb1 146 rfl rfl
theorem w1_147 : Cond.fieldLink RX5 43 "NightDots$PairList" "isKnown" "Z" ∈ g_tb := tb1 147 rfl rfl
theorem w1_171 : Cond.classLink RX10 43 RX9 ∈ g_tb := tb1 171 rfl rfl
theorem w1_172 : Cond.instantiable RX9 3 ∈ g_tb := tb1 172 rfl rfl
theorem w1_173 : Cond.methodLink RX10 45 yX9_init ∈ g_tb := tb1 173 rfl rfl
theorem w1_174 : Cond.instanceMethod yX9_init ∈ g_tb := tb1 174 rfl rfl
theorem w1_175 : Cond.code yX9_init cX9_init 3 none ∈ g_tb := tb1 175 rfl rfl
theorem w1_176 : Cond.methodLink RX9 3 objectInit ∈ g_tb := tb1 176 rfl rfl
theorem w1_177 : Cond.classLink RX9 9 RX8 ∈ g_tb := tb1 177 rfl rfl
theorem w1_178 : Cond.arrayOver (.object "NightDots$Wanderer") ∈ lw_tbl := tbl1 178 rfl
theorem w1_179 : Cond.instantiable RX8 3 ∈ g_tb := tb1 179 rfl rfl
theorem w1_180 : Cond.methodLinkNest RX9 21 yX8_init RX10 ∈ lw_tbl := tbl1 180 rfl
theorem w1_181 : Cond.instanceMethod yX8_init ∈ g_tb := tb1 181 rfl rfl
theorem w1_182 : Cond.code yX8_init cX8_init 1 none ∈ g_tb := tb1 182 rfl rfl
theorem w1_183 : Cond.methodLink RX8 1 objectInit ∈ g_tb := tb1 183 rfl rfl
theorem w1_184 : Cond.classLink RX8 7 RX6 ∈ g_tb := tb1 184 rfl rfl
theorem w1_185 : Cond.methodLinkNest RX8 9 yX6_init RX10 ∈ lw_tbl := tbl1 185 rfl
theorem w1_186 : Cond.fieldLink RX9 30 "NightDots$Wanderer" "name" "I" ∈ g_tb := tb1 186 rfl rfl
theorem w1_187 : Cond.fieldLink RX10 192 "NightDots$Wanderer" "name" "I" ∈ g_tb := tb1 187 rfl rfl
theorem w1_188 : Cond.fieldLink RX9 26 "NightDots$Wanderer" "gone" "Z" ∈ g_tb := tb1 188 rfl rfl
theorem w1_189 : Cond.fieldLink RX10 195 "NightDots$Wanderer" "gone" "Z" ∈ g_tb := tb1 189 rfl rfl
theorem w1_190 : Cond.fieldLink RX8 10 "NightDots$Wanderer" "row" "LNightDots$Row;" ∈ g_tb := tb1 190 rfl rfl
theorem w1_191 : Cond.fieldLink RX9 37 "NightDots$Wanderer" "row" "LNightDots$Row;" ∈ g_tb := tb1 191 rfl rfl
theorem w1_192 : Cond.fieldLink RX10 171 "NightDots$Wanderer" "row" "LNightDots$Row;" ∈ g_tb := tb1 192 rfl rfl
theorem w1_200 : Cond.fieldLink RX9 17 "NightDots$Wanderers" "sky" "LNightDots$Sky;" ∈ g_tb := tb1 200 rfl rfl
theorem w1_201 : Cond.fieldLink RX9 11 "NightDots$Wanderers" "list" "[LNightDots$Wanderer;" ∈ g_tb := tb1 201 rfl rfl
theorem w1_202 : Cond.fieldLink RX10 167 "NightDots$Wanderers" "list" "[LNightDots$Wanderer;" ∈ g_tb := tb1 202 rfl rfl
theorem w1_203 : Cond.fieldLink RX9 22 "NightDots$Wanderers" "ever" "I" ∈ g_tb := tb1 203 rfl rfl
theorem w1_204 : Cond.fieldLink RX10 189 "NightDots$Wanderers" "ever" "I" ∈ g_tb := tb1 204 rfl rfl
theorem w1_212 : Cond.classLink RX10 50 RX1 ∈ g_tb := tb1 212 rfl rfl
theorem w1_213 : Cond.instantiable RX1 3 ∈ g_tb := tb1 213 rfl rfl
theorem w1_214 : Cond.methodLink RX10 52 yX1_init ∈ g_tb := tb1 214 rfl rfl
theorem w1_215 : Cond.instanceMethod yX1_init ∈ g_tb := tb1 215 rfl rfl
theorem w1_216 : Cond.code yX1_init cX1_init 2 none ∈ g_tb := tb1 216 rfl rfl
theorem w1_217 : Cond.methodLink RX1 3 objectInit ∈ g_tb := tb1 217 rfl rfl
theorem w1_218 : Cond.classLink RX1 9 RX0 ∈ g_tb := tb1 218 rfl rfl
theorem w1_219 : Cond.arrayOver (.object "NightDots$Act") ∈ lw_tbl := tbl1 219 rfl
theorem w1_220 : Cond.instantiable RX0 4 ∈ g_tb := tb1 220 rfl rfl
theorem w1_221 : Cond.methodLinkNest RX1 17 yX0_init RX10 ∈ lw_tbl := tbl1 221 rfl
theorem w1_222 : Cond.instanceMethod yX0_init ∈ g_tb := tb1 222 rfl rfl
theorem w1_223 : Cond.code yX0_init cX0_init 1 none ∈ g_tb := tb1 223 rfl rfl
theorem w1_224 : Cond.methodLink RX0 1 objectInit ∈ g_tb := tb1 224 rfl rfl
theorem w1_225 : Cond.classLink RX0 7 RX6 ∈ g_tb := tb1 225 rfl rfl
theorem w1_226 : Cond.methodLinkNest RX0 9 yX6_init RX10 ∈ lw_tbl := tbl1 226 rfl
theorem w1_227 : Cond.fieldLink RX1 22 "NightDots$Act" "path" "I" ∈ g_tb := tb1 227 rfl rfl
theorem w1_228 : Cond.fieldLink RX10 285 "NightDots$Act" "path" "I" ∈ g_tb := tb1 228 rfl rfl
theorem w1_229 : Cond.fieldLink RX1 25 "NightDots$Act" "born" "Z" ∈ g_tb := tb1 229 rfl rfl
theorem w1_230 : Cond.fieldLink RX10 294 "NightDots$Act" "born" "Z" ∈ g_tb := tb1 230 rfl rfl
theorem w1_231 : Cond.fieldLink RX1 29 "NightDots$Act" "swallowed" "I" ∈ g_tb := tb1 231 rfl rfl
theorem w1_232 : Cond.fieldLink RX10 276 "NightDots$Act" "swallowed" "I" ∈ g_tb := tb1 232 rfl rfl
theorem w1_233 : Cond.fieldLink RX0 10 "NightDots$Act" "before" "LNightDots$Row;" ∈ g_tb := tb1 233 rfl rfl
theorem w1_234 : Cond.fieldLink RX1 32 "NightDots$Act" "before" "LNightDots$Row;" ∈ g_tb := tb1 234 rfl rfl
theorem w1_235 : Cond.fieldLink RX10 287 "NightDots$Act" "before" "LNightDots$Row;" ∈ g_tb := tb1 235 rfl rfl
theorem w2_5 : Cond.fieldLink RX1 11 "NightDots$Acts" "ring" "[LNightDots$Act;" ∈ g_tb := tb2 5 rfl rfl
theorem w2_6 : Cond.fieldLink RX1 18 "NightDots$Acts" "next" "I" ∈ g_tb := tb2 6 rfl rfl
theorem w2_7 : Cond.fieldLink RX1 42 "NightDots$Acts" "kept" "I" ∈ g_tb := tb2 7 rfl rfl
theorem w2_8 : Cond.fieldLink RX10 300 "NightDots$Acts" "kept" "I" ∈ g_tb := tb2 8 rfl rfl
theorem w2_16 : Cond.classLink RX10 57 RX3 ∈ g_tb := tb2 16 rfl rfl
theorem w2_17 : Cond.instantiable RX3 5 ∈ g_tb := tb2 17 rfl rfl
theorem w2_18 : Cond.methodLinkNest RX10 59 yX3_init RX10 ∈ lw_tbl := tbl2 18 rfl
theorem w2_19 : Cond.instanceMethod yX3_init ∈ g_tb := tb2 19 rfl rfl
theorem w2_20 : Cond.code yX3_init cX3_init 1 none ∈ g_tb := tb2 20 rfl rfl
theorem w2_21 : Cond.methodLink RX3 3 objectInit ∈ g_tb := tb2 21 rfl rfl
theorem w2_22 : Cond.fieldLink RX3 15 "NightDots$Line" "dots" "J" ∈ g_tb := tb2 22 rfl rfl
theorem w2_23 : Cond.fieldLink RX3 21 "NightDots$Line" "hours" "J" ∈ g_tb := tb2 23 rfl rfl
theorem w2_24 : Cond.fieldLink RX3 24 "NightDots$Line" "places" "J" ∈ g_tb := tb2 24 rfl rfl
theorem w2_25 : Cond.fieldLink RX3 39 "NightDots$Line" "speedTop" "J" ∈ g_tb := tb2 25 rfl rfl
theorem w2_26 : Cond.fieldLink RX10 234 "NightDots$Line" "speedTop" "J" ∈ g_tb := tb2 26 rfl rfl
theorem w2_27 : Cond.fieldLink RX3 42 "NightDots$Line" "speedBelow" "J" ∈ g_tb := tb2 27 rfl rfl
theorem w2_28 : Cond.fieldLink RX10 238 "NightDots$Line" "speedBelow" "J" ∈ g_tb := tb2 28 rfl rfl
theorem w2_40 : Cond.classLink RX10 64 RX6 ∈ g_tb := tb2 40 rfl rfl
theorem w2_41 : Cond.methodLinkNest RX10 66 yX6_init RX10 ∈ lw_tbl := tbl2 41 rfl
theorem w2_42 : Cond.fieldLink RX10 14 "NightDots" "sky" "LNightDots$Sky;" ∈ g_tb := tb2 42 rfl rfl
theorem w2_43 : Cond.fieldLink RX10 23 "NightDots" "lines" "LNightDots$Net;" ∈ g_tb := tb2 43 rfl rfl
theorem w2_44 : Cond.fieldLink RX10 30 "NightDots" "twos" "LNightDots$BitList;" ∈ g_tb := tb2 44 rfl rfl
theorem w2_45 : Cond.fieldLink RX10 39 "NightDots" "fours" "LNightDots$PairList;" ∈ g_tb := tb2 45 rfl rfl
theorem w2_46 : Cond.fieldLink RX10 46 "NightDots" "wanderers" "LNightDots$Wanderers;" ∈ g_tb := tb2 46 rfl rfl
theorem w2_47 : Cond.fieldLink RX10 53 "NightDots" "acts" "LNightDots$Acts;" ∈ g_tb := tb2 47 rfl rfl
theorem w2_48 : Cond.fieldLink RX10 60 "NightDots" "line" "LNightDots$Line;" ∈ g_tb := tb2 48 rfl rfl
theorem w2_49 : Cond.fieldLink RX10 67 "NightDots" "group" "LNightDots$Row;" ∈ g_tb := tb2 49 rfl rfl
theorem w2_67 : Cond.methodLink RL 13 yX10_dot ∈ g_tb := tb2 67 rfl rfl
theorem w2_68 : Cond.instanceMethod yX10_dot ∈ g_tb := tb2 68 rfl rfl
theorem w2_69 : Cond.selects RX10 yX10_dot yX10_dot ∈ g_tb := tb2 69 rfl rfl
theorem w2_70 : Cond.code yX10_dot cX10_dot 7 (some .int) ∈ g_tb := tb2 70 rfl rfl
theorem w2_71 : Cond.methodLink RX10 71 yX10_isWithin ∈ g_tb := tb2 71 rfl rfl
theorem w2_72 : Cond.static yX10_isWithin ∈ g_tb := tb2 72 rfl rfl
theorem w2_73 : Cond.code yX10_isWithin cX10_isWithin 3 (some .boolean) ∈ g_tb := tb2 73 rfl rfl
theorem w2_74 : Cond.methodLink RX10 75 yX7_find ∈ g_tb := tb2 74 rfl rfl
theorem w2_75 : Cond.instanceMethod yX7_find ∈ g_tb := tb2 75 rfl rfl
theorem w2_76 : Cond.selects RX7 yX7_find yX7_find ∈ g_tb := tb2 76 rfl rfl
theorem w2_77 : Cond.code yX7_find cX7_find 5 (some .int) ∈ g_tb := tb2 77 rfl rfl
theorem w2_78 : Cond.methodLink RX10 79 yX7_add ∈ g_tb := tb2 78 rfl rfl
theorem w2_79 : Cond.instanceMethod yX7_add ∈ g_tb := tb2 79 rfl rfl
theorem w2_80 : Cond.selects RX7 yX7_add yX7_add ∈ g_tb := tb2 80 rfl rfl
theorem w2_81 : Cond.code yX7_add cX7_add 6 (some .int) ∈ g_tb := tb2 81 rfl rfl
theorem w2_82 : Cond.methodLink RX10 83 yX1_forgetAll ∈ g_tb := tb2 82 rfl rfl
theorem w2_83 : Cond.instanceMethod yX1_forgetAll ∈ g_tb := tb2 83 rfl rfl
theorem w2_84 : Cond.selects RX1 yX1_forgetAll yX1_forgetAll ∈ g_tb := tb2 84 rfl rfl
theorem w2_85 : Cond.code yX1_forgetAll cX1_forgetAll 1 none ∈ g_tb := tb2 85 rfl rfl
theorem w2_86 : Cond.methodLink RX10 86 yX5_forget ∈ g_tb := tb2 86 rfl rfl
theorem w2_87 : Cond.instanceMethod yX5_forget ∈ g_tb := tb2 87 rfl rfl
theorem w2_88 : Cond.selects RX5 yX5_forget yX5_forget ∈ g_tb := tb2 88 rfl rfl
theorem w2_89 : Cond.code yX5_forget cX5_forget 1 none ∈ g_tb := tb2 89 rfl rfl
theorem w2_90 : Cond.methodLink RL 18 yX10_pace ∈ g_tb := tb2 90 rfl rfl
theorem w2_91 : Cond.instanceMethod yX10_pace ∈ g_tb := tb2 91 rfl rfl
theorem w2_92 : Cond.selects RX10 yX10_pace yX10_pace ∈ g_tb := tb2 92 rfl rfl
theorem w2_93 : Cond.code yX10_pace cX10_pace 3 (some .int) ∈ g_tb := tb2 93 rfl rfl
theorem w2_94 : Cond.methodLink RL 23 yX10_net ∈ g_tb := tb2 94 rfl rfl
theorem w2_95 : Cond.instanceMethod yX10_net ∈ g_tb := tb2 95 rfl rfl
theorem w2_96 : Cond.selects RX10 yX10_net yX10_net ∈ g_tb := tb2 96 rfl rfl
theorem w2_97 : Cond.code yX10_net cX10_net 3 (some .int) ∈ g_tb := tb2 97 rfl rfl
theorem w2_98 : Cond.methodLink RL 28 yX10_about ∈ g_tb := tb2 98 rfl rfl
theorem w2_99 : Cond.instanceMethod yX10_about ∈ g_tb := tb2 99 rfl rfl
theorem w2_100 : Cond.selects RX10 yX10_about yX10_about ∈ g_tb := tb2 100 rfl rfl
theorem w2_101 : Cond.code yX10_about cX10_about 3 (some .int) ∈ g_tb := tb2 101 rfl rfl
theorem w2_102 : Cond.methodLink RX10 99 yX7_has ∈ g_tb := tb2 102 rfl rfl
theorem w2_103 : Cond.instanceMethod yX7_has ∈ g_tb := tb2 103 rfl rfl
theorem w2_104 : Cond.selects RX7 yX7_has yX7_has ∈ g_tb := tb2 104 rfl rfl
theorem w2_105 : Cond.code yX7_has cX7_has 2 (some .boolean) ∈ g_tb := tb2 105 rfl rfl
theorem w2_106 : Cond.methodLink RX10 116 yX7_nightOf ∈ g_tb := tb2 106 rfl rfl
theorem w2_107 : Cond.instanceMethod yX7_nightOf ∈ g_tb := tb2 107 rfl rfl
theorem w2_108 : Cond.selects RX7 yX7_nightOf yX7_nightOf ∈ g_tb := tb2 108 rfl rfl
theorem w2_109 : Cond.code yX7_nightOf cX7_nightOf 2 (some .int) ∈ g_tb := tb2 109 rfl rfl
theorem w2_110 : Cond.methodLink RL 32 yX10_bits ∈ g_tb := tb2 110 rfl rfl
theorem w2_111 : Cond.instanceMethod yX10_bits ∈ g_tb := tb2 111 rfl rfl
theorem w2_112 : Cond.selects RX10 yX10_bits yX10_bits ∈ g_tb := tb2 112 rfl rfl
theorem w2_113 : Cond.code yX10_bits cX10_bits 1 (some .int) ∈ g_tb := tb2 113 rfl rfl
theorem w2_114 : Cond.methodLink RX10 123 yX2_total ∈ g_tb := tb2 114 rfl rfl
theorem w2_115 : Cond.instanceMethod yX2_total ∈ g_tb := tb2 115 rfl rfl
theorem w2_116 : Cond.selects RX2 yX2_total yX2_total ∈ g_tb := tb2 116 rfl rfl
theorem w2_117 : Cond.code yX2_total cX2_total 4 (some .int) ∈ g_tb := tb2 117 rfl rfl
theorem w2_118 : Cond.methodLink RX2 45 yX2_isBit ∈ g_tb := tb2 118 rfl rfl
theorem w2_119 : Cond.instanceMethod yX2_isBit ∈ g_tb := tb2 119 rfl rfl
theorem w2_120 : Cond.selects RX2 yX2_isBit yX2_isBit ∈ g_tb := tb2 120 rfl rfl
theorem w2_121 : Cond.code yX2_isBit cX2_isBit 4 (some .boolean) ∈ g_tb := tb2 121 rfl rfl
theorem w2_122 : Cond.methodLink RX2 23 yX7_isFree ∈ g_tb := tb2 122 rfl rfl
theorem w2_123 : Cond.instanceMethod yX7_isFree ∈ g_tb := tb2 123 rfl rfl
theorem w2_124 : Cond.selects RX7 yX7_isFree yX7_isFree ∈ g_tb := tb2 124 rfl rfl
theorem w2_125 : Cond.code yX7_isFree cX7_isFree 2 (some .boolean) ∈ g_tb := tb2 125 rfl rfl
theorem w2_126 : Cond.methodLink RX2 27 yX7_nightOf ∈ g_tb := tb2 126 rfl rfl
theorem w2_127 : Cond.methodLink RX2 34 Lib.Math.abs.name ∈ g_tb := tb2 127 rfl rfl
theorem w2_128 : Cond.static Lib.Math.abs.name ∈ g_tb := tb2 128 rfl rfl
theorem w2_129 : Cond.code Lib.Math.abs.name Lib.Math.abs.code 1 (some .int) ∈ g_tb := tb2 129 rfl rfl
theorem w2_130 : Cond.methodLink RL 37 yX10_bit ∈ g_tb := tb2 130 rfl rfl
theorem w2_131 : Cond.instanceMethod yX10_bit ∈ g_tb := tb2 131 rfl rfl
theorem w2_132 : Cond.selects RX10 yX10_bit yX10_bit ∈ g_tb := tb2 132 rfl rfl
theorem w2_133 : Cond.code yX10_bit cX10_bit 3 (some .int) ∈ g_tb := tb2 133 rfl rfl
theorem w2_134 : Cond.methodLink RX10 127 yX2_seek ∈ g_tb := tb2 134 rfl rfl
theorem w2_135 : Cond.instanceMethod yX2_seek ∈ g_tb := tb2 135 rfl rfl
theorem w2_136 : Cond.selects RX2 yX2_seek yX2_seek ∈ g_tb := tb2 136 rfl rfl
theorem w2_137 : Cond.code yX2_seek cX2_seek 5 (some .boolean) ∈ g_tb := tb2 137 rfl rfl
theorem w2_138 : Cond.methodLink RL 41 yX10_pairs ∈ g_tb := tb2 138 rfl rfl
theorem w2_139 : Cond.instanceMethod yX10_pairs ∈ g_tb := tb2 139 rfl rfl
theorem w2_140 : Cond.selects RX10 yX10_pairs yX10_pairs ∈ g_tb := tb2 140 rfl rfl
theorem w2_141 : Cond.code yX10_pairs cX10_pairs 1 (some .int) ∈ g_tb := tb2 141 rfl rfl
theorem w2_142 : Cond.methodLink RX10 136 yX5_total ∈ g_tb := tb2 142 rfl rfl
theorem w2_143 : Cond.instanceMethod yX5_total ∈ g_tb := tb2 143 rfl rfl
theorem w2_144 : Cond.selects RX5 yX5_total yX5_total ∈ g_tb := tb2 144 rfl rfl
theorem w2_145 : Cond.code yX5_total cX5_total 1 (some .int) ∈ g_tb := tb2 145 rfl rfl
theorem w2_146 : Cond.methodLink RX5 47 yX5_findBits ∈ g_tb := tb2 146 rfl rfl
theorem w2_148 : Cond.instanceMethod yX5_findBits ∈ g_tb := tb2 148 rfl rfl
theorem w2_149 : Cond.code yX5_findBits cX5_findBits 3 none ∈ g_tb := tb2 149 rfl rfl
theorem w2_150 : Cond.methodLink RX5 72 yX2_isBit ∈ g_tb := tb2 150 rfl rfl
theorem w2_151 : Cond.methodLink RX5 78 yX5_keepBit ∈ g_tb := tb2 151 rfl rfl
theorem w2_153 : Cond.instanceMethod yX5_keepBit ∈ g_tb := tb2 153 rfl rfl
theorem w2_154 : Cond.code yX5_keepBit cX5_keepBit 3 none ∈ g_tb := tb2 154 rfl rfl
theorem w2_155 : Cond.methodLink RX5 50 yX5_findPairs ∈ g_tb := tb2 155 rfl rfl
theorem w2_157 : Cond.instanceMethod yX5_findPairs ∈ g_tb := tb2 157 rfl rfl
theorem w2_158 : Cond.code yX5_findPairs cX5_findPairs 3 none ∈ g_tb := tb2 158 rfl rfl
theorem w2_159 : Cond.methodLink RX5 82 yX5_gather ∈ g_tb := tb2 159 rfl rfl
theorem w2_160 : Cond.instanceMethod yX5_gather ∈ g_tb := tb2 160 rfl rfl
theorem w2_161 : Cond.selects RX5 yX5_gather yX5_gather ∈ g_tb := tb2 161 rfl rfl
theorem w2_162 : Cond.code yX5_gather cX5_gather 4 none ∈ g_tb := tb2 162 rfl rfl
theorem w2_163 : Cond.methodLink RX5 60 yX6_clear ∈ g_tb := tb2 163 rfl rfl
theorem w2_164 : Cond.instanceMethod yX6_clear ∈ g_tb := tb2 164 rfl rfl
theorem w2_165 : Cond.selects RX6 yX6_clear yX6_clear ∈ g_tb := tb2 165 rfl rfl
theorem w2_166 : Cond.code yX6_clear cX6_clear 1 none ∈ g_tb := tb2 166 rfl rfl
theorem w2_167 : Cond.methodLink RX5 63 yX6_add ∈ g_tb := tb2 167 rfl rfl
theorem w2_168 : Cond.instanceMethod yX6_add ∈ g_tb := tb2 168 rfl rfl
theorem w2_169 : Cond.selects RX6 yX6_add yX6_add ∈ g_tb := tb2 169 rfl rfl
theorem w2_170 : Cond.code yX6_add cX6_add 2 none ∈ g_tb := tb2 170 rfl rfl
theorem w2_171 : Cond.methodLink RX5 86 yX5_areOfUnlikeNights ∈ g_tb := tb2 171 rfl rfl
theorem w2_173 : Cond.instanceMethod yX5_areOfUnlikeNights ∈ g_tb := tb2 173 rfl rfl
theorem w2_174 : Cond.code yX5_areOfUnlikeNights cX5_areOfUnlikeNights 3 (some .boolean) ∈ g_tb := tb2 174 rfl rfl
theorem w2_175 : Cond.methodLink RX5 98 yX7_nightOf ∈ g_tb := tb2 175 rfl rfl
theorem w2_176 : Cond.methodLink RX5 89 yX4_isSound ∈ g_tb := tb2 176 rfl rfl
theorem w2_177 : Cond.instanceMethod yX4_isSound ∈ g_tb := tb2 177 rfl rfl
theorem w2_178 : Cond.selects RX4 yX4_isSound yX4_isSound ∈ g_tb := tb2 178 rfl rfl
theorem w2_179 : Cond.code yX4_isSound cX4_isSound 2 (some .boolean) ∈ g_tb := tb2 179 rfl rfl
theorem w2_180 : Cond.methodLink RX4 65 yX4_isSoundBy ∈ g_tb := tb2 180 rfl rfl
theorem w2_182 : Cond.instanceMethod yX4_isSoundBy ∈ g_tb := tb2 182 rfl rfl
theorem w2_183 : Cond.code yX4_isSoundBy cX4_isSoundBy 4 (some .boolean) ∈ g_tb := tb2 183 rfl rfl
theorem w2_184 : Cond.methodLink RX4 57 yX4_span ∈ g_tb := tb2 184 rfl rfl
theorem w2_186 : Cond.instanceMethod yX4_span ∈ g_tb := tb2 186 rfl rfl
theorem w2_187 : Cond.code yX4_span cX4_span 9 (some .boolean) ∈ g_tb := tb2 187 rfl rfl
theorem w2_188 : Cond.methodLink RX4 31 yX7_placeOf ∈ g_tb := tb2 188 rfl rfl
theorem w2_189 : Cond.instanceMethod yX7_placeOf ∈ g_tb := tb2 189 rfl rfl
theorem w2_190 : Cond.selects RX7 yX7_placeOf yX7_placeOf ∈ g_tb := tb2 190 rfl rfl
theorem w2_191 : Cond.code yX7_placeOf cX7_placeOf 3 (some .int) ∈ g_tb := tb2 191 rfl rfl
theorem w2_192 : Cond.methodLink RX4 40 Lib.Math.max.name ∈ g_tb := tb2 192 rfl rfl
theorem w2_193 : Cond.static Lib.Math.max.name ∈ g_tb := tb2 193 rfl rfl
theorem w2_194 : Cond.code Lib.Math.max.name Lib.Math.max.code 2 (some .int) ∈ g_tb := tb2 194 rfl rfl
theorem w2_195 : Cond.methodLink RX4 45 Lib.Math.min.name ∈ g_tb := tb2 195 rfl rfl
theorem w2_196 : Cond.static Lib.Math.min.name ∈ g_tb := tb2 196 rfl rfl
theorem w2_197 : Cond.code Lib.Math.min.name Lib.Math.min.code 2 (some .int) ∈ g_tb := tb2 197 rfl rfl
theorem w2_198 : Cond.methodLink RX4 48 yJ9_floorDiv_7cf53 ∈ g_tb := tb2 198 rfl rfl
theorem w2_199 : Cond.static yJ9_floorDiv_7cf53 ∈ g_tb := tb2 199 rfl rfl
theorem w2_200 : Cond.code yJ9_floorDiv_7cf53 cJ9_floorDiv_7cf53 3 (some .int) ∈ g_tb := tb2 200 rfl rfl
theorem w2_201 : Cond.methodLink RX5 95 yX5_keepPair ∈ g_tb := tb2 201 rfl rfl
theorem w2_203 : Cond.instanceMethod yX5_keepPair ∈ g_tb := tb2 203 rfl rfl
theorem w2_204 : Cond.code yX5_keepPair cX5_keepPair 3 none ∈ g_tb := tb2 204 rfl rfl
theorem w2_205 : Cond.methodLink RL 45 yX10_pair ∈ g_tb := tb2 205 rfl rfl
theorem w2_206 : Cond.instanceMethod yX10_pair ∈ g_tb := tb2 206 rfl rfl
theorem w2_207 : Cond.selects RX10 yX10_pair yX10_pair ∈ g_tb := tb2 207 rfl rfl
theorem w2_208 : Cond.code yX10_pair cX10_pair 3 (some .int) ∈ g_tb := tb2 208 rfl rfl
theorem w2_209 : Cond.methodLink RL 49 yX10_start ∈ g_tb := tb2 209 rfl rfl
theorem w2_210 : Cond.instanceMethod yX10_start ∈ g_tb := tb2 210 rfl rfl
theorem w2_211 : Cond.selects RX10 yX10_start yX10_start ∈ g_tb := tb2 211 rfl rfl
theorem w2_212 : Cond.code yX10_start cX10_start 3 (some .int) ∈ g_tb := tb2 212 rfl rfl
theorem w2_213 : Cond.methodLink RX10 143 yX10_isName ∈ g_tb := tb2 213 rfl rfl
theorem w2_214 : Cond.static yX10_isName ∈ g_tb := tb2 214 rfl rfl
theorem w2_215 : Cond.code yX10_isName cX10_isName 1 (some .boolean) ∈ g_tb := tb2 215 rfl rfl
theorem w2_216 : Cond.methodLink RX10 146 yX5_gather ∈ g_tb := tb2 216 rfl rfl
theorem w2_217 : Cond.methodLink RX10 150 yX10_begin ∈ g_tb := tb2 217 rfl rfl
theorem w2_219 : Cond.instanceMethod yX10_begin ∈ g_tb := tb2 219 rfl rfl
theorem w2_220 : Cond.code yX10_begin cX10_begin 4 (some .int) ∈ g_tb := tb2 220 rfl rfl
theorem w2_221 : Cond.methodLink RX10 312 yX9_add ∈ g_tb := tb2 221 rfl rfl
theorem w2_222 : Cond.instanceMethod yX9_add ∈ g_tb := tb2 222 rfl rfl
theorem w2_223 : Cond.selects RX9 yX9_add yX9_add ∈ g_tb := tb2 223 rfl rfl
theorem w2_224 : Cond.code yX9_add cX9_add 3 (some .int) ∈ g_tb := tb2 224 rfl rfl
theorem w2_225 : Cond.methodLink RX10 260 yX10_changeRow ∈ g_tb := tb2 225 rfl rfl
theorem w2_227 : Cond.instanceMethod yX10_changeRow ∈ g_tb := tb2 227 rfl rfl
theorem w2_228 : Cond.code yX10_changeRow cX10_changeRow 3 (some (.object "NightDots$Act")) ∈ g_tb := tb2 228 rfl rfl
theorem w2_229 : Cond.methodLink RX10 314 yX1_keep ∈ g_tb := tb2 229 rfl rfl
theorem w2_230 : Cond.instanceMethod yX1_keep ∈ g_tb := tb2 230 rfl rfl
theorem w2_231 : Cond.selects RX1 yX1_keep yX1_keep ∈ g_tb := tb2 231 rfl rfl
theorem w2_232 : Cond.code yX1_keep cX1_keep 4 (some (.object "NightDots$Act")) ∈ g_tb := tb2 232 rfl rfl
theorem w2_233 : Cond.methodLink RX1 36 yX6_become ∈ g_tb := tb2 233 rfl rfl
theorem w2_234 : Cond.instanceMethod yX6_become ∈ g_tb := tb2 234 rfl rfl
theorem w2_235 : Cond.selects RX6 yX6_become yX6_become ∈ g_tb := tb2 235 rfl rfl
theorem w2_236 : Cond.code yX6_become cX6_become 2 none ∈ g_tb := tb2 236 rfl rfl
theorem w2_237 : Cond.methodLink RX6 23 yX6_clear ∈ g_tb := tb2 237 rfl rfl
theorem w2_238 : Cond.methodLink RX6 26 yX6_addAll ∈ g_tb := tb2 238 rfl rfl
theorem w2_239 : Cond.instanceMethod yX6_addAll ∈ g_tb := tb2 239 rfl rfl
theorem w3_0 : Cond.selects RX6 yX6_addAll yX6_addAll ∈ g_tb := tb3 0 rfl rfl
theorem w3_1 : Cond.code yX6_addAll cX6_addAll 3 none ∈ g_tb := tb3 1 rfl rfl
theorem w3_2 : Cond.methodLink RX6 19 yX6_add ∈ g_tb := tb3 2 rfl rfl
theorem w3_3 : Cond.methodLink RX1 45 Lib.Math.min.name ∈ g_tb := tb3 3 rfl rfl
theorem w3_4 : Cond.methodLink RX10 290 yX9_replaceRow ∈ g_tb := tb3 4 rfl rfl
theorem w3_5 : Cond.instanceMethod yX9_replaceRow ∈ g_tb := tb3 5 rfl rfl
theorem w3_6 : Cond.selects RX9 yX9_replaceRow yX9_replaceRow ∈ g_tb := tb3 6 rfl rfl
theorem w3_7 : Cond.code yX9_replaceRow cX9_replaceRow 4 none ∈ g_tb := tb3 7 rfl rfl
theorem w3_8 : Cond.methodLink RX9 41 yX7_putAll ∈ g_tb := tb3 8 rfl rfl
theorem w3_9 : Cond.instanceMethod yX7_putAll ∈ g_tb := tb3 9 rfl rfl
theorem w3_10 : Cond.selects RX7 yX7_putAll yX7_putAll ∈ g_tb := tb3 10 rfl rfl
theorem w3_11 : Cond.code yX7_putAll cX7_putAll 4 none ∈ g_tb := tb3 11 rfl rfl
theorem w3_12 : Cond.methodLink RX9 47 yX6_become ∈ g_tb := tb3 12 rfl rfl
theorem w3_13 : Cond.methodLink RL 53 yX10_single ∈ g_tb := tb3 13 rfl rfl
theorem w3_14 : Cond.instanceMethod yX10_single ∈ g_tb := tb3 14 rfl rfl
theorem w3_15 : Cond.selects RX10 yX10_single yX10_single ∈ g_tb := tb3 15 rfl rfl
theorem w3_16 : Cond.code yX10_single cX10_single 3 (some .int) ∈ g_tb := tb3 16 rfl rfl
theorem w3_17 : Cond.methodLink RX10 153 yX6_clear ∈ g_tb := tb3 17 rfl rfl
theorem w3_18 : Cond.methodLink RX10 156 yX6_add ∈ g_tb := tb3 18 rfl rfl
theorem w3_19 : Cond.methodLink RX10 159 yX7_isFree ∈ g_tb := tb3 19 rfl rfl
theorem w3_20 : Cond.methodLink RX10 162 yX4_isSound ∈ g_tb := tb3 20 rfl rfl
theorem w3_21 : Cond.methodLink RL 57 yX10_join ∈ g_tb := tb3 21 rfl rfl
theorem w3_22 : Cond.instanceMethod yX10_join ∈ g_tb := tb3 22 rfl rfl
theorem w3_23 : Cond.selects RX10 yX10_join yX10_join ∈ g_tb := tb3 23 rfl rfl
theorem w3_24 : Cond.code yX10_join cX10_join 3 (some .int) ∈ g_tb := tb3 24 rfl rfl
theorem w3_25 : Cond.methodLink RX10 166 yX9_has ∈ g_tb := tb3 25 rfl rfl
theorem w3_26 : Cond.instanceMethod yX9_has ∈ g_tb := tb3 26 rfl rfl
theorem w3_27 : Cond.selects RX9 yX9_has yX9_has ∈ g_tb := tb3 27 rfl rfl
theorem w3_28 : Cond.code yX9_has cX9_has 2 (some .boolean) ∈ g_tb := tb3 28 rfl rfl
theorem w3_29 : Cond.methodLink RX10 176 yX6_become ∈ g_tb := tb3 29 rfl rfl
theorem w3_30 : Cond.methodLink RX10 180 yX10_joinGroup ∈ g_tb := tb3 30 rfl rfl
theorem w3_32 : Cond.instanceMethod yX10_joinGroup ∈ g_tb := tb3 32 rfl rfl
theorem w3_33 : Cond.code yX10_joinGroup cX10_joinGroup 2 (some .int) ∈ g_tb := tb3 33 rfl rfl
theorem w3_34 : Cond.methodLink RX10 186 yX10_lengthen ∈ g_tb := tb3 34 rfl rfl
theorem w3_36 : Cond.instanceMethod yX10_lengthen ∈ g_tb := tb3 36 rfl rfl
theorem w3_37 : Cond.code yX10_lengthen cX10_lengthen 2 (some .int) ∈ g_tb := tb3 37 rfl rfl
theorem w3_38 : Cond.methodLink RL 61 yX10_joinBit ∈ g_tb := tb3 38 rfl rfl
theorem w3_39 : Cond.instanceMethod yX10_joinBit ∈ g_tb := tb3 39 rfl rfl
theorem w3_40 : Cond.selects RX10 yX10_joinBit yX10_joinBit ∈ g_tb := tb3 40 rfl rfl
theorem w3_41 : Cond.code yX10_joinBit cX10_joinBit 3 (some .int) ∈ g_tb := tb3 41 rfl rfl
theorem w3_42 : Cond.methodLink RL 65 yX10_force ∈ g_tb := tb3 42 rfl rfl
theorem w3_43 : Cond.instanceMethod yX10_force ∈ g_tb := tb3 43 rfl rfl
theorem w3_44 : Cond.selects RX10 yX10_force yX10_force ∈ g_tb := tb3 44 rfl rfl
theorem w3_45 : Cond.code yX10_force cX10_force 3 (some .int) ∈ g_tb := tb3 45 rfl rfl
theorem w3_46 : Cond.methodLink RL 69 yX10_path ∈ g_tb := tb3 46 rfl rfl
theorem w3_47 : Cond.instanceMethod yX10_path ∈ g_tb := tb3 47 rfl rfl
theorem w3_48 : Cond.selects RX10 yX10_path yX10_path ∈ g_tb := tb3 48 rfl rfl
theorem w3_49 : Cond.code yX10_path cX10_path 4 (some .int) ∈ g_tb := tb3 49 rfl rfl
theorem w3_50 : Cond.methodLink RX10 199 yX10_dotOfRow ∈ g_tb := tb3 50 rfl rfl
theorem w3_51 : Cond.static yX10_dotOfRow ∈ g_tb := tb3 51 rfl rfl
theorem w3_52 : Cond.code yX10_dotOfRow cX10_dotOfRow 2 (some .int) ∈ g_tb := tb3 52 rfl rfl
theorem w3_53 : Cond.methodLink RL 73 yX10_heap ∈ g_tb := tb3 53 rfl rfl
theorem w3_54 : Cond.instanceMethod yX10_heap ∈ g_tb := tb3 54 rfl rfl
theorem w3_55 : Cond.selects RX10 yX10_heap yX10_heap ∈ g_tb := tb3 55 rfl rfl
theorem w3_56 : Cond.code yX10_heap cX10_heap 2 (some .long) ∈ g_tb := tb3 56 rfl rfl
theorem w3_57 : Cond.methodLink RX10 203 yX4_linesOf ∈ g_tb := tb3 57 rfl rfl
theorem w3_58 : Cond.instanceMethod yX4_linesOf ∈ g_tb := tb3 58 rfl rfl
theorem w3_59 : Cond.selects RX4 yX4_linesOf yX4_linesOf ∈ g_tb := tb3 59 rfl rfl
theorem w3_60 : Cond.code yX4_linesOf cX4_linesOf 2 (some .long) ∈ g_tb := tb3 60 rfl rfl
theorem w3_61 : Cond.methodLink RX4 61 yX4_linesBy ∈ g_tb := tb3 61 rfl rfl
theorem w3_63 : Cond.instanceMethod yX4_linesBy ∈ g_tb := tb3 63 rfl rfl
theorem w3_64 : Cond.code yX4_linesBy cX4_linesBy 6 (some .long) ∈ g_tb := tb3 64 rfl rfl
theorem w3_65 : Cond.constantLong RX10 207 (-1) ∈ g_tb := tb3 65 rfl rfl
theorem w3_66 : Cond.methodLink RL 78 yX10_ahead ∈ g_tb := tb3 66 rfl rfl
theorem w3_67 : Cond.instanceMethod yX10_ahead ∈ g_tb := tb3 67 rfl rfl
theorem w3_68 : Cond.selects RX10 yX10_ahead yX10_ahead ∈ g_tb := tb3 68 rfl rfl
theorem w3_69 : Cond.code yX10_ahead cX10_ahead 5 (some .long) ∈ g_tb := tb3 69 rfl rfl
theorem w3_70 : Cond.constantLong RX10 209 (-9223372036854775808) ∈ g_tb := tb3 70 rfl rfl
theorem w3_71 : Cond.methodLink RX10 211 yX4_edge ∈ g_tb := tb3 71 rfl rfl
theorem w3_72 : Cond.instanceMethod yX4_edge ∈ g_tb := tb3 72 rfl rfl
theorem w3_73 : Cond.selects RX4 yX4_edge yX4_edge ∈ g_tb := tb3 73 rfl rfl
theorem w3_74 : Cond.code yX4_edge cX4_edge 10 (some .long) ∈ g_tb := tb3 74 rfl rfl
theorem w3_75 : Cond.constantLong RX4 69 (-9223372036854775808) ∈ g_tb := tb3 75 rfl rfl
theorem w3_76 : Cond.methodLink RL 83 yX10_tellOff ∈ g_tb := tb3 76 rfl rfl
theorem w3_77 : Cond.instanceMethod yX10_tellOff ∈ g_tb := tb3 77 rfl rfl
theorem w3_78 : Cond.selects RX10 yX10_tellOff yX10_tellOff ∈ g_tb := tb3 78 rfl rfl
theorem w3_79 : Cond.code yX10_tellOff cX10_tellOff 4 (some .int) ∈ g_tb := tb3 79 rfl rfl
theorem w3_80 : Cond.methodLink RX10 215 yX4_reaches ∈ g_tb := tb3 80 rfl rfl
theorem w3_81 : Cond.instanceMethod yX4_reaches ∈ g_tb := tb3 81 rfl rfl
theorem w3_82 : Cond.selects RX4 yX4_reaches yX4_reaches ∈ g_tb := tb3 82 rfl rfl
theorem w3_83 : Cond.code yX4_reaches cX4_reaches 3 (some .boolean) ∈ g_tb := tb3 83 rfl rfl
theorem w3_84 : Cond.methodLink RX4 75 yX4_isSound ∈ g_tb := tb3 84 rfl rfl
theorem w3_85 : Cond.methodLink RX4 79 yX4_reachesBy ∈ g_tb := tb3 85 rfl rfl
theorem w3_87 : Cond.instanceMethod yX4_reachesBy ∈ g_tb := tb3 87 rfl rfl
theorem w3_88 : Cond.code yX4_reachesBy cX4_reachesBy 6 (some .boolean) ∈ g_tb := tb3 88 rfl rfl
theorem w3_89 : Cond.methodLink RX4 71 yX4_edge ∈ g_tb := tb3 89 rfl rfl
theorem w3_90 : Cond.methodLink RL 87 yX10_fit ∈ g_tb := tb3 90 rfl rfl
theorem w3_91 : Cond.instanceMethod yX10_fit ∈ g_tb := tb3 91 rfl rfl
theorem w3_92 : Cond.selects RX10 yX10_fit yX10_fit ∈ g_tb := tb3 92 rfl rfl
theorem w3_93 : Cond.code yX10_fit cX10_fit 5 (some .long) ∈ g_tb := tb3 93 rfl rfl
theorem w3_94 : Cond.methodLink RX10 219 yX10_lay ∈ g_tb := tb3 94 rfl rfl
theorem w3_96 : Cond.instanceMethod yX10_lay ∈ g_tb := tb3 96 rfl rfl
theorem w3_97 : Cond.code yX10_lay cX10_lay 3 (some .boolean) ∈ g_tb := tb3 97 rfl rfl
theorem w3_98 : Cond.methodLink RX10 321 yX3_through ∈ g_tb := tb3 98 rfl rfl
theorem w3_99 : Cond.instanceMethod yX3_through ∈ g_tb := tb3 99 rfl rfl
theorem w3_100 : Cond.selects RX3 yX3_through yX3_through ∈ g_tb := tb3 100 rfl rfl
theorem w3_101 : Cond.code yX3_through cX3_through 13 (some .boolean) ∈ g_tb := tb3 101 rfl rfl
theorem w3_102 : Cond.methodLink RX3 35 yX7_placeOf ∈ g_tb := tb3 102 rfl rfl
theorem w3_103 : Cond.methodLink RX10 223 yX3_placeTop ∈ g_tb := tb3 103 rfl rfl
theorem w3_104 : Cond.instanceMethod yX3_placeTop ∈ g_tb := tb3 104 rfl rfl
theorem w3_105 : Cond.selects RX3 yX3_placeTop yX3_placeTop ∈ g_tb := tb3 105 rfl rfl
theorem w3_106 : Cond.code yX3_placeTop cX3_placeTop 1 (some .long) ∈ g_tb := tb3 106 rfl rfl
theorem w3_107 : Cond.methodLink RX10 227 yX3_placeBelow ∈ g_tb := tb3 107 rfl rfl
theorem w3_108 : Cond.instanceMethod yX3_placeBelow ∈ g_tb := tb3 108 rfl rfl
theorem w3_109 : Cond.selects RX3 yX3_placeBelow yX3_placeBelow ∈ g_tb := tb3 109 rfl rfl
theorem w3_110 : Cond.code yX3_placeBelow cX3_placeBelow 1 (some .long) ∈ g_tb := tb3 110 rfl rfl
theorem w3_111 : Cond.methodLink RX10 230 yX3_reduced ∈ g_tb := tb3 111 rfl rfl
theorem w3_112 : Cond.static yX3_reduced ∈ g_tb := tb3 112 rfl rfl
theorem w3_113 : Cond.code yX3_reduced cX3_reduced 7 (some .long) ∈ g_tb := tb3 113 rfl rfl
theorem w3_114 : Cond.methodLink RX3 52 Lib.MathLoose.abs_long.x ∈ g_tb := tb3 114 rfl rfl
theorem w3_115 : Cond.static Lib.MathLoose.abs_long.x ∈ g_tb := tb3 115 rfl rfl
theorem w3_116 : Cond.code Lib.MathLoose.abs_long.x Lib.MathLoose.abs_long.code 2 (some .long) ∈ g_tb := tb3 116 rfl rfl
theorem w3_117 : Cond.methodLink RX3 58 yX3_commonDivisor ∈ g_tb := tb3 117 rfl rfl
theorem w3_118 : Cond.static yX3_commonDivisor ∈ g_tb := tb3 118 rfl rfl
theorem w3_119 : Cond.code yX3_commonDivisor cX3_commonDivisor 11 (some .long) ∈ g_tb := tb3 119 rfl rfl
theorem w3_120 : Cond.constantLong RX3 62 (-9223372036854775808) ∈ g_tb := tb3 120 rfl rfl
theorem w3_121 : Cond.methodLink RL 92 yX10_miss ∈ g_tb := tb3 121 rfl rfl
theorem w3_122 : Cond.instanceMethod yX10_miss ∈ g_tb := tb3 122 rfl rfl
theorem w3_123 : Cond.selects RX10 yX10_miss yX10_miss ∈ g_tb := tb3 123 rfl rfl
theorem w3_124 : Cond.code yX10_miss cX10_miss 9 (some .long) ∈ g_tb := tb3 124 rfl rfl
theorem w3_125 : Cond.methodLink RX10 244 yX7_placeOf ∈ g_tb := tb3 125 rfl rfl
theorem w3_126 : Cond.methodLink RX10 248 yX3_missTop ∈ g_tb := tb3 126 rfl rfl
theorem w3_127 : Cond.instanceMethod yX3_missTop ∈ g_tb := tb3 127 rfl rfl
theorem w3_128 : Cond.selects RX3 yX3_missTop yX3_missTop ∈ g_tb := tb3 128 rfl rfl
theorem w3_129 : Cond.code yX3_missTop cX3_missTop 5 (some .long) ∈ g_tb := tb3 129 rfl rfl
theorem w3_130 : Cond.methodLink RX3 45 yX3_placeBelow ∈ g_tb := tb3 130 rfl rfl
theorem w3_131 : Cond.methodLink RX3 49 yX3_placeTop ∈ g_tb := tb3 131 rfl rfl
theorem w3_132 : Cond.methodLink RL 96 yX10_part ∈ g_tb := tb3 132 rfl rfl
theorem w3_133 : Cond.instanceMethod yX10_part ∈ g_tb := tb3 133 rfl rfl
theorem w3_134 : Cond.selects RX10 yX10_part yX10_part ∈ g_tb := tb3 134 rfl rfl
theorem w3_135 : Cond.code yX10_part cX10_part 5 (some .int) ∈ g_tb := tb3 135 rfl rfl
theorem w3_136 : Cond.methodLink RX10 252 yX10_parting ∈ g_tb := tb3 136 rfl rfl
theorem w3_138 : Cond.instanceMethod yX10_parting ∈ g_tb := tb3 138 rfl rfl
theorem w3_139 : Cond.code yX10_parting cX10_parting 4 (some .int) ∈ g_tb := tb3 139 rfl rfl
theorem w3_140 : Cond.methodLink RX10 325 yJ6_bitCount_0f7a4 ∈ g_tb := tb3 140 rfl rfl
theorem w3_141 : Cond.static yJ6_bitCount_0f7a4 ∈ g_tb := tb3 141 rfl rfl
theorem w3_142 : Cond.code yJ6_bitCount_0f7a4 cJ6_bitCount_0f7a4 1 (some .int) ∈ g_tb := tb3 142 rfl rfl
theorem w3_143 : Cond.constant RJ6 265 (1431655765) ∈ g_tb := tb3 143 rfl rfl
theorem w3_144 : Cond.constant RJ6 266 (858993459) ∈ g_tb := tb3 144 rfl rfl
theorem w3_145 : Cond.constant RJ6 267 (252645135) ∈ g_tb := tb3 145 rfl rfl
theorem w3_146 : Cond.methodLink RX10 256 yX10_keepStaying ∈ g_tb := tb3 146 rfl rfl
theorem w3_148 : Cond.instanceMethod yX10_keepStaying ∈ g_tb := tb3 148 rfl rfl
theorem w3_149 : Cond.code yX10_keepStaying cX10_keepStaying 4 none ∈ g_tb := tb3 149 rfl rfl
theorem w3_150 : Cond.methodLink RL 100 yX10_same ∈ g_tb := tb3 150 rfl rfl
theorem w3_151 : Cond.instanceMethod yX10_same ∈ g_tb := tb3 151 rfl rfl
theorem w3_152 : Cond.selects RX10 yX10_same yX10_same ∈ g_tb := tb3 152 rfl rfl
theorem w3_153 : Cond.code yX10_same cX10_same 3 (some .int) ∈ g_tb := tb3 153 rfl rfl
theorem w3_154 : Cond.methodLink RX10 264 yX10_gatherBoth ∈ g_tb := tb3 154 rfl rfl
theorem w3_156 : Cond.instanceMethod yX10_gatherBoth ∈ g_tb := tb3 156 rfl rfl
theorem w3_157 : Cond.code yX10_gatherBoth cX10_gatherBoth 3 none ∈ g_tb := tb3 157 rfl rfl
theorem w3_158 : Cond.methodLink RX10 318 yX6_addAll ∈ g_tb := tb3 158 rfl rfl
theorem w3_159 : Cond.methodLink RL 104 yX10_merge ∈ g_tb := tb3 159 rfl rfl
theorem w3_160 : Cond.instanceMethod yX10_merge ∈ g_tb := tb3 160 rfl rfl
theorem w3_161 : Cond.selects RX10 yX10_merge yX10_merge ∈ g_tb := tb3 161 rfl rfl
theorem w3_162 : Cond.code yX10_merge cX10_merge 6 (some .int) ∈ g_tb := tb3 162 rfl rfl
theorem w3_163 : Cond.methodLink RX10 268 Lib.Math.min.name ∈ g_tb := tb3 163 rfl rfl
theorem w3_164 : Cond.methodLink RX10 273 Lib.Math.max.name ∈ g_tb := tb3 164 rfl rfl
theorem w3_165 : Cond.methodLink RL 108 yX10_undo ∈ g_tb := tb3 165 rfl rfl
theorem w3_166 : Cond.instanceMethod yX10_undo ∈ g_tb := tb3 166 rfl rfl
theorem w3_167 : Cond.selects RX10 yX10_undo yX10_undo ∈ g_tb := tb3 167 rfl rfl
theorem w3_168 : Cond.code yX10_undo cX10_undo 2 (some .int) ∈ g_tb := tb3 168 rfl rfl
theorem w3_169 : Cond.methodLink RX10 281 yX1_takeLatest ∈ g_tb := tb3 169 rfl rfl
theorem w3_170 : Cond.instanceMethod yX1_takeLatest ∈ g_tb := tb3 170 rfl rfl
theorem w3_171 : Cond.selects RX1 yX1_takeLatest yX1_takeLatest ∈ g_tb := tb3 171 rfl rfl
theorem w3_172 : Cond.code yX1_takeLatest cX1_takeLatest 1 (some (.object "NightDots$Act")) ∈ g_tb := tb3 172 rfl rfl
theorem w3_173 : Cond.methodLink RX10 297 yX9_bringBack ∈ g_tb := tb3 173 rfl rfl
theorem w3_174 : Cond.instanceMethod yX9_bringBack ∈ g_tb := tb3 174 rfl rfl
theorem w3_175 : Cond.selects RX9 yX9_bringBack yX9_bringBack ∈ g_tb := tb3 175 rfl rfl
theorem w3_176 : Cond.code yX9_bringBack cX9_bringBack 2 none ∈ g_tb := tb3 176 rfl rfl
theorem w3_177 : Cond.methodLink RL 112 yX10_count ∈ g_tb := tb3 177 rfl rfl
theorem w3_178 : Cond.instanceMethod yX10_count ∈ g_tb := tb3 178 rfl rfl
theorem w3_179 : Cond.selects RX10 yX10_count yX10_count ∈ g_tb := tb3 179 rfl rfl
theorem w3_180 : Cond.code yX10_count cX10_count 2 (some .int) ∈ g_tb := tb3 180 rfl rfl
theorem w3_181 : Cond.methodLink RX10 306 yX7_freeOnes ∈ g_tb := tb3 181 rfl rfl
theorem w3_182 : Cond.instanceMethod yX7_freeOnes ∈ g_tb := tb3 182 rfl rfl
theorem w3_183 : Cond.selects RX7 yX7_freeOnes yX7_freeOnes ∈ g_tb := tb3 183 rfl rfl
theorem w3_184 : Cond.code yX7_freeOnes cX7_freeOnes 3 (some .int) ∈ g_tb := tb3 184 rfl rfl
theorem w3_185 : Cond.methodLink RX7 31 yX7_isFree ∈ g_tb := tb3 185 rfl rfl
theorem w3_186 : Cond.methodLink RX10 309 yX9_notGone ∈ g_tb := tb3 186 rfl rfl
theorem w3_187 : Cond.instanceMethod yX9_notGone ∈ g_tb := tb3 187 rfl rfl
theorem w3_188 : Cond.selects RX9 yX9_notGone yX9_notGone ∈ g_tb := tb3 188 rfl rfl
theorem w3_189 : Cond.code yX9_notGone cX9_notGone 3 (some .int) ∈ g_tb := tb3 189 rfl rfl
theorem w3_190 : Cond.methodLink RX9 33 yX9_has ∈ g_tb := tb3 190 rfl rfl
theorem w3_191 : Cond.classLink RL 10 RX11 ∈ g_tb := tb3 191 rfl rfl
theorem w3_192 : Cond.instantiable RX11 36 ∈ g_tb := tb3 192 rfl rfl
theorem w3_193 : Cond.methodLink RL 12 yX11_init ∈ g_tb := tb3 193 rfl rfl
theorem w3_194 : Cond.instanceMethod yX11_init ∈ g_tb := tb3 194 rfl rfl
theorem w3_195 : Cond.code yX11_init cX11_init 1 none ∈ g_tb := tb3 195 rfl rfl
theorem w3_196 : Cond.methodLink RX11 1 objectInit ∈ g_tb := tb3 196 rfl rfl
theorem w3_197 : Cond.fieldLink RX11 75 "NightDotsModel" "dots" "I" ∈ g_tb := tb3 197 rfl rfl
theorem w3_198 : Cond.fieldLink RX11 82 "NightDotsModel" "paths" "I" ∈ g_tb := tb3 198 rfl rfl
theorem w3_199 : Cond.fieldLink RX11 7 "NightDotsModel" "pace" "I" ∈ g_tb := tb3 199 rfl rfl
theorem w3_200 : Cond.fieldLink RX11 13 "NightDotsModel" "grid" "I" ∈ g_tb := tb3 200 rfl rfl
theorem w3_201 : Cond.fieldLink RX11 16 "NightDotsModel" "end" "I" ∈ g_tb := tb3 201 rfl rfl
theorem w3_202 : Cond.fieldLink RX11 19 "NightDotsModel" "hour" "[I" ∈ g_tb := tb3 202 rfl rfl
theorem w3_203 : Cond.fieldLink RX11 23 "NightDotsModel" "x" "[I" ∈ g_tb := tb3 203 rfl rfl
theorem w3_204 : Cond.fieldLink RX11 26 "NightDotsModel" "y" "[I" ∈ g_tb := tb3 204 rfl rfl
theorem w3_205 : Cond.fieldLink RX11 29 "NightDotsModel" "watcher" "[I" ∈ g_tb := tb3 205 rfl rfl
theorem w3_206 : Cond.fieldLink RX11 32 "NightDotsModel" "of" "[I" ∈ g_tb := tb3 206 rfl rfl
theorem w3_207 : Cond.fieldLink RX11 35 "NightDotsModel" "name" "[I" ∈ g_tb := tb3 207 rfl rfl
theorem w3_208 : Cond.fieldLink RX11 38 "NightDotsModel" "size" "[I" ∈ g_tb := tb3 208 rfl rfl
theorem w3_209 : Cond.fieldLink RX11 41 "NightDotsModel" "row" "[I" ∈ g_tb := tb3 209 rfl rfl
theorem w3_210 : Cond.fieldLink RX11 44 "NightDotsModel" "gone" "[Z" ∈ g_tb := tb3 210 rfl rfl
theorem w3_211 : Cond.fieldLink RX11 48 "NightDotsModel" "some" "[I" ∈ g_tb := tb3 211 rfl rfl
theorem w3_212 : Cond.fieldLink RX11 96 "NightDotsModel" "count" "I" ∈ g_tb := tb3 212 rfl rfl
theorem w3_213 : Cond.fieldLink RX11 114 "NightDotsModel" "low" "I" ∈ g_tb := tb3 213 rfl rfl
theorem w3_214 : Cond.fieldLink RX11 117 "NightDotsModel" "high" "I" ∈ g_tb := tb3 214 rfl rfl
theorem w3_215 : Cond.fieldLink RX11 135 "NightDotsModel" "least" "J" ∈ g_tb := tb3 215 rfl rfl
theorem w3_216 : Cond.fieldLink RX11 142 "NightDotsModel" "most" "J" ∈ g_tb := tb3 216 rfl rfl
theorem w3_217 : Cond.fieldLink RX11 51 "NightDotsModel" "bitA" "[I" ∈ g_tb := tb3 217 rfl rfl
theorem w3_218 : Cond.fieldLink RX11 54 "NightDotsModel" "bitB" "[I" ∈ g_tb := tb3 218 rfl rfl
theorem w3_219 : Cond.fieldLink RX11 150 "NightDotsModel" "bits" "I" ∈ g_tb := tb3 219 rfl rfl
theorem w3_220 : Cond.fieldLink RX11 57 "NightDotsModel" "pairA" "[I" ∈ g_tb := tb3 220 rfl rfl
theorem w3_221 : Cond.fieldLink RX11 60 "NightDotsModel" "pairB" "[I" ∈ g_tb := tb3 221 rfl rfl
theorem w3_222 : Cond.fieldLink RX11 160 "NightDotsModel" "pairs" "I" ∈ g_tb := tb3 222 rfl rfl
theorem w3_223 : Cond.fieldLink RX11 85 "NightDotsModel" "acts" "I" ∈ g_tb := tb3 223 rfl rfl
theorem w3_224 : Cond.fieldLink RX11 169 "NightDotsModel" "firstAct" "I" ∈ g_tb := tb3 224 rfl rfl
theorem w3_225 : Cond.fieldLink RX11 63 "NightDotsModel" "keptPaths" "[I" ∈ g_tb := tb3 225 rfl rfl
theorem w3_226 : Cond.fieldLink RX11 66 "NightDotsModel" "keptSize" "[I" ∈ g_tb := tb3 226 rfl rfl
theorem w3_227 : Cond.fieldLink RX11 69 "NightDotsModel" "keptRow" "[I" ∈ g_tb := tb3 227 rfl rfl
theorem w3_228 : Cond.fieldLink RX11 72 "NightDotsModel" "keptGone" "[Z" ∈ g_tb := tb3 228 rfl rfl
theorem w3_229 : Cond.fieldLink RX11 204 "NightDotsModel" "vUp" "J" ∈ g_tb := tb3 229 rfl rfl
theorem w3_230 : Cond.fieldLink RX11 210 "NightDotsModel" "pUp" "J" ∈ g_tb := tb3 230 rfl rfl
theorem w3_231 : Cond.fieldLink RX11 201 "NightDotsModel" "under" "J" ∈ g_tb := tb3 231 rfl rfl
theorem w3_232 : Cond.fieldLink RX11 207 "NightDotsModel" "pUnder" "J" ∈ g_tb := tb3 232 rfl rfl
theorem w4_66 : Cond.arrayClass .boolean ∈ g_tb := tb4 66 rfl rfl
theorem w4_67 : Cond.methodLink RL 17 yX11_dot ∈ g_tb := tb4 67 rfl rfl
theorem w4_68 : Cond.instanceMethod yX11_dot ∈ g_tb := tb4 68 rfl rfl
theorem w4_69 : Cond.selects RX11 yX11_dot yX11_dot ∈ g_tb := tb4 69 rfl rfl
theorem w4_70 : Cond.code yX11_dot cX11_dot 6 (some .int) ∈ g_tb := tb4 70 rfl rfl
theorem w4_71 : Cond.methodLink RX11 78 yX11_isIn ∈ g_tb := tb4 71 rfl rfl
theorem w4_72 : Cond.static yX11_isIn ∈ g_tb := tb4 72 rfl rfl
theorem w4_73 : Cond.code yX11_isIn cX11_isIn 3 (some .boolean) ∈ g_tb := tb4 73 rfl rfl
theorem w4_74 : Cond.methodLink RL 22 yX11_pace ∈ g_tb := tb4 74 rfl rfl
theorem w4_75 : Cond.instanceMethod yX11_pace ∈ g_tb := tb4 75 rfl rfl
theorem w4_76 : Cond.selects RX11 yX11_pace yX11_pace ∈ g_tb := tb4 76 rfl rfl
theorem w4_77 : Cond.code yX11_pace cX11_pace 3 (some .int) ∈ g_tb := tb4 77 rfl rfl
theorem w4_78 : Cond.methodLink RL 27 yX11_net ∈ g_tb := tb4 78 rfl rfl
theorem w4_79 : Cond.instanceMethod yX11_net ∈ g_tb := tb4 79 rfl rfl
theorem w4_80 : Cond.selects RX11 yX11_net yX11_net ∈ g_tb := tb4 80 rfl rfl
theorem w4_81 : Cond.code yX11_net cX11_net 3 (some .int) ∈ g_tb := tb4 81 rfl rfl
theorem w4_82 : Cond.methodLink RL 31 yX11_about ∈ g_tb := tb4 82 rfl rfl
theorem w4_83 : Cond.instanceMethod yX11_about ∈ g_tb := tb4 83 rfl rfl
theorem w4_84 : Cond.selects RX11 yX11_about yX11_about ∈ g_tb := tb4 84 rfl rfl
theorem w4_85 : Cond.code yX11_about cX11_about 3 (some .int) ∈ g_tb := tb4 85 rfl rfl
theorem w4_86 : Cond.methodLink RX11 88 yX11_isDot ∈ g_tb := tb4 86 rfl rfl
theorem w4_88 : Cond.instanceMethod yX11_isDot ∈ g_tb := tb4 88 rfl rfl
theorem w4_89 : Cond.code yX11_isDot cX11_isDot 2 (some .boolean) ∈ g_tb := tb4 89 rfl rfl
theorem w4_90 : Cond.methodLink RX11 92 yX11_night ∈ g_tb := tb4 90 rfl rfl
theorem w4_92 : Cond.instanceMethod yX11_night ∈ g_tb := tb4 92 rfl rfl
theorem w4_93 : Cond.code yX11_night cX11_night 2 (some .int) ∈ g_tb := tb4 93 rfl rfl
theorem w4_94 : Cond.methodLink RL 36 yX11_bits ∈ g_tb := tb4 94 rfl rfl
theorem w4_95 : Cond.instanceMethod yX11_bits ∈ g_tb := tb4 95 rfl rfl
theorem w4_96 : Cond.selects RX11 yX11_bits yX11_bits ∈ g_tb := tb4 96 rfl rfl
theorem w4_97 : Cond.code yX11_bits cX11_bits 1 (some .int) ∈ g_tb := tb4 97 rfl rfl
theorem w4_98 : Cond.methodLink RX11 157 yX11_findBits ∈ g_tb := tb4 98 rfl rfl
theorem w4_100 : Cond.instanceMethod yX11_findBits ∈ g_tb := tb4 100 rfl rfl
theorem w4_101 : Cond.code yX11_findBits cX11_findBits 3 none ∈ g_tb := tb4 101 rfl rfl
theorem w4_102 : Cond.methodLink RX11 153 yX11_isNear ∈ g_tb := tb4 102 rfl rfl
theorem w4_104 : Cond.instanceMethod yX11_isNear ∈ g_tb := tb4 104 rfl rfl
theorem w4_105 : Cond.code yX11_isNear cX11_isNear 4 (some .boolean) ∈ g_tb := tb4 105 rfl rfl
theorem w4_106 : Cond.methodLink RX11 147 Lib.Math.abs.name ∈ g_tb := tb4 106 rfl rfl
theorem w4_107 : Cond.methodLink RL 40 yX11_bit ∈ g_tb := tb4 107 rfl rfl
theorem w4_108 : Cond.instanceMethod yX11_bit ∈ g_tb := tb4 108 rfl rfl
theorem w4_109 : Cond.selects RX11 yX11_bit yX11_bit ∈ g_tb := tb4 109 rfl rfl
theorem w4_110 : Cond.code yX11_bit cX11_bit 3 (some .int) ∈ g_tb := tb4 110 rfl rfl
theorem w4_111 : Cond.methodLink RL 44 yX11_pairs ∈ g_tb := tb4 111 rfl rfl
theorem w4_112 : Cond.instanceMethod yX11_pairs ∈ g_tb := tb4 112 rfl rfl
theorem w4_113 : Cond.selects RX11 yX11_pairs yX11_pairs ∈ g_tb := tb4 113 rfl rfl
theorem w4_114 : Cond.code yX11_pairs cX11_pairs 1 (some .int) ∈ g_tb := tb4 114 rfl rfl
theorem w4_115 : Cond.methodLink RX11 166 yX11_findPairs ∈ g_tb := tb4 115 rfl rfl
theorem w4_117 : Cond.instanceMethod yX11_findPairs ∈ g_tb := tb4 117 rfl rfl
theorem w4_118 : Cond.code yX11_findPairs cX11_findPairs 3 (some .boolean) ∈ g_tb := tb4 118 rfl rfl
theorem w4_119 : Cond.methodLink RX11 163 yX11_adds ∈ g_tb := tb4 119 rfl rfl
theorem w4_121 : Cond.instanceMethod yX11_adds ∈ g_tb := tb4 121 rfl rfl
theorem w4_122 : Cond.code yX11_adds cX11_adds 2 none ∈ g_tb := tb4 122 rfl rfl
theorem w4_123 : Cond.methodLink RX11 131 yX11_isHeap ∈ g_tb := tb4 123 rfl rfl
theorem w4_125 : Cond.instanceMethod yX11_isHeap ∈ g_tb := tb4 125 rfl rfl
theorem w4_126 : Cond.code yX11_isHeap cX11_isHeap 1 (some .boolean) ∈ g_tb := tb4 126 rfl rfl
theorem w4_127 : Cond.methodLink RX11 123 yX11_allLines ∈ g_tb := tb4 127 rfl rfl
theorem w4_129 : Cond.instanceMethod yX11_allLines ∈ g_tb := tb4 129 rfl rfl
theorem w4_130 : Cond.code yX11_allLines cX11_allLines 5 (some .long) ∈ g_tb := tb4 130 rfl rfl
theorem w4_131 : Cond.methodLink RX11 120 yX11_lines ∈ g_tb := tb4 131 rfl rfl
theorem w4_133 : Cond.instanceMethod yX11_lines ∈ g_tb := tb4 133 rfl rfl
theorem w4_134 : Cond.code yX11_lines cX11_lines 7 (some .int) ∈ g_tb := tb4 134 rfl rfl
theorem w4_135 : Cond.methodLink RX11 99 yX11_placeOf ∈ g_tb := tb4 135 rfl rfl
theorem w4_137 : Cond.instanceMethod yX11_placeOf ∈ g_tb := tb4 137 rfl rfl
theorem w4_138 : Cond.code yX11_placeOf cX11_placeOf 3 (some .int) ∈ g_tb := tb4 138 rfl rfl
theorem w4_139 : Cond.methodLink RX11 103 Lib.Math.max.name ∈ g_tb := tb4 139 rfl rfl
theorem w4_140 : Cond.methodLink RX11 108 Lib.Math.min.name ∈ g_tb := tb4 140 rfl rfl
theorem w4_141 : Cond.methodLink RX11 111 yJ9_floorDiv_7cf53 ∈ g_tb := tb4 141 rfl rfl
theorem w4_142 : Cond.methodLink RL 48 yX11_pair ∈ g_tb := tb4 142 rfl rfl
theorem w4_143 : Cond.instanceMethod yX11_pair ∈ g_tb := tb4 143 rfl rfl
theorem w4_144 : Cond.selects RX11 yX11_pair yX11_pair ∈ g_tb := tb4 144 rfl rfl
theorem w4_145 : Cond.code yX11_pair cX11_pair 3 (some .int) ∈ g_tb := tb4 145 rfl rfl
theorem w4_146 : Cond.methodLink RL 111 yX11_undo ∈ g_tb := tb4 146 rfl rfl
theorem w4_147 : Cond.instanceMethod yX11_undo ∈ g_tb := tb4 147 rfl rfl
theorem w4_148 : Cond.selects RX11 yX11_undo yX11_undo ∈ g_tb := tb4 148 rfl rfl
theorem w4_149 : Cond.code yX11_undo cX11_undo 5 (some .int) ∈ g_tb := tb4 149 rfl rfl
theorem w4_150 : Cond.methodLink RX11 172 yX11_own ∈ g_tb := tb4 150 rfl rfl
theorem w4_152 : Cond.instanceMethod yX11_own ∈ g_tb := tb4 152 rfl rfl
theorem w4_153 : Cond.code yX11_own cX11_own 3 none ∈ g_tb := tb4 153 rfl rfl
theorem w4_154 : Cond.methodLink RL 52 yX11_start ∈ g_tb := tb4 154 rfl rfl
theorem w4_155 : Cond.instanceMethod yX11_start ∈ g_tb := tb4 155 rfl rfl
theorem w4_156 : Cond.selects RX11 yX11_start yX11_start ∈ g_tb := tb4 156 rfl rfl
theorem w4_157 : Cond.code yX11_start cX11_start 4 (some .int) ∈ g_tb := tb4 157 rfl rfl
theorem w4_158 : Cond.methodLink RX11 178 yX11_begins ∈ g_tb := tb4 158 rfl rfl
theorem w4_160 : Cond.instanceMethod yX11_begins ∈ g_tb := tb4 160 rfl rfl
theorem w4_161 : Cond.code yX11_begins cX11_begins 3 (some .int) ∈ g_tb := tb4 161 rfl rfl
theorem w4_162 : Cond.methodLink RX11 175 yX11_keep ∈ g_tb := tb4 162 rfl rfl
theorem w4_164 : Cond.instanceMethod yX11_keep ∈ g_tb := tb4 164 rfl rfl
theorem w4_165 : Cond.code yX11_keep cX11_keep 4 none ∈ g_tb := tb4 165 rfl rfl
theorem w4_166 : Cond.methodLink RX11 181 yX11_comes ∈ g_tb := tb4 166 rfl rfl
theorem w4_168 : Cond.instanceMethod yX11_comes ∈ g_tb := tb4 168 rfl rfl
theorem w4_169 : Cond.code yX11_comes cX11_comes 3 none ∈ g_tb := tb4 169 rfl rfl
theorem w4_170 : Cond.methodLink RL 56 yX11_single ∈ g_tb := tb4 170 rfl rfl
theorem w4_171 : Cond.instanceMethod yX11_single ∈ g_tb := tb4 171 rfl rfl
theorem w4_172 : Cond.selects RX11 yX11_single yX11_single ∈ g_tb := tb4 172 rfl rfl
theorem w4_173 : Cond.code yX11_single cX11_single 4 (some .int) ∈ g_tb := tb4 173 rfl rfl
theorem w4_174 : Cond.methodLink RL 60 yX11_join ∈ g_tb := tb4 174 rfl rfl
theorem w4_175 : Cond.instanceMethod yX11_join ∈ g_tb := tb4 175 rfl rfl
theorem w4_176 : Cond.selects RX11 yX11_join yX11_join ∈ g_tb := tb4 176 rfl rfl
theorem w4_177 : Cond.code yX11_join cX11_join 3 (some .int) ∈ g_tb := tb4 177 rfl rfl
theorem w4_178 : Cond.methodLink RX11 185 yX11_isPath ∈ g_tb := tb4 178 rfl rfl
theorem w4_180 : Cond.instanceMethod yX11_isPath ∈ g_tb := tb4 180 rfl rfl
theorem w4_181 : Cond.code yX11_isPath cX11_isPath 2 (some .boolean) ∈ g_tb := tb4 181 rfl rfl
theorem w4_182 : Cond.methodLink RX11 127 yX11_take ∈ g_tb := tb4 182 rfl rfl
theorem w4_184 : Cond.instanceMethod yX11_take ∈ g_tb := tb4 184 rfl rfl
theorem w4_185 : Cond.code yX11_take cX11_take 3 none ∈ g_tb := tb4 185 rfl rfl
theorem w4_186 : Cond.methodLink RL 64 yX11_joinBit ∈ g_tb := tb4 186 rfl rfl
theorem w4_187 : Cond.instanceMethod yX11_joinBit ∈ g_tb := tb4 187 rfl rfl
theorem w4_188 : Cond.selects RX11 yX11_joinBit yX11_joinBit ∈ g_tb := tb4 188 rfl rfl
theorem w4_189 : Cond.code yX11_joinBit cX11_joinBit 4 (some .int) ∈ g_tb := tb4 189 rfl rfl
theorem w4_190 : Cond.methodLink RL 68 yX11_force ∈ g_tb := tb4 190 rfl rfl
theorem w4_191 : Cond.instanceMethod yX11_force ∈ g_tb := tb4 191 rfl rfl
theorem w4_192 : Cond.selects RX11 yX11_force yX11_force ∈ g_tb := tb4 192 rfl rfl
theorem w4_193 : Cond.code yX11_force cX11_force 3 (some .int) ∈ g_tb := tb4 193 rfl rfl
theorem w4_194 : Cond.methodLink RL 72 yX11_path ∈ g_tb := tb4 194 rfl rfl
theorem w4_195 : Cond.instanceMethod yX11_path ∈ g_tb := tb4 195 rfl rfl
theorem w4_196 : Cond.selects RX11 yX11_path yX11_path ∈ g_tb := tb4 196 rfl rfl
theorem w4_197 : Cond.code yX11_path cX11_path 3 (some .int) ∈ g_tb := tb4 197 rfl rfl
theorem w4_198 : Cond.methodLink RX11 188 yX11_isSound ∈ g_tb := tb4 198 rfl rfl
theorem w4_200 : Cond.instanceMethod yX11_isSound ∈ g_tb := tb4 200 rfl rfl
theorem w4_201 : Cond.code yX11_isSound cX11_isSound 2 (some .boolean) ∈ g_tb := tb4 201 rfl rfl
theorem w4_202 : Cond.methodLink RL 77 yX11_heap ∈ g_tb := tb4 202 rfl rfl
theorem w4_203 : Cond.instanceMethod yX11_heap ∈ g_tb := tb4 203 rfl rfl
theorem w4_204 : Cond.selects RX11 yX11_heap yX11_heap ∈ g_tb := tb4 204 rfl rfl
theorem w4_205 : Cond.code yX11_heap cX11_heap 2 (some .long) ∈ g_tb := tb4 205 rfl rfl
theorem w4_206 : Cond.constantLong RX11 191 (-1) ∈ g_tb := tb4 206 rfl rfl
theorem w4_207 : Cond.methodLink RL 82 yX11_ahead ∈ g_tb := tb4 207 rfl rfl
theorem w4_208 : Cond.instanceMethod yX11_ahead ∈ g_tb := tb4 208 rfl rfl
theorem w4_209 : Cond.selects RX11 yX11_ahead yX11_ahead ∈ g_tb := tb4 209 rfl rfl
theorem w4_210 : Cond.code yX11_ahead cX11_ahead 4 (some .long) ∈ g_tb := tb4 210 rfl rfl
theorem w4_211 : Cond.constantLong RX11 193 (-9223372036854775808) ∈ g_tb := tb4 211 rfl rfl
theorem w4_212 : Cond.methodLink RX11 195 yX11_ahead0 ∈ g_tb := tb4 212 rfl rfl
theorem w4_214 : Cond.instanceMethod yX11_ahead0 ∈ g_tb := tb4 214 rfl rfl
theorem w4_215 : Cond.code yX11_ahead0 cX11_ahead0 9 none ∈ g_tb := tb4 215 rfl rfl
theorem w4_216 : Cond.methodLink RX11 139 Lib.MathLoose.min_long.x ∈ g_tb := tb4 216 rfl rfl
theorem w4_217 : Cond.static Lib.MathLoose.min_long.x ∈ g_tb := tb4 217 rfl rfl
theorem w4_218 : Cond.code Lib.MathLoose.min_long.x Lib.MathLoose.min_long.code 4 (some .long) ∈ g_tb := tb4 218 rfl rfl
theorem w4_219 : Cond.methodLink RX11 145 Lib.MathLoose.max_long.x ∈ g_tb := tb4 219 rfl rfl
theorem w4_220 : Cond.static Lib.MathLoose.max_long.x ∈ g_tb := tb4 220 rfl rfl
theorem w4_221 : Cond.code Lib.MathLoose.max_long.x Lib.MathLoose.max_long.code 4 (some .long) ∈ g_tb := tb4 221 rfl rfl
theorem w4_222 : Cond.methodLink RL 86 yX11_tellOff ∈ g_tb := tb4 222 rfl rfl
theorem w4_223 : Cond.instanceMethod yX11_tellOff ∈ g_tb := tb4 223 rfl rfl
theorem w4_224 : Cond.selects RX11 yX11_tellOff yX11_tellOff ∈ g_tb := tb4 224 rfl rfl
theorem w4_225 : Cond.code yX11_tellOff cX11_tellOff 4 (some .int) ∈ g_tb := tb4 225 rfl rfl
theorem w4_226 : Cond.methodLink RX11 198 yX11_isWithin ∈ g_tb := tb4 226 rfl rfl
theorem w4_228 : Cond.instanceMethod yX11_isWithin ∈ g_tb := tb4 228 rfl rfl
theorem w4_229 : Cond.code yX11_isWithin cX11_isWithin 4 (some .boolean) ∈ g_tb := tb4 229 rfl rfl
theorem w4_230 : Cond.methodLink RL 91 yX11_fit ∈ g_tb := tb4 230 rfl rfl
theorem w4_231 : Cond.instanceMethod yX11_fit ∈ g_tb := tb4 231 rfl rfl
theorem w4_232 : Cond.selects RX11 yX11_fit yX11_fit ∈ g_tb := tb4 232 rfl rfl
theorem w4_233 : Cond.code yX11_fit cX11_fit 5 (some .long) ∈ g_tb := tb4 233 rfl rfl
theorem w4_234 : Cond.methodLink RX11 216 yX11_fits ∈ g_tb := tb4 234 rfl rfl
theorem w4_236 : Cond.instanceMethod yX11_fits ∈ g_tb := tb4 236 rfl rfl
theorem w4_237 : Cond.code yX11_fits cX11_fits 18 (some .boolean) ∈ g_tb := tb4 237 rfl rfl
theorem w4_238 : Cond.methodLink RX11 219 yX11_told ∈ g_tb := tb4 238 rfl rfl
theorem w4_239 : Cond.static yX11_told ∈ g_tb := tb4 239 rfl rfl
theorem w5_0 : Cond.code yX11_told cX11_told 7 (some .long) ∈ g_tb := tb5 0 rfl rfl
theorem w5_1 : Cond.methodLink RX11 213 yX11_divisor ∈ g_tb := tb5 1 rfl rfl
theorem w5_2 : Cond.static yX11_divisor ∈ g_tb := tb5 2 rfl rfl
theorem w5_3 : Cond.code yX11_divisor cX11_divisor 10 (some .long) ∈ g_tb := tb5 3 rfl rfl
theorem w5_4 : Cond.methodLink RL 95 yX11_miss ∈ g_tb := tb5 4 rfl rfl
theorem w5_5 : Cond.instanceMethod yX11_miss ∈ g_tb := tb5 5 rfl rfl
theorem w5_6 : Cond.selects RX11 yX11_miss yX11_miss ∈ g_tb := tb5 6 rfl rfl
theorem w5_7 : Cond.code yX11_miss cX11_miss 8 (some .long) ∈ g_tb := tb5 7 rfl rfl
theorem w5_8 : Cond.methodLink RL 99 yX11_part ∈ g_tb := tb5 8 rfl rfl
theorem w5_9 : Cond.instanceMethod yX11_part ∈ g_tb := tb5 9 rfl rfl
theorem w5_10 : Cond.selects RX11 yX11_part yX11_part ∈ g_tb := tb5 10 rfl rfl
theorem w5_11 : Cond.code yX11_part cX11_part 7 (some .int) ∈ g_tb := tb5 11 rfl rfl
theorem w5_12 : Cond.methodLink RX11 223 yX11_bitsOf ∈ g_tb := tb5 12 rfl rfl
theorem w5_13 : Cond.static yX11_bitsOf ∈ g_tb := tb5 13 rfl rfl
theorem w5_14 : Cond.code yX11_bitsOf cX11_bitsOf 3 (some .int) ∈ g_tb := tb5 14 rfl rfl
theorem w5_15 : Cond.methodLink RX11 226 yX11_isSoundWithout ∈ g_tb := tb5 15 rfl rfl
theorem w5_17 : Cond.instanceMethod yX11_isSoundWithout ∈ g_tb := tb5 17 rfl rfl
theorem w5_18 : Cond.code yX11_isSoundWithout cX11_isSoundWithout 4 (some .boolean) ∈ g_tb := tb5 18 rfl rfl
theorem w5_19 : Cond.methodLink RL 103 yX11_same ∈ g_tb := tb5 19 rfl rfl
theorem w5_20 : Cond.instanceMethod yX11_same ∈ g_tb := tb5 20 rfl rfl
theorem w5_21 : Cond.selects RX11 yX11_same yX11_same ∈ g_tb := tb5 21 rfl rfl
theorem w5_22 : Cond.code yX11_same cX11_same 3 (some .int) ∈ g_tb := tb5 22 rfl rfl
theorem w5_23 : Cond.methodLink RX11 229 yX11_areSame ∈ g_tb := tb5 23 rfl rfl
theorem w5_25 : Cond.instanceMethod yX11_areSame ∈ g_tb := tb5 25 rfl rfl
theorem w5_26 : Cond.code yX11_areSame cX11_areSame 4 (some .boolean) ∈ g_tb := tb5 26 rfl rfl
theorem w5_27 : Cond.methodLink RL 107 yX11_merge ∈ g_tb := tb5 27 rfl rfl
theorem w5_28 : Cond.instanceMethod yX11_merge ∈ g_tb := tb5 28 rfl rfl
theorem w5_29 : Cond.selects RX11 yX11_merge yX11_merge ∈ g_tb := tb5 29 rfl rfl
theorem w5_30 : Cond.code yX11_merge cX11_merge 6 (some .int) ∈ g_tb := tb5 30 rfl rfl
theorem w5_31 : Cond.methodLink RL 115 yX11_count ∈ g_tb := tb5 31 rfl rfl
theorem w5_32 : Cond.instanceMethod yX11_count ∈ g_tb := tb5 32 rfl rfl
theorem w5_33 : Cond.selects RX11 yX11_count yX11_count ∈ g_tb := tb5 33 rfl rfl
theorem w5_34 : Cond.code yX11_count cX11_count 4 (some .int) ∈ g_tb := tb5 34 rfl rfl
theorem w0_0 : Cond.selects RX5 yX5_findBits yX5_findBits ∈ g_tb := tb0 0 rfl rfl
theorem w0_1 : Cond.selects RX5 yX5_keepBit yX5_keepBit ∈ g_tb := tb0 1 rfl rfl
theorem w0_2 : Cond.selects RX5 yX5_findPairs yX5_findPairs ∈ g_tb := tb0 2 rfl rfl
theorem w0_3 : Cond.selects RX5 yX5_areOfUnlikeNights yX5_areOfUnlikeNights ∈ g_tb := tb0 3 rfl rfl
theorem w0_4 : Cond.selects RX4 yX4_isSoundBy yX4_isSoundBy ∈ g_tb := tb0 4 rfl rfl
theorem w0_5 : Cond.selects RX4 yX4_span yX4_span ∈ g_tb := tb0 5 rfl rfl
theorem w0_6 : Cond.selects RX5 yX5_keepPair yX5_keepPair ∈ g_tb := tb0 6 rfl rfl
theorem w0_7 : Cond.selects RX10 yX10_begin yX10_begin ∈ g_tb := tb0 7 rfl rfl
theorem w0_8 : Cond.selects RX10 yX10_changeRow yX10_changeRow ∈ g_tb := tb0 8 rfl rfl
theorem w0_9 : Cond.selects RX10 yX10_joinGroup yX10_joinGroup ∈ g_tb := tb0 9 rfl rfl
theorem w0_10 : Cond.selects RX10 yX10_lengthen yX10_lengthen ∈ g_tb := tb0 10 rfl rfl
theorem w0_11 : Cond.selects RX4 yX4_linesBy yX4_linesBy ∈ g_tb := tb0 11 rfl rfl
theorem w0_12 : Cond.selects RX4 yX4_reachesBy yX4_reachesBy ∈ g_tb := tb0 12 rfl rfl
theorem w0_13 : Cond.selects RX10 yX10_lay yX10_lay ∈ g_tb := tb0 13 rfl rfl
theorem w0_14 : Cond.selects RX10 yX10_parting yX10_parting ∈ g_tb := tb0 14 rfl rfl
theorem w0_15 : Cond.selects RX10 yX10_keepStaying yX10_keepStaying ∈ g_tb := tb0 15 rfl rfl
theorem w0_16 : Cond.selects RX10 yX10_gatherBoth yX10_gatherBoth ∈ g_tb := tb0 16 rfl rfl
theorem w0_17 : Cond.selects RX11 yX11_isDot yX11_isDot ∈ g_tb := tb0 17 rfl rfl
theorem w0_18 : Cond.selects RX11 yX11_night yX11_night ∈ g_tb := tb0 18 rfl rfl
theorem w0_19 : Cond.selects RX11 yX11_findBits yX11_findBits ∈ g_tb := tb0 19 rfl rfl
theorem w0_20 : Cond.selects RX11 yX11_isNear yX11_isNear ∈ g_tb := tb0 20 rfl rfl
theorem w0_21 : Cond.selects RX11 yX11_findPairs yX11_findPairs ∈ g_tb := tb0 21 rfl rfl
theorem w0_22 : Cond.selects RX11 yX11_adds yX11_adds ∈ g_tb := tb0 22 rfl rfl
theorem w0_23 : Cond.selects RX11 yX11_isHeap yX11_isHeap ∈ g_tb := tb0 23 rfl rfl
theorem w0_24 : Cond.selects RX11 yX11_allLines yX11_allLines ∈ g_tb := tb0 24 rfl rfl
theorem w0_25 : Cond.selects RX11 yX11_lines yX11_lines ∈ g_tb := tb0 25 rfl rfl
theorem w0_26 : Cond.selects RX11 yX11_placeOf yX11_placeOf ∈ g_tb := tb0 26 rfl rfl
theorem w0_27 : Cond.selects RX11 yX11_own yX11_own ∈ g_tb := tb0 27 rfl rfl
theorem w0_28 : Cond.selects RX11 yX11_begins yX11_begins ∈ g_tb := tb0 28 rfl rfl
theorem w0_29 : Cond.selects RX11 yX11_keep yX11_keep ∈ g_tb := tb0 29 rfl rfl
theorem w0_30 : Cond.selects RX11 yX11_comes yX11_comes ∈ g_tb := tb0 30 rfl rfl
theorem w0_31 : Cond.selects RX11 yX11_isPath yX11_isPath ∈ g_tb := tb0 31 rfl rfl
theorem w0_32 : Cond.selects RX11 yX11_take yX11_take ∈ g_tb := tb0 32 rfl rfl
theorem w0_33 : Cond.selects RX11 yX11_isSound yX11_isSound ∈ g_tb := tb0 33 rfl rfl
theorem w0_34 : Cond.selects RX11 yX11_ahead0 yX11_ahead0 ∈ g_tb := tb0 34 rfl rfl
theorem w0_35 : Cond.selects RX11 yX11_isWithin yX11_isWithin ∈ g_tb := tb0 35 rfl rfl
theorem w0_36 : Cond.selects RX11 yX11_fits yX11_fits ∈ g_tb := tb0 36 rfl rfl
theorem w0_37 : Cond.selects RX11 yX11_isSoundWithout yX11_isSoundWithout ∈ g_tb := tb0 37 rfl rfl
theorem w0_38 : Cond.selects RX11 yX11_areSame yX11_areSame ∈ g_tb := tb0 38 rfl rfl
theorem inX0 : ∀ w ∈ wsX00, w ∈ g_tb := by
  intro w hw
  obtain ⟨k, hk, rfl⟩ := List.mem_map.mp hw
  have hk : k < 4 := List.mem_range.mp hk
  rcases (show k = 0 ∨ k = 1 ∨ k = 2 ∨ k = 3 by omega) with rfl | rfl | rfl | rfl
  · exact tb1 236 rfl rfl
  · exact tb1 238 rfl rfl
  · exact tb2 0 rfl rfl
  · exact tb2 2 rfl rfl
theorem inX1 : ∀ w ∈ wsX10, w ∈ g_tb := by
  intro w hw
  obtain ⟨k, hk, rfl⟩ := List.mem_map.mp hw
  have hk : k < 3 := List.mem_range.mp hk
  rcases (show k = 0 ∨ k = 1 ∨ k = 2 by omega) with rfl | rfl | rfl
  · exact tb2 9 rfl rfl
  · exact tb2 11 rfl rfl
  · exact tb2 13 rfl rfl
theorem inX2 : ∀ w ∈ wsX20, w ∈ g_tb := by
  intro w hw
  obtain ⟨k, hk, rfl⟩ := List.mem_map.mp hw
  have hk : k < 4 := List.mem_range.mp hk
  rcases (show k = 0 ∨ k = 1 ∨ k = 2 ∨ k = 3 by omega) with rfl | rfl | rfl | rfl
  · exact tb1 99 rfl rfl
  · exact tb1 101 rfl rfl
  · exact tb1 103 rfl rfl
  · exact tb1 105 rfl rfl
theorem inX3 : ∀ w ∈ wsX30, w ∈ g_tb := by
  intro w hw
  obtain ⟨k, hk, rfl⟩ := List.mem_map.mp hw
  have hk : k < 5 := List.mem_range.mp hk
  rcases (show k = 0 ∨ k = 1 ∨ k = 2 ∨ k = 3 ∨ k = 4 by omega) with rfl | rfl | rfl | rfl | rfl
  · exact tb2 29 rfl rfl
  · exact tb2 31 rfl rfl
  · exact tb2 33 rfl rfl
  · exact tb2 35 rfl rfl
  · exact tb2 37 rfl rfl
theorem inX4 : ∀ w ∈ wsX40, w ∈ g_tb := by
  intro w hw
  obtain ⟨k, hk, rfl⟩ := List.mem_map.mp hw
  have hk : k < 5 := List.mem_range.mp hk
  rcases (show k = 0 ∨ k = 1 ∨ k = 2 ∨ k = 3 ∨ k = 4 by omega) with rfl | rfl | rfl | rfl | rfl
  · exact tb1 75 rfl rfl
  · exact tb1 77 rfl rfl
  · exact tb1 79 rfl rfl
  · exact tb1 81 rfl rfl
  · exact tb1 83 rfl rfl
theorem inX5 : ∀ w ∈ wsX50, w ∈ g_tb := by
  intro w hw
  obtain ⟨k, hk, rfl⟩ := List.mem_map.mp hw
  have hk : k < 11 := List.mem_range.mp hk
  rcases (show k = 0 ∨ k = 1 ∨ k = 2 ∨ k = 3 ∨ k = 4 ∨ k = 5 ∨ k = 6 ∨ k = 7 ∨ k = 8 ∨ k = 9 ∨ k = 10 by omega) with rfl | rfl | rfl | rfl | rfl | rfl | rfl | rfl | rfl | rfl | rfl
  · exact tb1 148 rfl rfl
  · exact tb1 150 rfl rfl
  · exact tb1 152 rfl rfl
  · exact tb1 154 rfl rfl
  · exact tb1 156 rfl rfl
  · exact tb1 158 rfl rfl
  · exact tb1 160 rfl rfl
  · exact tb1 162 rfl rfl
  · exact tb1 164 rfl rfl
  · exact tb1 166 rfl rfl
  · exact tb1 168 rfl rfl
theorem inX6 : ∀ w ∈ wsX60, w ∈ g_tb := by
  intro w hw
  obtain ⟨k, hk, rfl⟩ := List.mem_map.mp hw
  have hk : k < 2 := List.mem_range.mp hk
  rcases (show k = 0 ∨ k = 1 by omega) with rfl | rfl
  · exact tb1 130 rfl rfl
  · exact tb1 132 rfl rfl
theorem inX7 : ∀ w ∈ wsX70, w ∈ g_tb := by
  intro w hw
  obtain ⟨k, hk, rfl⟩ := List.mem_map.mp hw
  have hk : k < 6 := List.mem_range.mp hk
  rcases (show k = 0 ∨ k = 1 ∨ k = 2 ∨ k = 3 ∨ k = 4 ∨ k = 5 by omega) with rfl | rfl | rfl | rfl | rfl | rfl
  · exact tb1 48 rfl rfl
  · exact tb1 50 rfl rfl
  · exact tb1 52 rfl rfl
  · exact tb1 54 rfl rfl
  · exact tb1 56 rfl rfl
  · exact tb1 58 rfl rfl
theorem inX8 : ∀ w ∈ wsX80, w ∈ g_tb := by
  intro w hw
  obtain ⟨k, hk, rfl⟩ := List.mem_map.mp hw
  have hk : k < 3 := List.mem_range.mp hk
  rcases (show k = 0 ∨ k = 1 ∨ k = 2 by omega) with rfl | rfl | rfl
  · exact tb1 193 rfl rfl
  · exact tb1 195 rfl rfl
  · exact tb1 197 rfl rfl
theorem inX9 : ∀ w ∈ wsX90, w ∈ g_tb := by
  intro w hw
  obtain ⟨k, hk, rfl⟩ := List.mem_map.mp hw
  have hk : k < 3 := List.mem_range.mp hk
  rcases (show k = 0 ∨ k = 1 ∨ k = 2 by omega) with rfl | rfl | rfl
  · exact tb1 205 rfl rfl
  · exact tb1 207 rfl rfl
  · exact tb1 209 rfl rfl
theorem inX10 : ∀ w ∈ wsX100, w ∈ g_tb := by
  intro w hw
  obtain ⟨k, hk, rfl⟩ := List.mem_map.mp hw
  have hk : k < 8 := List.mem_range.mp hk
  rcases (show k = 0 ∨ k = 1 ∨ k = 2 ∨ k = 3 ∨ k = 4 ∨ k = 5 ∨ k = 6 ∨ k = 7 by omega) with rfl | rfl | rfl | rfl | rfl | rfl | rfl | rfl
  · exact tb2 50 rfl rfl
  · exact tb2 52 rfl rfl
  · exact tb2 54 rfl rfl
  · exact tb2 56 rfl rfl
  · exact tb2 58 rfl rfl
  · exact tb2 60 rfl rfl
  · exact tb2 62 rfl rfl
  · exact tb2 64 rfl rfl
theorem inX11 : ∀ w ∈ wsX110, w ∈ g_tb := by
  intro w hw
  obtain ⟨k, hk, rfl⟩ := List.mem_map.mp hw
  have hk : k < 36 := List.mem_range.mp hk
  rcases (show k = 0 ∨ k = 1 ∨ k = 2 ∨ k = 3 ∨ k = 4 ∨ k = 5 ∨ k = 6 ∨ k = 7 ∨ k = 8 ∨ k = 9 ∨ k = 10 ∨ k = 11 ∨ k = 12 ∨ k = 13 ∨ k = 14 ∨ k = 15 ∨ k = 16 ∨ k = 17 ∨ k = 18 ∨ k = 19 ∨ k = 20 ∨ k = 21 ∨ k = 22 ∨ k = 23 ∨ k = 24 ∨ k = 25 ∨ k = 26 ∨ k = 27 ∨ k = 28 ∨ k = 29 ∨ k = 30 ∨ k = 31 ∨ k = 32 ∨ k = 33 ∨ k = 34 ∨ k = 35 by omega) with rfl | rfl | rfl | rfl | rfl | rfl | rfl | rfl | rfl | rfl | rfl | rfl | rfl | rfl | rfl | rfl | rfl | rfl | rfl | rfl | rfl | rfl | rfl | rfl | rfl | rfl | rfl | rfl | rfl | rfl | rfl | rfl | rfl | rfl | rfl | rfl
  · exact tb3 233 rfl rfl
  · exact tb3 235 rfl rfl
  · exact tb3 237 rfl rfl
  · exact tb3 239 rfl rfl
  · exact tb4 1 rfl rfl
  · exact tb4 3 rfl rfl
  · exact tb4 5 rfl rfl
  · exact tb4 7 rfl rfl
  · exact tb4 9 rfl rfl
  · exact tb4 11 rfl rfl
  · exact tb4 13 rfl rfl
  · exact tb4 15 rfl rfl
  · exact tb4 17 rfl rfl
  · exact tb4 19 rfl rfl
  · exact tb4 21 rfl rfl
  · exact tb4 23 rfl rfl
  · exact tb4 25 rfl rfl
  · exact tb4 27 rfl rfl
  · exact tb4 29 rfl rfl
  · exact tb4 31 rfl rfl
  · exact tb4 33 rfl rfl
  · exact tb4 35 rfl rfl
  · exact tb4 37 rfl rfl
  · exact tb4 39 rfl rfl
  · exact tb4 41 rfl rfl
  · exact tb4 43 rfl rfl
  · exact tb4 45 rfl rfl
  · exact tb4 47 rfl rfl
  · exact tb4 49 rfl rfl
  · exact tb4 51 rfl rfl
  · exact tb4 53 rfl rfl
  · exact tb4 55 rfl rfl
  · exact tb4 57 rfl rfl
  · exact tb4 59 rfl rfl
  · exact tb4 61 rfl rfl
  · exact tb4 63 rfl rfl
end
section
theorem dX0_init_0 : decode cX0_init 0 = .ok (.aload_n 0, 1) := by decide +kernel
theorem dX0_init_1 : decode cX0_init 1 = .ok (.invokespecial 1, 3) := by decide +kernel
theorem dX0_init_4 : decode cX0_init 4 = .ok (.aload_n 0, 1) := by decide +kernel
theorem dX0_init_5 : decode cX0_init 5 = .ok (.new 7, 3) := by decide +kernel
theorem dX0_init_8 : decode cX0_init 8 = .ok (.dup, 1) := by decide +kernel
theorem dX0_init_9 : decode cX0_init 9 = .ok (.invokespecial 9, 3) := by decide +kernel
theorem dX0_init_12 : decode cX0_init 12 = .ok (.putfield 10, 3) := by decide +kernel
theorem dX0_init_15 : decode cX0_init 15 = .ok (.return_, 1) := by decide +kernel
theorem dX1_init_0 : decode cX1_init 0 = .ok (.aload_n 0, 1) := by decide +kernel
theorem dX1_init_1 : decode cX1_init 1 = .ok (.invokespecial 3, 3) := by decide +kernel
theorem dX1_init_4 : decode cX1_init 4 = .ok (.aload_n 0, 1) := by decide +kernel
theorem dX1_init_5 : decode cX1_init 5 = .ok (.bipush 30, 2) := by decide +kernel
theorem dX1_init_7 : decode cX1_init 7 = .ok (.anewarray 9, 3) := by decide +kernel
theorem dX1_init_10 : decode cX1_init 10 = .ok (.putfield 11, 3) := by decide +kernel
theorem dX1_init_13 : decode cX1_init 13 = .ok (.iconst 0, 1) := by decide +kernel
theorem dX1_init_14 : decode cX1_init 14 = .ok (.istore_n 1, 1) := by decide +kernel
theorem dX1_init_15 : decode cX1_init 15 = .ok (.iload_n 1, 1) := by decide +kernel
theorem dX1_init_16 : decode cX1_init 16 = .ok (.bipush 30, 2) := by decide +kernel
theorem dX1_init_18 : decode cX1_init 18 = .ok (.if_icmp .ge 22, 3) := by decide +kernel
theorem dX1_init_21 : decode cX1_init 21 = .ok (.aload_n 0, 1) := by decide +kernel
theorem dX1_init_22 : decode cX1_init 22 = .ok (.getfield 11, 3) := by decide +kernel
theorem dX1_init_25 : decode cX1_init 25 = .ok (.iload_n 1, 1) := by decide +kernel
theorem dX1_init_26 : decode cX1_init 26 = .ok (.new 9, 3) := by decide +kernel
theorem dX1_init_29 : decode cX1_init 29 = .ok (.dup, 1) := by decide +kernel
theorem dX1_init_30 : decode cX1_init 30 = .ok (.invokespecial 17, 3) := by decide +kernel
theorem dX1_init_33 : decode cX1_init 33 = .ok (.aastore, 1) := by decide +kernel
theorem dX1_init_34 : decode cX1_init 34 = .ok (.iinc 1 1, 3) := by decide +kernel
theorem dX1_init_37 : decode cX1_init 37 = .ok (.goto (-22), 3) := by decide +kernel
theorem dX1_init_40 : decode cX1_init 40 = .ok (.return_, 1) := by decide +kernel
theorem dX1_keep_0 : decode cX1_keep 0 = .ok (.aload_n 0, 1) := by decide +kernel
theorem dX1_keep_1 : decode cX1_keep 1 = .ok (.getfield 11, 3) := by decide +kernel
theorem dX1_keep_4 : decode cX1_keep 4 = .ok (.aload_n 0, 1) := by decide +kernel
theorem dX1_keep_5 : decode cX1_keep 5 = .ok (.getfield 18, 3) := by decide +kernel
theorem dX1_keep_8 : decode cX1_keep 8 = .ok (.aaload, 1) := by decide +kernel
theorem dX1_keep_9 : decode cX1_keep 9 = .ok (.astore_n 3, 1) := by decide +kernel
theorem dX1_keep_10 : decode cX1_keep 10 = .ok (.aload_n 3, 1) := by decide +kernel
theorem dX1_keep_11 : decode cX1_keep 11 = .ok (.iload_n 1, 1) := by decide +kernel
theorem dX1_keep_12 : decode cX1_keep 12 = .ok (.putfield 22, 3) := by decide +kernel
theorem dX1_keep_15 : decode cX1_keep 15 = .ok (.aload_n 3, 1) := by decide +kernel
theorem dX1_keep_16 : decode cX1_keep 16 = .ok (.iconst 0, 1) := by decide +kernel
theorem dX1_keep_17 : decode cX1_keep 17 = .ok (.putfield 25, 3) := by decide +kernel
theorem dX1_keep_20 : decode cX1_keep 20 = .ok (.aload_n 3, 1) := by decide +kernel
theorem dX1_keep_21 : decode cX1_keep 21 = .ok (.iconst (-1), 1) := by decide +kernel
theorem dX1_keep_22 : decode cX1_keep 22 = .ok (.putfield 29, 3) := by decide +kernel
theorem dX1_keep_25 : decode cX1_keep 25 = .ok (.aload_n 3, 1) := by decide +kernel
theorem dX1_keep_26 : decode cX1_keep 26 = .ok (.getfield 32, 3) := by decide +kernel
theorem dX1_keep_29 : decode cX1_keep 29 = .ok (.aload_n 2, 1) := by decide +kernel
theorem dX1_keep_30 : decode cX1_keep 30 = .ok (.invokevirtual 36, 3) := by decide +kernel
theorem dX1_keep_33 : decode cX1_keep 33 = .ok (.aload_n 0, 1) := by decide +kernel
theorem dX1_keep_34 : decode cX1_keep 34 = .ok (.aload_n 0, 1) := by decide +kernel
theorem dX1_keep_35 : decode cX1_keep 35 = .ok (.getfield 18, 3) := by decide +kernel
theorem dX1_keep_38 : decode cX1_keep 38 = .ok (.iconst 1, 1) := by decide +kernel
theorem dX1_keep_39 : decode cX1_keep 39 = .ok (.iadd, 1) := by decide +kernel
theorem dX1_keep_40 : decode cX1_keep 40 = .ok (.bipush 30, 2) := by decide +kernel
theorem dX1_keep_42 : decode cX1_keep 42 = .ok (.irem, 1) := by decide +kernel
theorem dX1_keep_43 : decode cX1_keep 43 = .ok (.putfield 18, 3) := by decide +kernel
theorem dX1_keep_46 : decode cX1_keep 46 = .ok (.aload_n 0, 1) := by decide +kernel
theorem dX1_keep_47 : decode cX1_keep 47 = .ok (.aload_n 0, 1) := by decide +kernel
theorem dX1_keep_48 : decode cX1_keep 48 = .ok (.getfield 42, 3) := by decide +kernel
theorem dX1_keep_51 : decode cX1_keep 51 = .ok (.iconst 1, 1) := by decide +kernel
theorem dX1_keep_52 : decode cX1_keep 52 = .ok (.iadd, 1) := by decide +kernel
theorem dX1_keep_53 : decode cX1_keep 53 = .ok (.bipush 30, 2) := by decide +kernel
theorem dX1_keep_55 : decode cX1_keep 55 = .ok (.invokestatic 45, 3) := by decide +kernel
theorem dX1_keep_58 : decode cX1_keep 58 = .ok (.putfield 42, 3) := by decide +kernel
theorem dX1_keep_61 : decode cX1_keep 61 = .ok (.aload_n 3, 1) := by decide +kernel
theorem dX1_keep_62 : decode cX1_keep 62 = .ok (.areturn, 1) := by decide +kernel
theorem dX1_takeLatest_0 : decode cX1_takeLatest 0 = .ok (.aload_n 0, 1) := by decide +kernel
theorem dX1_takeLatest_1 : decode cX1_takeLatest 1 = .ok (.getfield 42, 3) := by decide +kernel
theorem dX1_takeLatest_4 : decode cX1_takeLatest 4 = .ok (.ifCond .ne 5, 3) := by decide +kernel
theorem dX1_takeLatest_7 : decode cX1_takeLatest 7 = .ok (.aconst_null, 1) := by decide +kernel
theorem dX1_takeLatest_8 : decode cX1_takeLatest 8 = .ok (.areturn, 1) := by decide +kernel
theorem dX1_takeLatest_9 : decode cX1_takeLatest 9 = .ok (.aload_n 0, 1) := by decide +kernel
theorem dX1_takeLatest_10 : decode cX1_takeLatest 10 = .ok (.aload_n 0, 1) := by decide +kernel
theorem dX1_takeLatest_11 : decode cX1_takeLatest 11 = .ok (.getfield 18, 3) := by decide +kernel
theorem dX1_takeLatest_14 : decode cX1_takeLatest 14 = .ok (.bipush 30, 2) := by decide +kernel
theorem dX1_takeLatest_16 : decode cX1_takeLatest 16 = .ok (.iadd, 1) := by decide +kernel
theorem dX1_takeLatest_17 : decode cX1_takeLatest 17 = .ok (.iconst 1, 1) := by decide +kernel
theorem dX1_takeLatest_18 : decode cX1_takeLatest 18 = .ok (.isub, 1) := by decide +kernel
theorem dX1_takeLatest_19 : decode cX1_takeLatest 19 = .ok (.bipush 30, 2) := by decide +kernel
theorem dX1_takeLatest_21 : decode cX1_takeLatest 21 = .ok (.irem, 1) := by decide +kernel
theorem dX1_takeLatest_22 : decode cX1_takeLatest 22 = .ok (.putfield 18, 3) := by decide +kernel
theorem dX1_takeLatest_25 : decode cX1_takeLatest 25 = .ok (.aload_n 0, 1) := by decide +kernel
theorem dX1_takeLatest_26 : decode cX1_takeLatest 26 = .ok (.dup, 1) := by decide +kernel
theorem dX1_takeLatest_27 : decode cX1_takeLatest 27 = .ok (.getfield 42, 3) := by decide +kernel
theorem dX1_takeLatest_30 : decode cX1_takeLatest 30 = .ok (.iconst 1, 1) := by decide +kernel
theorem dX1_takeLatest_31 : decode cX1_takeLatest 31 = .ok (.isub, 1) := by decide +kernel
theorem dX1_takeLatest_32 : decode cX1_takeLatest 32 = .ok (.putfield 42, 3) := by decide +kernel
theorem dX1_takeLatest_35 : decode cX1_takeLatest 35 = .ok (.aload_n 0, 1) := by decide +kernel
theorem dX1_takeLatest_36 : decode cX1_takeLatest 36 = .ok (.getfield 11, 3) := by decide +kernel
theorem dX1_takeLatest_39 : decode cX1_takeLatest 39 = .ok (.aload_n 0, 1) := by decide +kernel
theorem dX1_takeLatest_40 : decode cX1_takeLatest 40 = .ok (.getfield 18, 3) := by decide +kernel
theorem dX1_takeLatest_43 : decode cX1_takeLatest 43 = .ok (.aaload, 1) := by decide +kernel
theorem dX1_takeLatest_44 : decode cX1_takeLatest 44 = .ok (.areturn, 1) := by decide +kernel
theorem dX1_forgetAll_0 : decode cX1_forgetAll 0 = .ok (.aload_n 0, 1) := by decide +kernel
theorem dX1_forgetAll_1 : decode cX1_forgetAll 1 = .ok (.iconst 0, 1) := by decide +kernel
theorem dX1_forgetAll_2 : decode cX1_forgetAll 2 = .ok (.putfield 42, 3) := by decide +kernel
theorem dX1_forgetAll_5 : decode cX1_forgetAll 5 = .ok (.return_, 1) := by decide +kernel
theorem dX2_init_0 : decode cX2_init 0 = .ok (.aload_n 0, 1) := by decide +kernel
theorem dX2_init_1 : decode cX2_init 1 = .ok (.invokespecial 1, 3) := by decide +kernel
theorem dX2_init_4 : decode cX2_init 4 = .ok (.aload_n 0, 1) := by decide +kernel
theorem dX2_init_5 : decode cX2_init 5 = .ok (.bipush 10, 2) := by decide +kernel
theorem dX2_init_7 : decode cX2_init 7 = .ok (.putfield 7, 3) := by decide +kernel
theorem dX2_init_10 : decode cX2_init 10 = .ok (.aload_n 0, 1) := by decide +kernel
theorem dX2_init_11 : decode cX2_init 11 = .ok (.aload_n 1, 1) := by decide +kernel
theorem dX2_init_12 : decode cX2_init 12 = .ok (.putfield 13, 3) := by decide +kernel
theorem dX2_init_15 : decode cX2_init 15 = .ok (.return_, 1) := by decide +kernel
theorem dX2_isBit_0 : decode cX2_isBit 0 = .ok (.aload_n 0, 1) := by decide +kernel
theorem dX2_isBit_1 : decode cX2_isBit 1 = .ok (.getfield 13, 3) := by decide +kernel
theorem dX2_isBit_4 : decode cX2_isBit 4 = .ok (.getfield 17, 3) := by decide +kernel
theorem dX2_isBit_7 : decode cX2_isBit 7 = .ok (.iload_n 2, 1) := by decide +kernel
theorem dX2_isBit_8 : decode cX2_isBit 8 = .ok (.iaload, 1) := by decide +kernel
theorem dX2_isBit_9 : decode cX2_isBit 9 = .ok (.aload_n 0, 1) := by decide +kernel
theorem dX2_isBit_10 : decode cX2_isBit 10 = .ok (.getfield 13, 3) := by decide +kernel
theorem dX2_isBit_13 : decode cX2_isBit 13 = .ok (.getfield 17, 3) := by decide +kernel
theorem dX2_isBit_16 : decode cX2_isBit 16 = .ok (.iload_n 1, 1) := by decide +kernel
theorem dX2_isBit_17 : decode cX2_isBit 17 = .ok (.iaload, 1) := by decide +kernel
theorem dX2_isBit_18 : decode cX2_isBit 18 = .ok (.isub, 1) := by decide +kernel
theorem dX2_isBit_19 : decode cX2_isBit 19 = .ok (.istore_n 3, 1) := by decide +kernel
theorem dX2_isBit_20 : decode cX2_isBit 20 = .ok (.iload_n 3, 1) := by decide +kernel
theorem dX2_isBit_21 : decode cX2_isBit 21 = .ok (.ifCond .le 110, 3) := by decide +kernel
theorem dX2_isBit_24 : decode cX2_isBit 24 = .ok (.aload_n 0, 1) := by decide +kernel
theorem dX2_isBit_25 : decode cX2_isBit 25 = .ok (.getfield 13, 3) := by decide +kernel
theorem dX2_isBit_28 : decode cX2_isBit 28 = .ok (.iload_n 1, 1) := by decide +kernel
theorem dX2_isBit_29 : decode cX2_isBit 29 = .ok (.invokevirtual 23, 3) := by decide +kernel
theorem dX2_isBit_32 : decode cX2_isBit 32 = .ok (.ifCond .eq 99, 3) := by decide +kernel
theorem dX2_isBit_35 : decode cX2_isBit 35 = .ok (.aload_n 0, 1) := by decide +kernel
theorem dX2_isBit_36 : decode cX2_isBit 36 = .ok (.getfield 13, 3) := by decide +kernel
theorem dX2_isBit_39 : decode cX2_isBit 39 = .ok (.iload_n 2, 1) := by decide +kernel
theorem dX2_isBit_40 : decode cX2_isBit 40 = .ok (.invokevirtual 23, 3) := by decide +kernel
theorem dX2_isBit_43 : decode cX2_isBit 43 = .ok (.ifCond .eq 88, 3) := by decide +kernel
theorem dX2_isBit_46 : decode cX2_isBit 46 = .ok (.aload_n 0, 1) := by decide +kernel
theorem dX2_isBit_47 : decode cX2_isBit 47 = .ok (.getfield 13, 3) := by decide +kernel
theorem dX2_isBit_50 : decode cX2_isBit 50 = .ok (.iload_n 1, 1) := by decide +kernel
theorem dX2_isBit_51 : decode cX2_isBit 51 = .ok (.invokevirtual 27, 3) := by decide +kernel
theorem dX2_isBit_54 : decode cX2_isBit 54 = .ok (.aload_n 0, 1) := by decide +kernel
theorem dX2_isBit_55 : decode cX2_isBit 55 = .ok (.getfield 13, 3) := by decide +kernel
theorem dX2_isBit_58 : decode cX2_isBit 58 = .ok (.iload_n 2, 1) := by decide +kernel
theorem dX2_isBit_59 : decode cX2_isBit 59 = .ok (.invokevirtual 27, 3) := by decide +kernel
theorem dX2_isBit_62 : decode cX2_isBit 62 = .ok (.if_icmp .ne 69, 3) := by decide +kernel
theorem dX2_isBit_65 : decode cX2_isBit 65 = .ok (.aload_n 0, 1) := by decide +kernel
theorem dX2_isBit_66 : decode cX2_isBit 66 = .ok (.getfield 13, 3) := by decide +kernel
theorem dX2_isBit_69 : decode cX2_isBit 69 = .ok (.getfield 31, 3) := by decide +kernel
theorem dX2_isBit_72 : decode cX2_isBit 72 = .ok (.iload_n 2, 1) := by decide +kernel
theorem dX2_isBit_73 : decode cX2_isBit 73 = .ok (.iaload, 1) := by decide +kernel
theorem dX2_isBit_74 : decode cX2_isBit 74 = .ok (.aload_n 0, 1) := by decide +kernel
theorem dX2_isBit_75 : decode cX2_isBit 75 = .ok (.getfield 13, 3) := by decide +kernel
theorem dX2_isBit_78 : decode cX2_isBit 78 = .ok (.getfield 31, 3) := by decide +kernel
theorem dX2_isBit_81 : decode cX2_isBit 81 = .ok (.iload_n 1, 1) := by decide +kernel
theorem dX2_isBit_82 : decode cX2_isBit 82 = .ok (.iaload, 1) := by decide +kernel
theorem dX2_isBit_83 : decode cX2_isBit 83 = .ok (.isub, 1) := by decide +kernel
theorem dX2_isBit_84 : decode cX2_isBit 84 = .ok (.invokestatic 34, 3) := by decide +kernel
theorem dX2_isBit_87 : decode cX2_isBit 87 = .ok (.aload_n 0, 1) := by decide +kernel
theorem dX2_isBit_88 : decode cX2_isBit 88 = .ok (.getfield 7, 3) := by decide +kernel
theorem dX2_isBit_91 : decode cX2_isBit 91 = .ok (.iload_n 3, 1) := by decide +kernel
theorem dX2_isBit_92 : decode cX2_isBit 92 = .ok (.imul, 1) := by decide +kernel
theorem dX2_isBit_93 : decode cX2_isBit 93 = .ok (.if_icmp .gt 38, 3) := by decide +kernel
theorem dX2_isBit_96 : decode cX2_isBit 96 = .ok (.aload_n 0, 1) := by decide +kernel
theorem dX2_isBit_97 : decode cX2_isBit 97 = .ok (.getfield 13, 3) := by decide +kernel
theorem dX2_isBit_100 : decode cX2_isBit 100 = .ok (.getfield 39, 3) := by decide +kernel
theorem dX2_isBit_103 : decode cX2_isBit 103 = .ok (.iload_n 2, 1) := by decide +kernel
theorem dX2_isBit_104 : decode cX2_isBit 104 = .ok (.iaload, 1) := by decide +kernel
theorem dX2_isBit_105 : decode cX2_isBit 105 = .ok (.aload_n 0, 1) := by decide +kernel
theorem dX2_isBit_106 : decode cX2_isBit 106 = .ok (.getfield 13, 3) := by decide +kernel
theorem dX2_isBit_109 : decode cX2_isBit 109 = .ok (.getfield 39, 3) := by decide +kernel
theorem dX2_isBit_112 : decode cX2_isBit 112 = .ok (.iload_n 1, 1) := by decide +kernel
theorem dX2_isBit_113 : decode cX2_isBit 113 = .ok (.iaload, 1) := by decide +kernel
theorem dX2_isBit_114 : decode cX2_isBit 114 = .ok (.isub, 1) := by decide +kernel
theorem dX2_isBit_115 : decode cX2_isBit 115 = .ok (.invokestatic 34, 3) := by decide +kernel
theorem dX2_isBit_118 : decode cX2_isBit 118 = .ok (.aload_n 0, 1) := by decide +kernel
theorem dX2_isBit_119 : decode cX2_isBit 119 = .ok (.getfield 7, 3) := by decide +kernel
theorem dX2_isBit_122 : decode cX2_isBit 122 = .ok (.iload_n 3, 1) := by decide +kernel
theorem dX2_isBit_123 : decode cX2_isBit 123 = .ok (.imul, 1) := by decide +kernel
theorem dX2_isBit_124 : decode cX2_isBit 124 = .ok (.if_icmp .gt 7, 3) := by decide +kernel
theorem dX2_isBit_127 : decode cX2_isBit 127 = .ok (.iconst 1, 1) := by decide +kernel
theorem dX2_isBit_128 : decode cX2_isBit 128 = .ok (.goto 4, 3) := by decide +kernel
theorem dX2_isBit_131 : decode cX2_isBit 131 = .ok (.iconst 0, 1) := by decide +kernel
theorem dX2_isBit_132 : decode cX2_isBit 132 = .ok (.ireturn, 1) := by decide +kernel
theorem dX2_total_0 : decode cX2_total 0 = .ok (.iconst 0, 1) := by decide +kernel
theorem dX2_total_1 : decode cX2_total 1 = .ok (.istore_n 1, 1) := by decide +kernel
theorem dX2_total_2 : decode cX2_total 2 = .ok (.iconst 0, 1) := by decide +kernel
theorem dX2_total_3 : decode cX2_total 3 = .ok (.istore_n 2, 1) := by decide +kernel
theorem dX2_total_4 : decode cX2_total 4 = .ok (.iload_n 2, 1) := by decide +kernel
theorem dX2_total_5 : decode cX2_total 5 = .ok (.aload_n 0, 1) := by decide +kernel
theorem dX2_total_6 : decode cX2_total 6 = .ok (.getfield 13, 3) := by decide +kernel
theorem dX2_total_9 : decode cX2_total 9 = .ok (.getfield 42, 3) := by decide +kernel
theorem dX2_total_12 : decode cX2_total 12 = .ok (.if_icmp .ge 40, 3) := by decide +kernel
theorem dX2_total_15 : decode cX2_total 15 = .ok (.iconst 0, 1) := by decide +kernel
theorem dX2_total_16 : decode cX2_total 16 = .ok (.istore_n 3, 1) := by decide +kernel
theorem dX2_total_17 : decode cX2_total 17 = .ok (.iload_n 3, 1) := by decide +kernel
theorem dX2_total_18 : decode cX2_total 18 = .ok (.aload_n 0, 1) := by decide +kernel
theorem dX2_total_19 : decode cX2_total 19 = .ok (.getfield 13, 3) := by decide +kernel
theorem dX2_total_22 : decode cX2_total 22 = .ok (.getfield 42, 3) := by decide +kernel
theorem dX2_total_25 : decode cX2_total 25 = .ok (.if_icmp .ge 21, 3) := by decide +kernel
theorem dX2_total_28 : decode cX2_total 28 = .ok (.aload_n 0, 1) := by decide +kernel
theorem dX2_total_29 : decode cX2_total 29 = .ok (.iload_n 2, 1) := by decide +kernel
theorem dX2_total_30 : decode cX2_total 30 = .ok (.iload_n 3, 1) := by decide +kernel
theorem dX2_total_31 : decode cX2_total 31 = .ok (.invokevirtual 45, 3) := by decide +kernel
theorem dX2_total_34 : decode cX2_total 34 = .ok (.ifCond .eq 6, 3) := by decide +kernel
theorem dX2_total_37 : decode cX2_total 37 = .ok (.iinc 1 1, 3) := by decide +kernel
theorem dX2_total_40 : decode cX2_total 40 = .ok (.iinc 3 1, 3) := by decide +kernel
theorem dX2_total_43 : decode cX2_total 43 = .ok (.goto (-26), 3) := by decide +kernel
theorem dX2_total_46 : decode cX2_total 46 = .ok (.iinc 2 1, 3) := by decide +kernel
theorem dX2_total_49 : decode cX2_total 49 = .ok (.goto (-45), 3) := by decide +kernel
theorem dX2_total_52 : decode cX2_total 52 = .ok (.iload_n 1, 1) := by decide +kernel
theorem dX2_total_53 : decode cX2_total 53 = .ok (.ireturn, 1) := by decide +kernel
theorem dX2_seek_0 : decode cX2_seek 0 = .ok (.iload_n 1, 1) := by decide +kernel
theorem dX2_seek_1 : decode cX2_seek 1 = .ok (.istore_n 2, 1) := by decide +kernel
theorem dX2_seek_2 : decode cX2_seek 2 = .ok (.iconst 0, 1) := by decide +kernel
theorem dX2_seek_3 : decode cX2_seek 3 = .ok (.istore_n 3, 1) := by decide +kernel
theorem dX2_seek_4 : decode cX2_seek 4 = .ok (.iload_n 3, 1) := by decide +kernel
theorem dX2_seek_5 : decode cX2_seek 5 = .ok (.aload_n 0, 1) := by decide +kernel
theorem dX2_seek_6 : decode cX2_seek 6 = .ok (.getfield 13, 3) := by decide +kernel
theorem dX2_seek_9 : decode cX2_seek 9 = .ok (.getfield 42, 3) := by decide +kernel
theorem dX2_seek_12 : decode cX2_seek 12 = .ok (.if_icmp .ge 64, 3) := by decide +kernel
theorem dX2_seek_15 : decode cX2_seek 15 = .ok (.iload_n 2, 1) := by decide +kernel
theorem dX2_seek_16 : decode cX2_seek 16 = .ok (.ifCond .lt 60, 3) := by decide +kernel
theorem dX2_seek_19 : decode cX2_seek 19 = .ok (.iconst 0, 1) := by decide +kernel
theorem dX2_seek_20 : decode cX2_seek 20 = .ok (.istore 4, 2) := by decide +kernel
theorem dX2_seek_22 : decode cX2_seek 22 = .ok (.iload 4, 2) := by decide +kernel
theorem dX2_seek_24 : decode cX2_seek 24 = .ok (.aload_n 0, 1) := by decide +kernel
theorem dX2_seek_25 : decode cX2_seek 25 = .ok (.getfield 13, 3) := by decide +kernel
theorem dX2_seek_28 : decode cX2_seek 28 = .ok (.getfield 42, 3) := by decide +kernel
theorem dX2_seek_31 : decode cX2_seek 31 = .ok (.if_icmp .ge 39, 3) := by decide +kernel
theorem dX2_seek_34 : decode cX2_seek 34 = .ok (.aload_n 0, 1) := by decide +kernel
theorem dX2_seek_35 : decode cX2_seek 35 = .ok (.iload_n 3, 1) := by decide +kernel
theorem dX2_seek_36 : decode cX2_seek 36 = .ok (.iload 4, 2) := by decide +kernel
theorem dX2_seek_38 : decode cX2_seek 38 = .ok (.invokevirtual 45, 3) := by decide +kernel
theorem dX2_seek_41 : decode cX2_seek 41 = .ok (.ifCond .eq 23, 3) := by decide +kernel
theorem dX2_seek_44 : decode cX2_seek 44 = .ok (.iload_n 2, 1) := by decide +kernel
theorem dX2_seek_45 : decode cX2_seek 45 = .ok (.ifCond .ne 16, 3) := by decide +kernel
theorem dX2_seek_48 : decode cX2_seek 48 = .ok (.aload_n 0, 1) := by decide +kernel
theorem dX2_seek_49 : decode cX2_seek 49 = .ok (.iload_n 3, 1) := by decide +kernel
theorem dX2_seek_50 : decode cX2_seek 50 = .ok (.putfield 49, 3) := by decide +kernel
theorem dX2_seek_53 : decode cX2_seek 53 = .ok (.aload_n 0, 1) := by decide +kernel
theorem dX2_seek_54 : decode cX2_seek 54 = .ok (.iload 4, 2) := by decide +kernel
theorem dX2_seek_56 : decode cX2_seek 56 = .ok (.putfield 52, 3) := by decide +kernel
theorem dX2_seek_59 : decode cX2_seek 59 = .ok (.iconst 1, 1) := by decide +kernel
theorem dX2_seek_60 : decode cX2_seek 60 = .ok (.ireturn, 1) := by decide +kernel
theorem dX2_seek_61 : decode cX2_seek 61 = .ok (.iinc 2 (-1), 3) := by decide +kernel
theorem dX2_seek_64 : decode cX2_seek 64 = .ok (.iinc 4 1, 3) := by decide +kernel
theorem dX2_seek_67 : decode cX2_seek 67 = .ok (.goto (-45), 3) := by decide +kernel
theorem dX2_seek_70 : decode cX2_seek 70 = .ok (.iinc 3 1, 3) := by decide +kernel
theorem dX2_seek_73 : decode cX2_seek 73 = .ok (.goto (-69), 3) := by decide +kernel
theorem dX2_seek_76 : decode cX2_seek 76 = .ok (.iconst 0, 1) := by decide +kernel
theorem dX2_seek_77 : decode cX2_seek 77 = .ok (.ireturn, 1) := by decide +kernel
theorem dX3_init_0 : decode cX3_init 0 = .ok (.aload_n 0, 1) := by decide +kernel
theorem dX3_init_1 : decode cX3_init 1 = .ok (.invokespecial 3, 3) := by decide +kernel
theorem dX3_init_4 : decode cX3_init 4 = .ok (.return_, 1) := by decide +kernel
theorem dX3_through_0 : decode cX3_through 0 = .ok (.aload_n 0, 1) := by decide +kernel
theorem dX3_through_1 : decode cX3_through 1 = .ok (.aload_n 2, 1) := by decide +kernel
theorem dX3_through_2 : decode cX3_through 2 = .ok (.getfield 9, 3) := by decide +kernel
theorem dX3_through_5 : decode cX3_through 5 = .ok (.i2l, 1) := by decide +kernel
theorem dX3_through_6 : decode cX3_through 6 = .ok (.putfield 15, 3) := by decide +kernel
theorem dX3_through_9 : decode cX3_through 9 = .ok (.aload_n 0, 1) := by decide +kernel
theorem dX3_through_10 : decode cX3_through 10 = .ok (.lconst 0, 1) := by decide +kernel
theorem dX3_through_11 : decode cX3_through 11 = .ok (.putfield 21, 3) := by decide +kernel
theorem dX3_through_14 : decode cX3_through 14 = .ok (.aload_n 0, 1) := by decide +kernel
theorem dX3_through_15 : decode cX3_through 15 = .ok (.lconst 0, 1) := by decide +kernel
theorem dX3_through_16 : decode cX3_through 16 = .ok (.putfield 24, 3) := by decide +kernel
theorem dX3_through_19 : decode cX3_through 19 = .ok (.lconst 0, 1) := by decide +kernel
theorem dX3_through_20 : decode cX3_through 20 = .ok (.lstore 4, 2) := by decide +kernel
theorem dX3_through_22 : decode cX3_through 22 = .ok (.lconst 0, 1) := by decide +kernel
theorem dX3_through_23 : decode cX3_through 23 = .ok (.lstore 6, 2) := by decide +kernel
theorem dX3_through_25 : decode cX3_through 25 = .ok (.iconst 0, 1) := by decide +kernel
theorem dX3_through_26 : decode cX3_through 26 = .ok (.istore 8, 2) := by decide +kernel
theorem dX3_through_28 : decode cX3_through 28 = .ok (.iload 8, 2) := by decide +kernel
theorem dX3_through_30 : decode cX3_through 30 = .ok (.aload_n 2, 1) := by decide +kernel
theorem dX3_through_31 : decode cX3_through 31 = .ok (.getfield 9, 3) := by decide +kernel
theorem dX3_through_34 : decode cX3_through 34 = .ok (.if_icmp .ge 81, 3) := by decide +kernel
theorem dX3_through_37 : decode cX3_through 37 = .ok (.aload_n 1, 1) := by decide +kernel
theorem dX3_through_38 : decode cX3_through 38 = .ok (.getfield 27, 3) := by decide +kernel
theorem dX3_through_41 : decode cX3_through 41 = .ok (.aload_n 2, 1) := by decide +kernel
theorem dX3_through_42 : decode cX3_through 42 = .ok (.getfield 33, 3) := by decide +kernel
theorem dX3_through_45 : decode cX3_through 45 = .ok (.iload 8, 2) := by decide +kernel
theorem dX3_through_47 : decode cX3_through 47 = .ok (.iaload, 1) := by decide +kernel
theorem dX3_through_48 : decode cX3_through 48 = .ok (.iaload, 1) := by decide +kernel
theorem dX3_through_49 : decode cX3_through 49 = .ok (.i2l, 1) := by decide +kernel
theorem dX3_through_50 : decode cX3_through 50 = .ok (.lstore 9, 2) := by decide +kernel
theorem dX3_through_52 : decode cX3_through 52 = .ok (.aload_n 1, 1) := by decide +kernel
theorem dX3_through_53 : decode cX3_through 53 = .ok (.aload_n 2, 1) := by decide +kernel
theorem dX3_through_54 : decode cX3_through 54 = .ok (.getfield 33, 3) := by decide +kernel
theorem dX3_through_57 : decode cX3_through 57 = .ok (.iload 8, 2) := by decide +kernel
theorem dX3_through_59 : decode cX3_through 59 = .ok (.iaload, 1) := by decide +kernel
theorem dX3_through_60 : decode cX3_through 60 = .ok (.iload_n 3, 1) := by decide +kernel
theorem dX3_through_61 : decode cX3_through 61 = .ok (.invokevirtual 35, 3) := by decide +kernel
theorem dX3_through_64 : decode cX3_through 64 = .ok (.i2l, 1) := by decide +kernel
theorem dX3_through_65 : decode cX3_through 65 = .ok (.lstore 11, 2) := by decide +kernel
theorem dX3_through_67 : decode cX3_through 67 = .ok (.aload_n 0, 1) := by decide +kernel
theorem dX3_through_68 : decode cX3_through 68 = .ok (.dup, 1) := by decide +kernel
theorem dX3_through_69 : decode cX3_through 69 = .ok (.getfield 21, 3) := by decide +kernel
theorem dX3_through_72 : decode cX3_through 72 = .ok (.lload 9, 2) := by decide +kernel
theorem dX3_through_74 : decode cX3_through 74 = .ok (.ladd, 1) := by decide +kernel
theorem dX3_through_75 : decode cX3_through 75 = .ok (.putfield 21, 3) := by decide +kernel
theorem dX3_through_78 : decode cX3_through 78 = .ok (.aload_n 0, 1) := by decide +kernel
theorem dX3_through_79 : decode cX3_through 79 = .ok (.dup, 1) := by decide +kernel
theorem dX3_through_80 : decode cX3_through 80 = .ok (.getfield 24, 3) := by decide +kernel
theorem dX3_through_83 : decode cX3_through 83 = .ok (.lload 11, 2) := by decide +kernel
theorem dX3_through_85 : decode cX3_through 85 = .ok (.ladd, 1) := by decide +kernel
theorem dX3_through_86 : decode cX3_through 86 = .ok (.putfield 24, 3) := by decide +kernel
theorem dX3_through_89 : decode cX3_through 89 = .ok (.lload 4, 2) := by decide +kernel
theorem dX3_through_91 : decode cX3_through 91 = .ok (.lload 9, 2) := by decide +kernel
theorem dX3_through_93 : decode cX3_through 93 = .ok (.lload 9, 2) := by decide +kernel
theorem dX3_through_95 : decode cX3_through 95 = .ok (.lmul, 1) := by decide +kernel
theorem dX3_through_96 : decode cX3_through 96 = .ok (.ladd, 1) := by decide +kernel
theorem dX3_through_97 : decode cX3_through 97 = .ok (.lstore 4, 2) := by decide +kernel
theorem dX3_through_99 : decode cX3_through 99 = .ok (.lload 6, 2) := by decide +kernel
theorem dX3_through_101 : decode cX3_through 101 = .ok (.lload 9, 2) := by decide +kernel
theorem dX3_through_103 : decode cX3_through 103 = .ok (.lload 11, 2) := by decide +kernel
theorem dX3_through_105 : decode cX3_through 105 = .ok (.lmul, 1) := by decide +kernel
theorem dX3_through_106 : decode cX3_through 106 = .ok (.ladd, 1) := by decide +kernel
theorem dX3_through_107 : decode cX3_through 107 = .ok (.lstore 6, 2) := by decide +kernel
theorem dX3_through_109 : decode cX3_through 109 = .ok (.iinc 8 1, 3) := by decide +kernel
theorem dX3_through_112 : decode cX3_through 112 = .ok (.goto (-84), 3) := by decide +kernel
theorem dX3_through_115 : decode cX3_through 115 = .ok (.aload_n 0, 1) := by decide +kernel
theorem dX3_through_116 : decode cX3_through 116 = .ok (.aload_n 0, 1) := by decide +kernel
theorem dX3_through_117 : decode cX3_through 117 = .ok (.getfield 15, 3) := by decide +kernel
theorem dX3_through_120 : decode cX3_through 120 = .ok (.lload 6, 2) := by decide +kernel
theorem dX3_through_122 : decode cX3_through 122 = .ok (.lmul, 1) := by decide +kernel
theorem dX3_through_123 : decode cX3_through 123 = .ok (.aload_n 0, 1) := by decide +kernel
theorem dX3_through_124 : decode cX3_through 124 = .ok (.getfield 21, 3) := by decide +kernel
theorem dX3_through_127 : decode cX3_through 127 = .ok (.aload_n 0, 1) := by decide +kernel
theorem dX3_through_128 : decode cX3_through 128 = .ok (.getfield 24, 3) := by decide +kernel
theorem dX3_through_131 : decode cX3_through 131 = .ok (.lmul, 1) := by decide +kernel
theorem dX3_through_132 : decode cX3_through 132 = .ok (.lsub, 1) := by decide +kernel
theorem dX3_through_133 : decode cX3_through 133 = .ok (.putfield 39, 3) := by decide +kernel
theorem dX3_through_136 : decode cX3_through 136 = .ok (.aload_n 0, 1) := by decide +kernel
theorem dX3_through_137 : decode cX3_through 137 = .ok (.aload_n 0, 1) := by decide +kernel
theorem dX3_through_138 : decode cX3_through 138 = .ok (.getfield 15, 3) := by decide +kernel
theorem dX3_through_141 : decode cX3_through 141 = .ok (.lload 4, 2) := by decide +kernel
theorem dX3_through_143 : decode cX3_through 143 = .ok (.lmul, 1) := by decide +kernel
theorem dX3_through_144 : decode cX3_through 144 = .ok (.aload_n 0, 1) := by decide +kernel
theorem dX3_through_145 : decode cX3_through 145 = .ok (.getfield 21, 3) := by decide +kernel
theorem dX3_through_148 : decode cX3_through 148 = .ok (.aload_n 0, 1) := by decide +kernel
theorem dX3_through_149 : decode cX3_through 149 = .ok (.getfield 21, 3) := by decide +kernel
theorem dX3_through_152 : decode cX3_through 152 = .ok (.lmul, 1) := by decide +kernel
theorem dX3_through_153 : decode cX3_through 153 = .ok (.lsub, 1) := by decide +kernel
theorem dX3_through_154 : decode cX3_through 154 = .ok (.putfield 42, 3) := by decide +kernel
theorem dX3_through_157 : decode cX3_through 157 = .ok (.aload_n 0, 1) := by decide +kernel
theorem dX3_through_158 : decode cX3_through 158 = .ok (.getfield 42, 3) := by decide +kernel
theorem dX3_through_161 : decode cX3_through 161 = .ok (.lconst 0, 1) := by decide +kernel
theorem dX3_through_162 : decode cX3_through 162 = .ok (.lcmp, 1) := by decide +kernel
theorem dX3_through_163 : decode cX3_through 163 = .ok (.ifCond .le 7, 3) := by decide +kernel
theorem dX3_through_166 : decode cX3_through 166 = .ok (.iconst 1, 1) := by decide +kernel
theorem dX3_through_167 : decode cX3_through 167 = .ok (.goto 4, 3) := by decide +kernel
theorem dX3_through_170 : decode cX3_through 170 = .ok (.iconst 0, 1) := by decide +kernel
theorem dX3_through_171 : decode cX3_through 171 = .ok (.ireturn, 1) := by decide +kernel
theorem dX3_placeTop_0 : decode cX3_placeTop 0 = .ok (.aload_n 0, 1) := by decide +kernel
theorem dX3_placeTop_1 : decode cX3_placeTop 1 = .ok (.getfield 24, 3) := by decide +kernel
theorem dX3_placeTop_4 : decode cX3_placeTop 4 = .ok (.aload_n 0, 1) := by decide +kernel
theorem dX3_placeTop_5 : decode cX3_placeTop 5 = .ok (.getfield 42, 3) := by decide +kernel
theorem dX3_placeTop_8 : decode cX3_placeTop 8 = .ok (.lmul, 1) := by decide +kernel
theorem dX3_placeTop_9 : decode cX3_placeTop 9 = .ok (.aload_n 0, 1) := by decide +kernel
theorem dX3_placeTop_10 : decode cX3_placeTop 10 = .ok (.getfield 39, 3) := by decide +kernel
theorem dX3_placeTop_13 : decode cX3_placeTop 13 = .ok (.aload_n 0, 1) := by decide +kernel
theorem dX3_placeTop_14 : decode cX3_placeTop 14 = .ok (.getfield 21, 3) := by decide +kernel
theorem dX3_placeTop_17 : decode cX3_placeTop 17 = .ok (.lmul, 1) := by decide +kernel
theorem dX3_placeTop_18 : decode cX3_placeTop 18 = .ok (.lsub, 1) := by decide +kernel
theorem dX3_placeTop_19 : decode cX3_placeTop 19 = .ok (.lreturn, 1) := by decide +kernel
theorem dX3_placeBelow_0 : decode cX3_placeBelow 0 = .ok (.aload_n 0, 1) := by decide +kernel
theorem dX3_placeBelow_1 : decode cX3_placeBelow 1 = .ok (.getfield 15, 3) := by decide +kernel
theorem dX3_placeBelow_4 : decode cX3_placeBelow 4 = .ok (.aload_n 0, 1) := by decide +kernel
theorem dX3_placeBelow_5 : decode cX3_placeBelow 5 = .ok (.getfield 42, 3) := by decide +kernel
theorem dX3_placeBelow_8 : decode cX3_placeBelow 8 = .ok (.lmul, 1) := by decide +kernel
theorem dX3_placeBelow_9 : decode cX3_placeBelow 9 = .ok (.lreturn, 1) := by decide +kernel
theorem dX3_missTop_0 : decode cX3_missTop 0 = .ok (.lload_n 3, 1) := by decide +kernel
theorem dX3_missTop_1 : decode cX3_missTop 1 = .ok (.aload_n 0, 1) := by decide +kernel
theorem dX3_missTop_2 : decode cX3_missTop 2 = .ok (.invokevirtual 45, 3) := by decide +kernel
theorem dX3_missTop_5 : decode cX3_missTop 5 = .ok (.lmul, 1) := by decide +kernel
theorem dX3_missTop_6 : decode cX3_missTop 6 = .ok (.aload_n 0, 1) := by decide +kernel
theorem dX3_missTop_7 : decode cX3_missTop 7 = .ok (.invokevirtual 49, 3) := by decide +kernel
theorem dX3_missTop_10 : decode cX3_missTop 10 = .ok (.lsub, 1) := by decide +kernel
theorem dX3_missTop_11 : decode cX3_missTop 11 = .ok (.aload_n 0, 1) := by decide +kernel
theorem dX3_missTop_12 : decode cX3_missTop 12 = .ok (.getfield 39, 3) := by decide +kernel
theorem dX3_missTop_15 : decode cX3_missTop 15 = .ok (.aload_n 0, 1) := by decide +kernel
theorem dX3_missTop_16 : decode cX3_missTop 16 = .ok (.getfield 15, 3) := by decide +kernel
theorem dX3_missTop_19 : decode cX3_missTop 19 = .ok (.lmul, 1) := by decide +kernel
theorem dX3_missTop_20 : decode cX3_missTop 20 = .ok (.lload_n 1, 1) := by decide +kernel
theorem dX3_missTop_21 : decode cX3_missTop 21 = .ok (.lmul, 1) := by decide +kernel
theorem dX3_missTop_22 : decode cX3_missTop 22 = .ok (.lsub, 1) := by decide +kernel
theorem dX3_missTop_23 : decode cX3_missTop 23 = .ok (.invokestatic 52, 3) := by decide +kernel
theorem dX3_missTop_26 : decode cX3_missTop 26 = .ok (.lreturn, 1) := by decide +kernel
theorem dX3_reduced_0 : decode cX3_reduced 0 = .ok (.lload_n 0, 1) := by decide +kernel
theorem dX3_reduced_1 : decode cX3_reduced 1 = .ok (.invokestatic 52, 3) := by decide +kernel
theorem dX3_reduced_4 : decode cX3_reduced 4 = .ok (.lload_n 2, 1) := by decide +kernel
theorem dX3_reduced_5 : decode cX3_reduced 5 = .ok (.invokestatic 52, 3) := by decide +kernel
theorem dX3_reduced_8 : decode cX3_reduced 8 = .ok (.invokestatic 58, 3) := by decide +kernel
theorem dX3_reduced_11 : decode cX3_reduced 11 = .ok (.lstore 5, 2) := by decide +kernel
theorem dX3_reduced_13 : decode cX3_reduced 13 = .ok (.lload 5, 2) := by decide +kernel
theorem dX3_reduced_15 : decode cX3_reduced 15 = .ok (.lconst 0, 1) := by decide +kernel
theorem dX3_reduced_16 : decode cX3_reduced 16 = .ok (.lcmp, 1) := by decide +kernel
theorem dX3_reduced_17 : decode cX3_reduced 17 = .ok (.ifCond .ne 7, 3) := by decide +kernel
theorem dX3_reduced_20 : decode cX3_reduced 20 = .ok (.ldc2_w 62, 3) := by decide +kernel
theorem dX3_reduced_23 : decode cX3_reduced 23 = .ok (.lreturn, 1) := by decide +kernel
theorem dX3_reduced_24 : decode cX3_reduced 24 = .ok (.iload 4, 2) := by decide +kernel
theorem dX3_reduced_26 : decode cX3_reduced 26 = .ok (.ifCond .ne 7, 3) := by decide +kernel
theorem dX3_reduced_29 : decode cX3_reduced 29 = .ok (.lload_n 0, 1) := by decide +kernel
theorem dX3_reduced_30 : decode cX3_reduced 30 = .ok (.goto 4, 3) := by decide +kernel
theorem dX3_reduced_33 : decode cX3_reduced 33 = .ok (.lload_n 2, 1) := by decide +kernel
theorem dX3_reduced_34 : decode cX3_reduced 34 = .ok (.lload 5, 2) := by decide +kernel
theorem dX3_reduced_36 : decode cX3_reduced 36 = .ok (.ldiv, 1) := by decide +kernel
theorem dX3_reduced_37 : decode cX3_reduced 37 = .ok (.lreturn, 1) := by decide +kernel
theorem dX3_commonDivisor_0 : decode cX3_commonDivisor 0 = .ok (.lload_n 0, 1) := by decide +kernel
theorem dX3_commonDivisor_1 : decode cX3_commonDivisor 1 = .ok (.lstore 4, 2) := by decide +kernel
theorem dX3_commonDivisor_3 : decode cX3_commonDivisor 3 = .ok (.lload_n 2, 1) := by decide +kernel
theorem dX3_commonDivisor_4 : decode cX3_commonDivisor 4 = .ok (.lstore 6, 2) := by decide +kernel
theorem dX3_commonDivisor_6 : decode cX3_commonDivisor 6 = .ok (.iconst 0, 1) := by decide +kernel
theorem dX3_commonDivisor_7 : decode cX3_commonDivisor 7 = .ok (.istore 8, 2) := by decide +kernel
theorem dX3_commonDivisor_9 : decode cX3_commonDivisor 9 = .ok (.iload 8, 2) := by decide +kernel
theorem dX3_commonDivisor_11 : decode cX3_commonDivisor 11 = .ok (.sipush 200, 3) := by decide +kernel
theorem dX3_commonDivisor_14 : decode cX3_commonDivisor 14 = .ok (.if_icmp .ge 31, 3) := by decide +kernel
theorem dX3_commonDivisor_17 : decode cX3_commonDivisor 17 = .ok (.lload 6, 2) := by decide +kernel
theorem dX3_commonDivisor_19 : decode cX3_commonDivisor 19 = .ok (.lconst 0, 1) := by decide +kernel
theorem dX3_commonDivisor_20 : decode cX3_commonDivisor 20 = .ok (.lcmp, 1) := by decide +kernel
theorem dX3_commonDivisor_21 : decode cX3_commonDivisor 21 = .ok (.ifCond .eq 24, 3) := by decide +kernel
theorem dX3_commonDivisor_24 : decode cX3_commonDivisor 24 = .ok (.lload 4, 2) := by decide +kernel
theorem dX3_commonDivisor_26 : decode cX3_commonDivisor 26 = .ok (.lload 6, 2) := by decide +kernel
theorem dX3_commonDivisor_28 : decode cX3_commonDivisor 28 = .ok (.lrem, 1) := by decide +kernel
theorem dX3_commonDivisor_29 : decode cX3_commonDivisor 29 = .ok (.lstore 9, 2) := by decide +kernel
theorem dX3_commonDivisor_31 : decode cX3_commonDivisor 31 = .ok (.lload 6, 2) := by decide +kernel
theorem dX3_commonDivisor_33 : decode cX3_commonDivisor 33 = .ok (.lstore 4, 2) := by decide +kernel
theorem dX3_commonDivisor_35 : decode cX3_commonDivisor 35 = .ok (.lload 9, 2) := by decide +kernel
theorem dX3_commonDivisor_37 : decode cX3_commonDivisor 37 = .ok (.lstore 6, 2) := by decide +kernel
theorem dX3_commonDivisor_39 : decode cX3_commonDivisor 39 = .ok (.iinc 8 1, 3) := by decide +kernel
theorem dX3_commonDivisor_42 : decode cX3_commonDivisor 42 = .ok (.goto (-33), 3) := by decide +kernel
theorem dX3_commonDivisor_45 : decode cX3_commonDivisor 45 = .ok (.lload 4, 2) := by decide +kernel
theorem dX3_commonDivisor_47 : decode cX3_commonDivisor 47 = .ok (.lreturn, 1) := by decide +kernel
theorem dX4_init_0 : decode cX4_init 0 = .ok (.aload_n 0, 1) := by decide +kernel
theorem dX4_init_1 : decode cX4_init 1 = .ok (.invokespecial 3, 3) := by decide +kernel
theorem dX4_init_4 : decode cX4_init 4 = .ok (.aload_n 0, 1) := by decide +kernel
theorem dX4_init_5 : decode cX4_init 5 = .ok (.bipush 10, 2) := by decide +kernel
theorem dX4_init_7 : decode cX4_init 7 = .ok (.putfield 9, 3) := by decide +kernel
theorem dX4_init_10 : decode cX4_init 10 = .ok (.aload_n 0, 1) := by decide +kernel
theorem dX4_init_11 : decode cX4_init 11 = .ok (.bipush 10, 2) := by decide +kernel
theorem dX4_init_13 : decode cX4_init 13 = .ok (.putfield 15, 3) := by decide +kernel
theorem dX4_init_16 : decode cX4_init 16 = .ok (.aload_n 0, 1) := by decide +kernel
theorem dX4_init_17 : decode cX4_init 17 = .ok (.aload_n 1, 1) := by decide +kernel
theorem dX4_init_18 : decode cX4_init 18 = .ok (.putfield 18, 3) := by decide +kernel
theorem dX4_init_21 : decode cX4_init 21 = .ok (.return_, 1) := by decide +kernel
theorem dX4_span_0 : decode cX4_span 0 = .ok (.sipush (-2000), 3) := by decide +kernel
theorem dX4_span_3 : decode cX4_span 3 = .ok (.istore 4, 2) := by decide +kernel
theorem dX4_span_5 : decode cX4_span 5 = .ok (.sipush 2000, 3) := by decide +kernel
theorem dX4_span_8 : decode cX4_span 8 = .ok (.istore 5, 2) := by decide +kernel
theorem dX4_span_10 : decode cX4_span 10 = .ok (.iconst 0, 1) := by decide +kernel
theorem dX4_span_11 : decode cX4_span 11 = .ok (.istore 6, 2) := by decide +kernel
theorem dX4_span_13 : decode cX4_span 13 = .ok (.iload 6, 2) := by decide +kernel
theorem dX4_span_15 : decode cX4_span 15 = .ok (.aload_n 1, 1) := by decide +kernel
theorem dX4_span_16 : decode cX4_span 16 = .ok (.getfield 22, 3) := by decide +kernel
theorem dX4_span_19 : decode cX4_span 19 = .ok (.if_icmp .ge 78, 3) := by decide +kernel
theorem dX4_span_22 : decode cX4_span 22 = .ok (.iload 4, 2) := by decide +kernel
theorem dX4_span_24 : decode cX4_span 24 = .ok (.iload 5, 2) := by decide +kernel
theorem dX4_span_26 : decode cX4_span 26 = .ok (.if_icmp .gt 71, 3) := by decide +kernel
theorem dX4_span_29 : decode cX4_span 29 = .ok (.aload_n 1, 1) := by decide +kernel
theorem dX4_span_30 : decode cX4_span 30 = .ok (.getfield 27, 3) := by decide +kernel
theorem dX4_span_33 : decode cX4_span 33 = .ok (.iload 6, 2) := by decide +kernel
theorem dX4_span_35 : decode cX4_span 35 = .ok (.iaload, 1) := by decide +kernel
theorem dX4_span_36 : decode cX4_span 36 = .ok (.istore 7, 2) := by decide +kernel
theorem dX4_span_38 : decode cX4_span 38 = .ok (.aload_n 0, 1) := by decide +kernel
theorem dX4_span_39 : decode cX4_span 39 = .ok (.getfield 18, 3) := by decide +kernel
theorem dX4_span_42 : decode cX4_span 42 = .ok (.iload 7, 2) := by decide +kernel
theorem dX4_span_44 : decode cX4_span 44 = .ok (.iload_n 2, 1) := by decide +kernel
theorem dX4_span_45 : decode cX4_span 45 = .ok (.invokevirtual 31, 3) := by decide +kernel
theorem dX4_span_48 : decode cX4_span 48 = .ok (.iload_n 3, 1) := by decide +kernel
theorem dX4_span_49 : decode cX4_span 49 = .ok (.aload_n 0, 1) := by decide +kernel
theorem dX4_span_50 : decode cX4_span 50 = .ok (.getfield 18, 3) := by decide +kernel
theorem dX4_span_53 : decode cX4_span 53 = .ok (.getfield 37, 3) := by decide +kernel
theorem dX4_span_56 : decode cX4_span 56 = .ok (.iload 7, 2) := by decide +kernel
theorem dX4_span_58 : decode cX4_span 58 = .ok (.iaload, 1) := by decide +kernel
theorem dX4_span_59 : decode cX4_span 59 = .ok (.imul, 1) := by decide +kernel
theorem dX4_span_60 : decode cX4_span 60 = .ok (.isub, 1) := by decide +kernel
theorem dX4_span_61 : decode cX4_span 61 = .ok (.istore 8, 2) := by decide +kernel
theorem dX4_span_63 : decode cX4_span 63 = .ok (.iload 4, 2) := by decide +kernel
theorem dX4_span_65 : decode cX4_span 65 = .ok (.iload 8, 2) := by decide +kernel
theorem dX4_span_67 : decode cX4_span 67 = .ok (.aload_n 0, 1) := by decide +kernel
theorem dX4_span_68 : decode cX4_span 68 = .ok (.getfield 15, 3) := by decide +kernel
theorem dX4_span_71 : decode cX4_span 71 = .ok (.isub, 1) := by decide +kernel
theorem dX4_span_72 : decode cX4_span 72 = .ok (.invokestatic 40, 3) := by decide +kernel
theorem dX4_span_75 : decode cX4_span 75 = .ok (.istore 4, 2) := by decide +kernel
theorem dX4_span_77 : decode cX4_span 77 = .ok (.iload 5, 2) := by decide +kernel
theorem dX4_span_79 : decode cX4_span 79 = .ok (.iload 8, 2) := by decide +kernel
theorem dX4_span_81 : decode cX4_span 81 = .ok (.aload_n 0, 1) := by decide +kernel
theorem dX4_span_82 : decode cX4_span 82 = .ok (.getfield 15, 3) := by decide +kernel
theorem dX4_span_85 : decode cX4_span 85 = .ok (.iadd, 1) := by decide +kernel
theorem dX4_span_86 : decode cX4_span 86 = .ok (.invokestatic 45, 3) := by decide +kernel
theorem dX4_span_89 : decode cX4_span 89 = .ok (.istore 5, 2) := by decide +kernel
theorem dX4_span_91 : decode cX4_span 91 = .ok (.iinc 6 1, 3) := by decide +kernel
theorem dX4_span_94 : decode cX4_span 94 = .ok (.goto (-81), 3) := by decide +kernel
theorem dX4_span_97 : decode cX4_span 97 = .ok (.iconst 1, 1) := by decide +kernel
theorem dX4_span_98 : decode cX4_span 98 = .ok (.aload_n 0, 1) := by decide +kernel
theorem dX4_span_99 : decode cX4_span 99 = .ok (.getfield 9, 3) := by decide +kernel
theorem dX4_span_102 : decode cX4_span 102 = .ok (.invokestatic 40, 3) := by decide +kernel
theorem dX4_span_105 : decode cX4_span 105 = .ok (.istore 6, 2) := by decide +kernel
theorem dX4_span_107 : decode cX4_span 107 = .ok (.aload_n 0, 1) := by decide +kernel
theorem dX4_span_108 : decode cX4_span 108 = .ok (.iload 4, 2) := by decide +kernel
theorem dX4_span_110 : decode cX4_span 110 = .ok (.ineg, 1) := by decide +kernel
theorem dX4_span_111 : decode cX4_span 111 = .ok (.iload 6, 2) := by decide +kernel
theorem dX4_span_113 : decode cX4_span 113 = .ok (.invokestatic 48, 3) := by decide +kernel
theorem dX4_span_116 : decode cX4_span 116 = .ok (.ineg, 1) := by decide +kernel
theorem dX4_span_117 : decode cX4_span 117 = .ok (.putfield 51, 3) := by decide +kernel
theorem dX4_span_120 : decode cX4_span 120 = .ok (.aload_n 0, 1) := by decide +kernel
theorem dX4_span_121 : decode cX4_span 121 = .ok (.iload 5, 2) := by decide +kernel
theorem dX4_span_123 : decode cX4_span 123 = .ok (.iload 6, 2) := by decide +kernel
theorem dX4_span_125 : decode cX4_span 125 = .ok (.invokestatic 48, 3) := by decide +kernel
theorem dX4_span_128 : decode cX4_span 128 = .ok (.putfield 54, 3) := by decide +kernel
theorem dX4_span_131 : decode cX4_span 131 = .ok (.aload_n 0, 1) := by decide +kernel
theorem dX4_span_132 : decode cX4_span 132 = .ok (.getfield 51, 3) := by decide +kernel
theorem dX4_span_135 : decode cX4_span 135 = .ok (.aload_n 0, 1) := by decide +kernel
theorem dX4_span_136 : decode cX4_span 136 = .ok (.getfield 54, 3) := by decide +kernel
theorem dX4_span_139 : decode cX4_span 139 = .ok (.if_icmp .gt 7, 3) := by decide +kernel
theorem dX4_span_142 : decode cX4_span 142 = .ok (.iconst 1, 1) := by decide +kernel
theorem dX4_span_143 : decode cX4_span 143 = .ok (.goto 4, 3) := by decide +kernel
theorem dX4_span_146 : decode cX4_span 146 = .ok (.iconst 0, 1) := by decide +kernel
theorem dX4_span_147 : decode cX4_span 147 = .ok (.ireturn, 1) := by decide +kernel
theorem dX4_linesBy_0 : decode cX4_linesBy 0 = .ok (.lconst 0, 1) := by decide +kernel
theorem dX4_linesBy_1 : decode cX4_linesBy 1 = .ok (.lstore_n 3, 1) := by decide +kernel
theorem dX4_linesBy_2 : decode cX4_linesBy 2 = .ok (.bipush (-20), 2) := by decide +kernel
theorem dX4_linesBy_4 : decode cX4_linesBy 4 = .ok (.istore 5, 2) := by decide +kernel
theorem dX4_linesBy_6 : decode cX4_linesBy 6 = .ok (.iload 5, 2) := by decide +kernel
theorem dX4_linesBy_8 : decode cX4_linesBy 8 = .ok (.bipush 20, 2) := by decide +kernel
theorem dX4_linesBy_10 : decode cX4_linesBy 10 = .ok (.if_icmp .gt 35, 3) := by decide +kernel
theorem dX4_linesBy_13 : decode cX4_linesBy 13 = .ok (.aload_n 0, 1) := by decide +kernel
theorem dX4_linesBy_14 : decode cX4_linesBy 14 = .ok (.aload_n 1, 1) := by decide +kernel
theorem dX4_linesBy_15 : decode cX4_linesBy 15 = .ok (.iload_n 2, 1) := by decide +kernel
theorem dX4_linesBy_16 : decode cX4_linesBy 16 = .ok (.iload 5, 2) := by decide +kernel
theorem dX4_linesBy_18 : decode cX4_linesBy 18 = .ok (.invokevirtual 57, 3) := by decide +kernel
theorem dX4_linesBy_21 : decode cX4_linesBy 21 = .ok (.ifCond .eq 18, 3) := by decide +kernel
theorem dX4_linesBy_24 : decode cX4_linesBy 24 = .ok (.lload_n 3, 1) := by decide +kernel
theorem dX4_linesBy_25 : decode cX4_linesBy 25 = .ok (.aload_n 0, 1) := by decide +kernel
theorem dX4_linesBy_26 : decode cX4_linesBy 26 = .ok (.getfield 54, 3) := by decide +kernel
theorem dX4_linesBy_29 : decode cX4_linesBy 29 = .ok (.aload_n 0, 1) := by decide +kernel
theorem dX4_linesBy_30 : decode cX4_linesBy 30 = .ok (.getfield 51, 3) := by decide +kernel
theorem dX4_linesBy_33 : decode cX4_linesBy 33 = .ok (.isub, 1) := by decide +kernel
theorem dX4_linesBy_34 : decode cX4_linesBy 34 = .ok (.iconst 1, 1) := by decide +kernel
theorem dX4_linesBy_35 : decode cX4_linesBy 35 = .ok (.iadd, 1) := by decide +kernel
theorem dX4_linesBy_36 : decode cX4_linesBy 36 = .ok (.i2l, 1) := by decide +kernel
theorem dX4_linesBy_37 : decode cX4_linesBy 37 = .ok (.ladd, 1) := by decide +kernel
theorem dX4_linesBy_38 : decode cX4_linesBy 38 = .ok (.lstore_n 3, 1) := by decide +kernel
theorem dX4_linesBy_39 : decode cX4_linesBy 39 = .ok (.iinc 5 1, 3) := by decide +kernel
theorem dX4_linesBy_42 : decode cX4_linesBy 42 = .ok (.goto (-36), 3) := by decide +kernel
theorem dX4_linesBy_45 : decode cX4_linesBy 45 = .ok (.lload_n 3, 1) := by decide +kernel
theorem dX4_linesBy_46 : decode cX4_linesBy 46 = .ok (.lreturn, 1) := by decide +kernel
theorem dX4_linesOf_0 : decode cX4_linesOf 0 = .ok (.aload_n 0, 1) := by decide +kernel
theorem dX4_linesOf_1 : decode cX4_linesOf 1 = .ok (.aload_n 1, 1) := by decide +kernel
theorem dX4_linesOf_2 : decode cX4_linesOf 2 = .ok (.iconst 0, 1) := by decide +kernel
theorem dX4_linesOf_3 : decode cX4_linesOf 3 = .ok (.invokevirtual 61, 3) := by decide +kernel
theorem dX4_linesOf_6 : decode cX4_linesOf 6 = .ok (.aload_n 0, 1) := by decide +kernel
theorem dX4_linesOf_7 : decode cX4_linesOf 7 = .ok (.aload_n 1, 1) := by decide +kernel
theorem dX4_linesOf_8 : decode cX4_linesOf 8 = .ok (.iconst 1, 1) := by decide +kernel
theorem dX4_linesOf_9 : decode cX4_linesOf 9 = .ok (.invokevirtual 61, 3) := by decide +kernel
theorem dX4_linesOf_12 : decode cX4_linesOf 12 = .ok (.lmul, 1) := by decide +kernel
theorem dX4_linesOf_13 : decode cX4_linesOf 13 = .ok (.lreturn, 1) := by decide +kernel
theorem dX4_isSoundBy_0 : decode cX4_isSoundBy 0 = .ok (.bipush (-20), 2) := by decide +kernel
theorem dX4_isSoundBy_2 : decode cX4_isSoundBy 2 = .ok (.istore_n 3, 1) := by decide +kernel
theorem dX4_isSoundBy_3 : decode cX4_isSoundBy 3 = .ok (.iload_n 3, 1) := by decide +kernel
theorem dX4_isSoundBy_4 : decode cX4_isSoundBy 4 = .ok (.bipush 20, 2) := by decide +kernel
theorem dX4_isSoundBy_6 : decode cX4_isSoundBy 6 = .ok (.if_icmp .gt 21, 3) := by decide +kernel
theorem dX4_isSoundBy_9 : decode cX4_isSoundBy 9 = .ok (.aload_n 0, 1) := by decide +kernel
theorem dX4_isSoundBy_10 : decode cX4_isSoundBy 10 = .ok (.aload_n 1, 1) := by decide +kernel
theorem dX4_isSoundBy_11 : decode cX4_isSoundBy 11 = .ok (.iload_n 2, 1) := by decide +kernel
theorem dX4_isSoundBy_12 : decode cX4_isSoundBy 12 = .ok (.iload_n 3, 1) := by decide +kernel
theorem dX4_isSoundBy_13 : decode cX4_isSoundBy 13 = .ok (.invokevirtual 57, 3) := by decide +kernel
theorem dX4_isSoundBy_16 : decode cX4_isSoundBy 16 = .ok (.ifCond .eq 5, 3) := by decide +kernel
theorem dX4_isSoundBy_19 : decode cX4_isSoundBy 19 = .ok (.iconst 1, 1) := by decide +kernel
theorem dX4_isSoundBy_20 : decode cX4_isSoundBy 20 = .ok (.ireturn, 1) := by decide +kernel
theorem dX4_isSoundBy_21 : decode cX4_isSoundBy 21 = .ok (.iinc 3 1, 3) := by decide +kernel
theorem dX4_isSoundBy_24 : decode cX4_isSoundBy 24 = .ok (.goto (-21), 3) := by decide +kernel
theorem dX4_isSoundBy_27 : decode cX4_isSoundBy 27 = .ok (.iconst 0, 1) := by decide +kernel
theorem dX4_isSoundBy_28 : decode cX4_isSoundBy 28 = .ok (.ireturn, 1) := by decide +kernel
theorem dX4_isSound_0 : decode cX4_isSound 0 = .ok (.aload_n 0, 1) := by decide +kernel
theorem dX4_isSound_1 : decode cX4_isSound 1 = .ok (.aload_n 1, 1) := by decide +kernel
theorem dX4_isSound_2 : decode cX4_isSound 2 = .ok (.iconst 0, 1) := by decide +kernel
theorem dX4_isSound_3 : decode cX4_isSound 3 = .ok (.invokevirtual 65, 3) := by decide +kernel
theorem dX4_isSound_6 : decode cX4_isSound 6 = .ok (.ifCond .eq 16, 3) := by decide +kernel
theorem dX4_isSound_9 : decode cX4_isSound 9 = .ok (.aload_n 0, 1) := by decide +kernel
theorem dX4_isSound_10 : decode cX4_isSound 10 = .ok (.aload_n 1, 1) := by decide +kernel
theorem dX4_isSound_11 : decode cX4_isSound 11 = .ok (.iconst 1, 1) := by decide +kernel
theorem dX4_isSound_12 : decode cX4_isSound 12 = .ok (.invokevirtual 65, 3) := by decide +kernel
theorem dX4_isSound_15 : decode cX4_isSound 15 = .ok (.ifCond .eq 7, 3) := by decide +kernel
theorem dX4_isSound_18 : decode cX4_isSound 18 = .ok (.iconst 1, 1) := by decide +kernel
theorem dX4_isSound_19 : decode cX4_isSound 19 = .ok (.goto 4, 3) := by decide +kernel
theorem dX4_isSound_22 : decode cX4_isSound 22 = .ok (.iconst 0, 1) := by decide +kernel
theorem dX4_isSound_23 : decode cX4_isSound 23 = .ok (.ireturn, 1) := by decide +kernel
theorem dX4_edge_0 : decode cX4_edge 0 = .ok (.ldc2_w 69, 3) := by decide +kernel
theorem dX4_edge_3 : decode cX4_edge 3 = .ok (.lstore 5, 2) := by decide +kernel
theorem dX4_edge_5 : decode cX4_edge 5 = .ok (.bipush (-20), 2) := by decide +kernel
theorem dX4_edge_7 : decode cX4_edge 7 = .ok (.istore 7, 2) := by decide +kernel
theorem dX4_edge_9 : decode cX4_edge 9 = .ok (.iload 7, 2) := by decide +kernel
theorem dX4_edge_11 : decode cX4_edge 11 = .ok (.bipush 20, 2) := by decide +kernel
theorem dX4_edge_13 : decode cX4_edge 13 = .ok (.if_icmp .gt 88, 3) := by decide +kernel
theorem dX4_edge_16 : decode cX4_edge 16 = .ok (.aload_n 0, 1) := by decide +kernel
theorem dX4_edge_17 : decode cX4_edge 17 = .ok (.aload_n 1, 1) := by decide +kernel
theorem dX4_edge_18 : decode cX4_edge 18 = .ok (.iload_n 2, 1) := by decide +kernel
theorem dX4_edge_19 : decode cX4_edge 19 = .ok (.iload 7, 2) := by decide +kernel
theorem dX4_edge_21 : decode cX4_edge 21 = .ok (.invokevirtual 57, 3) := by decide +kernel
theorem dX4_edge_24 : decode cX4_edge 24 = .ok (.ifCond .eq 71, 3) := by decide +kernel
theorem dX4_edge_27 : decode cX4_edge 27 = .ok (.iload 4, 2) := by decide +kernel
theorem dX4_edge_29 : decode cX4_edge 29 = .ok (.ifCond .eq 10, 3) := by decide +kernel
theorem dX4_edge_32 : decode cX4_edge 32 = .ok (.aload_n 0, 1) := by decide +kernel
theorem dX4_edge_33 : decode cX4_edge 33 = .ok (.getfield 54, 3) := by decide +kernel
theorem dX4_edge_36 : decode cX4_edge 36 = .ok (.goto 7, 3) := by decide +kernel
theorem dX4_edge_39 : decode cX4_edge 39 = .ok (.aload_n 0, 1) := by decide +kernel
theorem dX4_edge_40 : decode cX4_edge 40 = .ok (.getfield 51, 3) := by decide +kernel
theorem dX4_edge_43 : decode cX4_edge 43 = .ok (.i2l, 1) := by decide +kernel
theorem dX4_edge_44 : decode cX4_edge 44 = .ok (.aload_n 0, 1) := by decide +kernel
theorem dX4_edge_45 : decode cX4_edge 45 = .ok (.getfield 9, 3) := by decide +kernel
theorem dX4_edge_48 : decode cX4_edge 48 = .ok (.i2l, 1) := by decide +kernel
theorem dX4_edge_49 : decode cX4_edge 49 = .ok (.lmul, 1) := by decide +kernel
theorem dX4_edge_50 : decode cX4_edge 50 = .ok (.iload 7, 2) := by decide +kernel
theorem dX4_edge_52 : decode cX4_edge 52 = .ok (.iload_n 3, 1) := by decide +kernel
theorem dX4_edge_53 : decode cX4_edge 53 = .ok (.imul, 1) := by decide +kernel
theorem dX4_edge_54 : decode cX4_edge 54 = .ok (.i2l, 1) := by decide +kernel
theorem dX4_edge_55 : decode cX4_edge 55 = .ok (.ladd, 1) := by decide +kernel
theorem dX4_edge_56 : decode cX4_edge 56 = .ok (.lstore 8, 2) := by decide +kernel
theorem dX4_edge_58 : decode cX4_edge 58 = .ok (.lload 5, 2) := by decide +kernel
theorem dX4_edge_60 : decode cX4_edge 60 = .ok (.ldc2_w 69, 3) := by decide +kernel
theorem dX4_edge_63 : decode cX4_edge 63 = .ok (.lcmp, 1) := by decide +kernel
theorem dX4_edge_64 : decode cX4_edge 64 = .ok (.ifCond .eq 27, 3) := by decide +kernel
theorem dX4_edge_67 : decode cX4_edge 67 = .ok (.iload 4, 2) := by decide +kernel
theorem dX4_edge_69 : decode cX4_edge 69 = .ok (.ifCond .eq 14, 3) := by decide +kernel
theorem dX4_edge_72 : decode cX4_edge 72 = .ok (.lload 8, 2) := by decide +kernel
theorem dX4_edge_74 : decode cX4_edge 74 = .ok (.lload 5, 2) := by decide +kernel
theorem dX4_edge_76 : decode cX4_edge 76 = .ok (.lcmp, 1) := by decide +kernel
theorem dX4_edge_77 : decode cX4_edge 77 = .ok (.ifCond .le 18, 3) := by decide +kernel
theorem dX4_edge_80 : decode cX4_edge 80 = .ok (.goto 11, 3) := by decide +kernel
theorem dX4_edge_83 : decode cX4_edge 83 = .ok (.lload 8, 2) := by decide +kernel
theorem dX4_edge_85 : decode cX4_edge 85 = .ok (.lload 5, 2) := by decide +kernel
theorem dX4_edge_87 : decode cX4_edge 87 = .ok (.lcmp, 1) := by decide +kernel
theorem dX4_edge_88 : decode cX4_edge 88 = .ok (.ifCond .ge 7, 3) := by decide +kernel
theorem dX4_edge_91 : decode cX4_edge 91 = .ok (.lload 8, 2) := by decide +kernel
theorem dX4_edge_93 : decode cX4_edge 93 = .ok (.lstore 5, 2) := by decide +kernel
theorem dX4_edge_95 : decode cX4_edge 95 = .ok (.iinc 7 1, 3) := by decide +kernel
theorem dX4_edge_98 : decode cX4_edge 98 = .ok (.goto (-89), 3) := by decide +kernel
theorem dX4_edge_101 : decode cX4_edge 101 = .ok (.lload 5, 2) := by decide +kernel
theorem dX4_edge_103 : decode cX4_edge 103 = .ok (.lreturn, 1) := by decide +kernel
theorem dX4_reachesBy_0 : decode cX4_reachesBy 0 = .ok (.aload_n 0, 1) := by decide +kernel
theorem dX4_reachesBy_1 : decode cX4_reachesBy 1 = .ok (.getfield 18, 3) := by decide +kernel
theorem dX4_reachesBy_4 : decode cX4_reachesBy 4 = .ok (.iload_n 2, 1) := by decide +kernel
theorem dX4_reachesBy_5 : decode cX4_reachesBy 5 = .ok (.iload_n 3, 1) := by decide +kernel
theorem dX4_reachesBy_6 : decode cX4_reachesBy 6 = .ok (.invokevirtual 31, 3) := by decide +kernel
theorem dX4_reachesBy_9 : decode cX4_reachesBy 9 = .ok (.istore 4, 2) := by decide +kernel
theorem dX4_reachesBy_11 : decode cX4_reachesBy 11 = .ok (.aload_n 0, 1) := by decide +kernel
theorem dX4_reachesBy_12 : decode cX4_reachesBy 12 = .ok (.getfield 18, 3) := by decide +kernel
theorem dX4_reachesBy_15 : decode cX4_reachesBy 15 = .ok (.getfield 37, 3) := by decide +kernel
theorem dX4_reachesBy_18 : decode cX4_reachesBy 18 = .ok (.iload_n 2, 1) := by decide +kernel
theorem dX4_reachesBy_19 : decode cX4_reachesBy 19 = .ok (.iaload, 1) := by decide +kernel
theorem dX4_reachesBy_20 : decode cX4_reachesBy 20 = .ok (.istore 5, 2) := by decide +kernel
theorem dX4_reachesBy_22 : decode cX4_reachesBy 22 = .ok (.iload 4, 2) := by decide +kernel
theorem dX4_reachesBy_24 : decode cX4_reachesBy 24 = .ok (.i2l, 1) := by decide +kernel
theorem dX4_reachesBy_25 : decode cX4_reachesBy 25 = .ok (.aload_n 0, 1) := by decide +kernel
theorem dX4_reachesBy_26 : decode cX4_reachesBy 26 = .ok (.aload_n 1, 1) := by decide +kernel
theorem dX4_reachesBy_27 : decode cX4_reachesBy 27 = .ok (.iload_n 3, 1) := by decide +kernel
theorem dX4_reachesBy_28 : decode cX4_reachesBy 28 = .ok (.iload 5, 2) := by decide +kernel
theorem dX4_reachesBy_30 : decode cX4_reachesBy 30 = .ok (.iconst 0, 1) := by decide +kernel
theorem dX4_reachesBy_31 : decode cX4_reachesBy 31 = .ok (.invokevirtual 71, 3) := by decide +kernel
theorem dX4_reachesBy_34 : decode cX4_reachesBy 34 = .ok (.aload_n 0, 1) := by decide +kernel
theorem dX4_reachesBy_35 : decode cX4_reachesBy 35 = .ok (.getfield 15, 3) := by decide +kernel
theorem dX4_reachesBy_38 : decode cX4_reachesBy 38 = .ok (.i2l, 1) := by decide +kernel
theorem dX4_reachesBy_39 : decode cX4_reachesBy 39 = .ok (.lsub, 1) := by decide +kernel
theorem dX4_reachesBy_40 : decode cX4_reachesBy 40 = .ok (.lcmp, 1) := by decide +kernel
theorem dX4_reachesBy_41 : decode cX4_reachesBy 41 = .ok (.ifCond .lt 29, 3) := by decide +kernel
theorem dX4_reachesBy_44 : decode cX4_reachesBy 44 = .ok (.iload 4, 2) := by decide +kernel
theorem dX4_reachesBy_46 : decode cX4_reachesBy 46 = .ok (.i2l, 1) := by decide +kernel
theorem dX4_reachesBy_47 : decode cX4_reachesBy 47 = .ok (.aload_n 0, 1) := by decide +kernel
theorem dX4_reachesBy_48 : decode cX4_reachesBy 48 = .ok (.aload_n 1, 1) := by decide +kernel
theorem dX4_reachesBy_49 : decode cX4_reachesBy 49 = .ok (.iload_n 3, 1) := by decide +kernel
theorem dX4_reachesBy_50 : decode cX4_reachesBy 50 = .ok (.iload 5, 2) := by decide +kernel
theorem dX4_reachesBy_52 : decode cX4_reachesBy 52 = .ok (.iconst 1, 1) := by decide +kernel
theorem dX4_reachesBy_53 : decode cX4_reachesBy 53 = .ok (.invokevirtual 71, 3) := by decide +kernel
theorem dX4_reachesBy_56 : decode cX4_reachesBy 56 = .ok (.aload_n 0, 1) := by decide +kernel
theorem dX4_reachesBy_57 : decode cX4_reachesBy 57 = .ok (.getfield 15, 3) := by decide +kernel
theorem dX4_reachesBy_60 : decode cX4_reachesBy 60 = .ok (.i2l, 1) := by decide +kernel
theorem dX4_reachesBy_61 : decode cX4_reachesBy 61 = .ok (.ladd, 1) := by decide +kernel
theorem dX4_reachesBy_62 : decode cX4_reachesBy 62 = .ok (.lcmp, 1) := by decide +kernel
theorem dX4_reachesBy_63 : decode cX4_reachesBy 63 = .ok (.ifCond .gt 7, 3) := by decide +kernel
theorem dX4_reachesBy_66 : decode cX4_reachesBy 66 = .ok (.iconst 1, 1) := by decide +kernel
theorem dX4_reachesBy_67 : decode cX4_reachesBy 67 = .ok (.goto 4, 3) := by decide +kernel
theorem dX4_reachesBy_70 : decode cX4_reachesBy 70 = .ok (.iconst 0, 1) := by decide +kernel
theorem dX4_reachesBy_71 : decode cX4_reachesBy 71 = .ok (.ireturn, 1) := by decide +kernel
theorem dX4_reaches_0 : decode cX4_reaches 0 = .ok (.aload_n 0, 1) := by decide +kernel
theorem dX4_reaches_1 : decode cX4_reaches 1 = .ok (.aload_n 1, 1) := by decide +kernel
theorem dX4_reaches_2 : decode cX4_reaches 2 = .ok (.invokevirtual 75, 3) := by decide +kernel
theorem dX4_reaches_5 : decode cX4_reaches 5 = .ok (.ifCond .eq 27, 3) := by decide +kernel
theorem dX4_reaches_8 : decode cX4_reaches 8 = .ok (.aload_n 0, 1) := by decide +kernel
theorem dX4_reaches_9 : decode cX4_reaches 9 = .ok (.aload_n 1, 1) := by decide +kernel
theorem dX4_reaches_10 : decode cX4_reaches 10 = .ok (.iload_n 2, 1) := by decide +kernel
theorem dX4_reaches_11 : decode cX4_reaches 11 = .ok (.iconst 0, 1) := by decide +kernel
theorem dX4_reaches_12 : decode cX4_reaches 12 = .ok (.invokevirtual 79, 3) := by decide +kernel
theorem dX4_reaches_15 : decode cX4_reaches 15 = .ok (.ifCond .eq 17, 3) := by decide +kernel
theorem dX4_reaches_18 : decode cX4_reaches 18 = .ok (.aload_n 0, 1) := by decide +kernel
theorem dX4_reaches_19 : decode cX4_reaches 19 = .ok (.aload_n 1, 1) := by decide +kernel
theorem dX4_reaches_20 : decode cX4_reaches 20 = .ok (.iload_n 2, 1) := by decide +kernel
theorem dX4_reaches_21 : decode cX4_reaches 21 = .ok (.iconst 1, 1) := by decide +kernel
theorem dX4_reaches_22 : decode cX4_reaches 22 = .ok (.invokevirtual 79, 3) := by decide +kernel
theorem dX4_reaches_25 : decode cX4_reaches 25 = .ok (.ifCond .eq 7, 3) := by decide +kernel
theorem dX4_reaches_28 : decode cX4_reaches 28 = .ok (.iconst 1, 1) := by decide +kernel
theorem dX4_reaches_29 : decode cX4_reaches 29 = .ok (.goto 4, 3) := by decide +kernel
theorem dX4_reaches_32 : decode cX4_reaches 32 = .ok (.iconst 0, 1) := by decide +kernel
theorem dX4_reaches_33 : decode cX4_reaches 33 = .ok (.ireturn, 1) := by decide +kernel
theorem dX5_init_0 : decode cX5_init 0 = .ok (.aload_n 0, 1) := by decide +kernel
theorem dX5_init_1 : decode cX5_init 1 = .ok (.invokespecial 3, 3) := by decide +kernel
theorem dX5_init_4 : decode cX5_init 4 = .ok (.aload_n 0, 1) := by decide +kernel
theorem dX5_init_5 : decode cX5_init 5 = .ok (.sipush 780, 3) := by decide +kernel
theorem dX5_init_8 : decode cX5_init 8 = .ok (.newarray .int, 2) := by decide +kernel
theorem dX5_init_10 : decode cX5_init 10 = .ok (.putfield 9, 3) := by decide +kernel
theorem dX5_init_13 : decode cX5_init 13 = .ok (.aload_n 0, 1) := by decide +kernel
theorem dX5_init_14 : decode cX5_init 14 = .ok (.sipush 780, 3) := by decide +kernel
theorem dX5_init_17 : decode cX5_init 17 = .ok (.newarray .int, 2) := by decide +kernel
theorem dX5_init_19 : decode cX5_init 19 = .ok (.putfield 15, 3) := by decide +kernel
theorem dX5_init_22 : decode cX5_init 22 = .ok (.aload_n 0, 1) := by decide +kernel
theorem dX5_init_23 : decode cX5_init 23 = .ok (.bipush 40, 2) := by decide +kernel
theorem dX5_init_25 : decode cX5_init 25 = .ok (.newarray .int, 2) := by decide +kernel
theorem dX5_init_27 : decode cX5_init 27 = .ok (.putfield 18, 3) := by decide +kernel
theorem dX5_init_30 : decode cX5_init 30 = .ok (.aload_n 0, 1) := by decide +kernel
theorem dX5_init_31 : decode cX5_init 31 = .ok (.bipush 40, 2) := by decide +kernel
theorem dX5_init_33 : decode cX5_init 33 = .ok (.newarray .int, 2) := by decide +kernel
theorem dX5_init_35 : decode cX5_init 35 = .ok (.putfield 21, 3) := by decide +kernel
theorem dX5_init_38 : decode cX5_init 38 = .ok (.aload_n 0, 1) := by decide +kernel
theorem dX5_init_39 : decode cX5_init 39 = .ok (.new 24, 3) := by decide +kernel
theorem dX5_init_42 : decode cX5_init 42 = .ok (.dup, 1) := by decide +kernel
theorem dX5_init_43 : decode cX5_init 43 = .ok (.invokespecial 26, 3) := by decide +kernel
theorem dX5_init_46 : decode cX5_init 46 = .ok (.putfield 27, 3) := by decide +kernel
theorem dX5_init_49 : decode cX5_init 49 = .ok (.aload_n 0, 1) := by decide +kernel
theorem dX5_init_50 : decode cX5_init 50 = .ok (.aload_n 1, 1) := by decide +kernel
theorem dX5_init_51 : decode cX5_init 51 = .ok (.putfield 31, 3) := by decide +kernel
theorem dX5_init_54 : decode cX5_init 54 = .ok (.aload_n 0, 1) := by decide +kernel
theorem dX5_init_55 : decode cX5_init 55 = .ok (.aload_n 2, 1) := by decide +kernel
theorem dX5_init_56 : decode cX5_init 56 = .ok (.putfield 35, 3) := by decide +kernel
theorem dX5_init_59 : decode cX5_init 59 = .ok (.aload_n 0, 1) := by decide +kernel
theorem dX5_init_60 : decode cX5_init 60 = .ok (.aload_n 3, 1) := by decide +kernel
theorem dX5_init_61 : decode cX5_init 61 = .ok (.putfield 39, 3) := by decide +kernel
theorem dX5_init_64 : decode cX5_init 64 = .ok (.return_, 1) := by decide +kernel
theorem dX5_forget_0 : decode cX5_forget 0 = .ok (.aload_n 0, 1) := by decide +kernel
theorem dX5_forget_1 : decode cX5_forget 1 = .ok (.iconst 0, 1) := by decide +kernel
theorem dX5_forget_2 : decode cX5_forget 2 = .ok (.putfield 43, 3) := by decide +kernel
theorem dX5_forget_5 : decode cX5_forget 5 = .ok (.return_, 1) := by decide +kernel
theorem dX5_total_0 : decode cX5_total 0 = .ok (.aload_n 0, 1) := by decide +kernel
theorem dX5_total_1 : decode cX5_total 1 = .ok (.getfield 43, 3) := by decide +kernel
theorem dX5_total_4 : decode cX5_total 4 = .ok (.ifCond .ne 16, 3) := by decide +kernel
theorem dX5_total_7 : decode cX5_total 7 = .ok (.aload_n 0, 1) := by decide +kernel
theorem dX5_total_8 : decode cX5_total 8 = .ok (.invokevirtual 47, 3) := by decide +kernel
theorem dX5_total_11 : decode cX5_total 11 = .ok (.aload_n 0, 1) := by decide +kernel
theorem dX5_total_12 : decode cX5_total 12 = .ok (.invokevirtual 50, 3) := by decide +kernel
theorem dX5_total_15 : decode cX5_total 15 = .ok (.aload_n 0, 1) := by decide +kernel
theorem dX5_total_16 : decode cX5_total 16 = .ok (.iconst 1, 1) := by decide +kernel
theorem dX5_total_17 : decode cX5_total 17 = .ok (.putfield 43, 3) := by decide +kernel
theorem dX5_total_20 : decode cX5_total 20 = .ok (.aload_n 0, 1) := by decide +kernel
theorem dX5_total_21 : decode cX5_total 21 = .ok (.getfield 53, 3) := by decide +kernel
theorem dX5_total_24 : decode cX5_total 24 = .ok (.bipush 40, 2) := by decide +kernel
theorem dX5_total_26 : decode cX5_total 26 = .ok (.if_icmp .le 7, 3) := by decide +kernel
theorem dX5_total_29 : decode cX5_total 29 = .ok (.iconst (-1), 1) := by decide +kernel
theorem dX5_total_30 : decode cX5_total 30 = .ok (.goto 7, 3) := by decide +kernel
theorem dX5_total_33 : decode cX5_total 33 = .ok (.aload_n 0, 1) := by decide +kernel
theorem dX5_total_34 : decode cX5_total 34 = .ok (.getfield 57, 3) := by decide +kernel
theorem dX5_total_37 : decode cX5_total 37 = .ok (.ireturn, 1) := by decide +kernel
theorem dX5_gather_0 : decode cX5_gather 0 = .ok (.aload_n 3, 1) := by decide +kernel
theorem dX5_gather_1 : decode cX5_gather 1 = .ok (.invokevirtual 60, 3) := by decide +kernel
theorem dX5_gather_4 : decode cX5_gather 4 = .ok (.aload_n 3, 1) := by decide +kernel
theorem dX5_gather_5 : decode cX5_gather 5 = .ok (.aload_n 0, 1) := by decide +kernel
theorem dX5_gather_6 : decode cX5_gather 6 = .ok (.getfield 18, 3) := by decide +kernel
theorem dX5_gather_9 : decode cX5_gather 9 = .ok (.iload_n 1, 1) := by decide +kernel
theorem dX5_gather_10 : decode cX5_gather 10 = .ok (.iaload, 1) := by decide +kernel
theorem dX5_gather_11 : decode cX5_gather 11 = .ok (.invokevirtual 63, 3) := by decide +kernel
theorem dX5_gather_14 : decode cX5_gather 14 = .ok (.aload_n 3, 1) := by decide +kernel
theorem dX5_gather_15 : decode cX5_gather 15 = .ok (.aload_n 0, 1) := by decide +kernel
theorem dX5_gather_16 : decode cX5_gather 16 = .ok (.getfield 21, 3) := by decide +kernel
theorem dX5_gather_19 : decode cX5_gather 19 = .ok (.iload_n 1, 1) := by decide +kernel
theorem dX5_gather_20 : decode cX5_gather 20 = .ok (.iaload, 1) := by decide +kernel
theorem dX5_gather_21 : decode cX5_gather 21 = .ok (.invokevirtual 63, 3) := by decide +kernel
theorem dX5_gather_24 : decode cX5_gather 24 = .ok (.aload_n 3, 1) := by decide +kernel
theorem dX5_gather_25 : decode cX5_gather 25 = .ok (.aload_n 0, 1) := by decide +kernel
theorem dX5_gather_26 : decode cX5_gather 26 = .ok (.getfield 18, 3) := by decide +kernel
theorem dX5_gather_29 : decode cX5_gather 29 = .ok (.iload_n 2, 1) := by decide +kernel
theorem dX5_gather_30 : decode cX5_gather 30 = .ok (.iaload, 1) := by decide +kernel
theorem dX5_gather_31 : decode cX5_gather 31 = .ok (.invokevirtual 63, 3) := by decide +kernel
theorem dX5_gather_34 : decode cX5_gather 34 = .ok (.aload_n 3, 1) := by decide +kernel
theorem dX5_gather_35 : decode cX5_gather 35 = .ok (.aload_n 0, 1) := by decide +kernel
theorem dX5_gather_36 : decode cX5_gather 36 = .ok (.getfield 21, 3) := by decide +kernel
theorem dX5_gather_39 : decode cX5_gather 39 = .ok (.iload_n 2, 1) := by decide +kernel
theorem dX5_gather_40 : decode cX5_gather 40 = .ok (.iaload, 1) := by decide +kernel
theorem dX5_gather_41 : decode cX5_gather 41 = .ok (.invokevirtual 63, 3) := by decide +kernel
theorem dX5_gather_44 : decode cX5_gather 44 = .ok (.return_, 1) := by decide +kernel
theorem dX5_findBits_0 : decode cX5_findBits 0 = .ok (.aload_n 0, 1) := by decide +kernel
theorem dX5_findBits_1 : decode cX5_findBits 1 = .ok (.iconst 0, 1) := by decide +kernel
theorem dX5_findBits_2 : decode cX5_findBits 2 = .ok (.putfield 53, 3) := by decide +kernel
theorem dX5_findBits_5 : decode cX5_findBits 5 = .ok (.iconst 0, 1) := by decide +kernel
theorem dX5_findBits_6 : decode cX5_findBits 6 = .ok (.istore_n 1, 1) := by decide +kernel
theorem dX5_findBits_7 : decode cX5_findBits 7 = .ok (.iload_n 1, 1) := by decide +kernel
theorem dX5_findBits_8 : decode cX5_findBits 8 = .ok (.aload_n 0, 1) := by decide +kernel
theorem dX5_findBits_9 : decode cX5_findBits 9 = .ok (.getfield 31, 3) := by decide +kernel
theorem dX5_findBits_12 : decode cX5_findBits 12 = .ok (.getfield 67, 3) := by decide +kernel
theorem dX5_findBits_15 : decode cX5_findBits 15 = .ok (.if_icmp .ge 46, 3) := by decide +kernel
theorem dX5_findBits_18 : decode cX5_findBits 18 = .ok (.iconst 0, 1) := by decide +kernel
theorem dX5_findBits_19 : decode cX5_findBits 19 = .ok (.istore_n 2, 1) := by decide +kernel
theorem dX5_findBits_20 : decode cX5_findBits 20 = .ok (.iload_n 2, 1) := by decide +kernel
theorem dX5_findBits_21 : decode cX5_findBits 21 = .ok (.aload_n 0, 1) := by decide +kernel
theorem dX5_findBits_22 : decode cX5_findBits 22 = .ok (.getfield 31, 3) := by decide +kernel
theorem dX5_findBits_25 : decode cX5_findBits 25 = .ok (.getfield 67, 3) := by decide +kernel
theorem dX5_findBits_28 : decode cX5_findBits 28 = .ok (.if_icmp .ge 27, 3) := by decide +kernel
theorem dX5_findBits_31 : decode cX5_findBits 31 = .ok (.aload_n 0, 1) := by decide +kernel
theorem dX5_findBits_32 : decode cX5_findBits 32 = .ok (.getfield 39, 3) := by decide +kernel
theorem dX5_findBits_35 : decode cX5_findBits 35 = .ok (.iload_n 1, 1) := by decide +kernel
theorem dX5_findBits_36 : decode cX5_findBits 36 = .ok (.iload_n 2, 1) := by decide +kernel
theorem dX5_findBits_37 : decode cX5_findBits 37 = .ok (.invokevirtual 72, 3) := by decide +kernel
theorem dX5_findBits_40 : decode cX5_findBits 40 = .ok (.ifCond .eq 9, 3) := by decide +kernel
theorem dX5_findBits_43 : decode cX5_findBits 43 = .ok (.aload_n 0, 1) := by decide +kernel
theorem dX5_findBits_44 : decode cX5_findBits 44 = .ok (.iload_n 1, 1) := by decide +kernel
theorem dX5_findBits_45 : decode cX5_findBits 45 = .ok (.iload_n 2, 1) := by decide +kernel
theorem dX5_findBits_46 : decode cX5_findBits 46 = .ok (.invokevirtual 78, 3) := by decide +kernel
theorem dX5_findBits_49 : decode cX5_findBits 49 = .ok (.iinc 2 1, 3) := by decide +kernel
theorem dX5_findBits_52 : decode cX5_findBits 52 = .ok (.goto (-32), 3) := by decide +kernel
theorem dX5_findBits_55 : decode cX5_findBits 55 = .ok (.iinc 1 1, 3) := by decide +kernel
theorem dX5_findBits_58 : decode cX5_findBits 58 = .ok (.goto (-51), 3) := by decide +kernel
theorem dX5_findBits_61 : decode cX5_findBits 61 = .ok (.return_, 1) := by decide +kernel
theorem dX5_keepBit_0 : decode cX5_keepBit 0 = .ok (.aload_n 0, 1) := by decide +kernel
theorem dX5_keepBit_1 : decode cX5_keepBit 1 = .ok (.getfield 53, 3) := by decide +kernel
theorem dX5_keepBit_4 : decode cX5_keepBit 4 = .ok (.bipush 40, 2) := by decide +kernel
theorem dX5_keepBit_6 : decode cX5_keepBit 6 = .ok (.if_icmp .ge 23, 3) := by decide +kernel
theorem dX5_keepBit_9 : decode cX5_keepBit 9 = .ok (.aload_n 0, 1) := by decide +kernel
theorem dX5_keepBit_10 : decode cX5_keepBit 10 = .ok (.getfield 18, 3) := by decide +kernel
theorem dX5_keepBit_13 : decode cX5_keepBit 13 = .ok (.aload_n 0, 1) := by decide +kernel
theorem dX5_keepBit_14 : decode cX5_keepBit 14 = .ok (.getfield 53, 3) := by decide +kernel
theorem dX5_keepBit_17 : decode cX5_keepBit 17 = .ok (.iload_n 1, 1) := by decide +kernel
theorem dX5_keepBit_18 : decode cX5_keepBit 18 = .ok (.iastore, 1) := by decide +kernel
theorem dX5_keepBit_19 : decode cX5_keepBit 19 = .ok (.aload_n 0, 1) := by decide +kernel
theorem dX5_keepBit_20 : decode cX5_keepBit 20 = .ok (.getfield 21, 3) := by decide +kernel
theorem dX5_keepBit_23 : decode cX5_keepBit 23 = .ok (.aload_n 0, 1) := by decide +kernel
theorem dX5_keepBit_24 : decode cX5_keepBit 24 = .ok (.getfield 53, 3) := by decide +kernel
theorem dX5_keepBit_27 : decode cX5_keepBit 27 = .ok (.iload_n 2, 1) := by decide +kernel
theorem dX5_keepBit_28 : decode cX5_keepBit 28 = .ok (.iastore, 1) := by decide +kernel
theorem dX5_keepBit_29 : decode cX5_keepBit 29 = .ok (.aload_n 0, 1) := by decide +kernel
theorem dX5_keepBit_30 : decode cX5_keepBit 30 = .ok (.dup, 1) := by decide +kernel
theorem dX5_keepBit_31 : decode cX5_keepBit 31 = .ok (.getfield 53, 3) := by decide +kernel
theorem dX5_keepBit_34 : decode cX5_keepBit 34 = .ok (.iconst 1, 1) := by decide +kernel
theorem dX5_keepBit_35 : decode cX5_keepBit 35 = .ok (.iadd, 1) := by decide +kernel
theorem dX5_keepBit_36 : decode cX5_keepBit 36 = .ok (.putfield 53, 3) := by decide +kernel
theorem dX5_keepBit_39 : decode cX5_keepBit 39 = .ok (.return_, 1) := by decide +kernel
theorem dX5_findPairs_0 : decode cX5_findPairs 0 = .ok (.aload_n 0, 1) := by decide +kernel
theorem dX5_findPairs_1 : decode cX5_findPairs 1 = .ok (.iconst 0, 1) := by decide +kernel
theorem dX5_findPairs_2 : decode cX5_findPairs 2 = .ok (.putfield 57, 3) := by decide +kernel
theorem dX5_findPairs_5 : decode cX5_findPairs 5 = .ok (.aload_n 0, 1) := by decide +kernel
theorem dX5_findPairs_6 : decode cX5_findPairs 6 = .ok (.getfield 53, 3) := by decide +kernel
theorem dX5_findPairs_9 : decode cX5_findPairs 9 = .ok (.bipush 40, 2) := by decide +kernel
theorem dX5_findPairs_11 : decode cX5_findPairs 11 = .ok (.if_icmp .le 4, 3) := by decide +kernel
theorem dX5_findPairs_14 : decode cX5_findPairs 14 = .ok (.return_, 1) := by decide +kernel
theorem dX5_findPairs_15 : decode cX5_findPairs 15 = .ok (.iconst 0, 1) := by decide +kernel
theorem dX5_findPairs_16 : decode cX5_findPairs 16 = .ok (.istore_n 1, 1) := by decide +kernel
theorem dX5_findPairs_17 : decode cX5_findPairs 17 = .ok (.iload_n 1, 1) := by decide +kernel
theorem dX5_findPairs_18 : decode cX5_findPairs 18 = .ok (.aload_n 0, 1) := by decide +kernel
theorem dX5_findPairs_19 : decode cX5_findPairs 19 = .ok (.getfield 53, 3) := by decide +kernel
theorem dX5_findPairs_22 : decode cX5_findPairs 22 = .ok (.if_icmp .ge 66, 3) := by decide +kernel
theorem dX5_findPairs_25 : decode cX5_findPairs 25 = .ok (.iload_n 1, 1) := by decide +kernel
theorem dX5_findPairs_26 : decode cX5_findPairs 26 = .ok (.iconst 1, 1) := by decide +kernel
theorem dX5_findPairs_27 : decode cX5_findPairs 27 = .ok (.iadd, 1) := by decide +kernel
theorem dX5_findPairs_28 : decode cX5_findPairs 28 = .ok (.istore_n 2, 1) := by decide +kernel
theorem dX5_findPairs_29 : decode cX5_findPairs 29 = .ok (.iload_n 2, 1) := by decide +kernel
theorem dX5_findPairs_30 : decode cX5_findPairs 30 = .ok (.aload_n 0, 1) := by decide +kernel
theorem dX5_findPairs_31 : decode cX5_findPairs 31 = .ok (.getfield 53, 3) := by decide +kernel
theorem dX5_findPairs_34 : decode cX5_findPairs 34 = .ok (.if_icmp .ge 48, 3) := by decide +kernel
theorem dX5_findPairs_37 : decode cX5_findPairs 37 = .ok (.aload_n 0, 1) := by decide +kernel
theorem dX5_findPairs_38 : decode cX5_findPairs 38 = .ok (.iload_n 1, 1) := by decide +kernel
theorem dX5_findPairs_39 : decode cX5_findPairs 39 = .ok (.iload_n 2, 1) := by decide +kernel
theorem dX5_findPairs_40 : decode cX5_findPairs 40 = .ok (.aload_n 0, 1) := by decide +kernel
theorem dX5_findPairs_41 : decode cX5_findPairs 41 = .ok (.getfield 27, 3) := by decide +kernel
theorem dX5_findPairs_44 : decode cX5_findPairs 44 = .ok (.invokevirtual 82, 3) := by decide +kernel
theorem dX5_findPairs_47 : decode cX5_findPairs 47 = .ok (.aload_n 0, 1) := by decide +kernel
theorem dX5_findPairs_48 : decode cX5_findPairs 48 = .ok (.iload_n 1, 1) := by decide +kernel
theorem dX5_findPairs_49 : decode cX5_findPairs 49 = .ok (.iload_n 2, 1) := by decide +kernel
theorem dX5_findPairs_50 : decode cX5_findPairs 50 = .ok (.invokevirtual 86, 3) := by decide +kernel
theorem dX5_findPairs_53 : decode cX5_findPairs 53 = .ok (.ifCond .eq 23, 3) := by decide +kernel
theorem dX5_findPairs_56 : decode cX5_findPairs 56 = .ok (.aload_n 0, 1) := by decide +kernel
theorem dX5_findPairs_57 : decode cX5_findPairs 57 = .ok (.getfield 35, 3) := by decide +kernel
theorem dX5_findPairs_60 : decode cX5_findPairs 60 = .ok (.aload_n 0, 1) := by decide +kernel
theorem dX5_findPairs_61 : decode cX5_findPairs 61 = .ok (.getfield 27, 3) := by decide +kernel
theorem dX5_findPairs_64 : decode cX5_findPairs 64 = .ok (.invokevirtual 89, 3) := by decide +kernel
theorem dX5_findPairs_67 : decode cX5_findPairs 67 = .ok (.ifCond .eq 9, 3) := by decide +kernel
theorem dX5_findPairs_70 : decode cX5_findPairs 70 = .ok (.aload_n 0, 1) := by decide +kernel
theorem dX5_findPairs_71 : decode cX5_findPairs 71 = .ok (.iload_n 1, 1) := by decide +kernel
theorem dX5_findPairs_72 : decode cX5_findPairs 72 = .ok (.iload_n 2, 1) := by decide +kernel
theorem dX5_findPairs_73 : decode cX5_findPairs 73 = .ok (.invokevirtual 95, 3) := by decide +kernel
theorem dX5_findPairs_76 : decode cX5_findPairs 76 = .ok (.iinc 2 1, 3) := by decide +kernel
theorem dX5_findPairs_79 : decode cX5_findPairs 79 = .ok (.goto (-50), 3) := by decide +kernel
theorem dX5_findPairs_82 : decode cX5_findPairs 82 = .ok (.iinc 1 1, 3) := by decide +kernel
theorem dX5_findPairs_85 : decode cX5_findPairs 85 = .ok (.goto (-68), 3) := by decide +kernel
theorem dX5_findPairs_88 : decode cX5_findPairs 88 = .ok (.return_, 1) := by decide +kernel
theorem dX5_areOfUnlikeNights_0 : decode cX5_areOfUnlikeNights 0 = .ok (.aload_n 0, 1) := by decide +kernel
theorem dX5_areOfUnlikeNights_1 : decode cX5_areOfUnlikeNights 1 = .ok (.getfield 31, 3) := by decide +kernel
theorem dX5_areOfUnlikeNights_4 : decode cX5_areOfUnlikeNights 4 = .ok (.aload_n 0, 1) := by decide +kernel
theorem dX5_areOfUnlikeNights_5 : decode cX5_areOfUnlikeNights 5 = .ok (.getfield 18, 3) := by decide +kernel
theorem dX5_areOfUnlikeNights_8 : decode cX5_areOfUnlikeNights 8 = .ok (.iload_n 1, 1) := by decide +kernel
theorem dX5_areOfUnlikeNights_9 : decode cX5_areOfUnlikeNights 9 = .ok (.iaload, 1) := by decide +kernel
theorem dX5_areOfUnlikeNights_10 : decode cX5_areOfUnlikeNights 10 = .ok (.invokevirtual 98, 3) := by decide +kernel
theorem dX5_areOfUnlikeNights_13 : decode cX5_areOfUnlikeNights 13 = .ok (.aload_n 0, 1) := by decide +kernel
theorem dX5_areOfUnlikeNights_14 : decode cX5_areOfUnlikeNights 14 = .ok (.getfield 31, 3) := by decide +kernel
theorem dX5_areOfUnlikeNights_17 : decode cX5_areOfUnlikeNights 17 = .ok (.aload_n 0, 1) := by decide +kernel
theorem dX5_areOfUnlikeNights_18 : decode cX5_areOfUnlikeNights 18 = .ok (.getfield 18, 3) := by decide +kernel
theorem dX5_areOfUnlikeNights_21 : decode cX5_areOfUnlikeNights 21 = .ok (.iload_n 2, 1) := by decide +kernel
theorem dX5_areOfUnlikeNights_22 : decode cX5_areOfUnlikeNights 22 = .ok (.iaload, 1) := by decide +kernel
theorem dX5_areOfUnlikeNights_23 : decode cX5_areOfUnlikeNights 23 = .ok (.invokevirtual 98, 3) := by decide +kernel
theorem dX5_areOfUnlikeNights_26 : decode cX5_areOfUnlikeNights 26 = .ok (.if_icmp .eq 7, 3) := by decide +kernel
theorem dX5_areOfUnlikeNights_29 : decode cX5_areOfUnlikeNights 29 = .ok (.iconst 1, 1) := by decide +kernel
theorem dX5_areOfUnlikeNights_30 : decode cX5_areOfUnlikeNights 30 = .ok (.goto 4, 3) := by decide +kernel
theorem dX5_areOfUnlikeNights_33 : decode cX5_areOfUnlikeNights 33 = .ok (.iconst 0, 1) := by decide +kernel
theorem dX5_areOfUnlikeNights_34 : decode cX5_areOfUnlikeNights 34 = .ok (.ireturn, 1) := by decide +kernel
theorem dX5_keepPair_0 : decode cX5_keepPair 0 = .ok (.aload_n 0, 1) := by decide +kernel
theorem dX5_keepPair_1 : decode cX5_keepPair 1 = .ok (.getfield 57, 3) := by decide +kernel
theorem dX5_keepPair_4 : decode cX5_keepPair 4 = .ok (.sipush 780, 3) := by decide +kernel
theorem dX5_keepPair_7 : decode cX5_keepPair 7 = .ok (.if_icmp .ge 33, 3) := by decide +kernel
theorem dX5_keepPair_10 : decode cX5_keepPair 10 = .ok (.aload_n 0, 1) := by decide +kernel
theorem dX5_keepPair_11 : decode cX5_keepPair 11 = .ok (.getfield 9, 3) := by decide +kernel
theorem dX5_keepPair_14 : decode cX5_keepPair 14 = .ok (.aload_n 0, 1) := by decide +kernel
theorem dX5_keepPair_15 : decode cX5_keepPair 15 = .ok (.getfield 57, 3) := by decide +kernel
theorem dX5_keepPair_18 : decode cX5_keepPair 18 = .ok (.iload_n 1, 1) := by decide +kernel
theorem dX5_keepPair_19 : decode cX5_keepPair 19 = .ok (.iastore, 1) := by decide +kernel
theorem dX5_keepPair_20 : decode cX5_keepPair 20 = .ok (.aload_n 0, 1) := by decide +kernel
theorem dX5_keepPair_21 : decode cX5_keepPair 21 = .ok (.getfield 15, 3) := by decide +kernel
theorem dX5_keepPair_24 : decode cX5_keepPair 24 = .ok (.aload_n 0, 1) := by decide +kernel
theorem dX5_keepPair_25 : decode cX5_keepPair 25 = .ok (.getfield 57, 3) := by decide +kernel
theorem dX5_keepPair_28 : decode cX5_keepPair 28 = .ok (.iload_n 2, 1) := by decide +kernel
theorem dX5_keepPair_29 : decode cX5_keepPair 29 = .ok (.iastore, 1) := by decide +kernel
theorem dX5_keepPair_30 : decode cX5_keepPair 30 = .ok (.aload_n 0, 1) := by decide +kernel
theorem dX5_keepPair_31 : decode cX5_keepPair 31 = .ok (.dup, 1) := by decide +kernel
theorem dX5_keepPair_32 : decode cX5_keepPair 32 = .ok (.getfield 57, 3) := by decide +kernel
theorem dX5_keepPair_35 : decode cX5_keepPair 35 = .ok (.iconst 1, 1) := by decide +kernel
theorem dX5_keepPair_36 : decode cX5_keepPair 36 = .ok (.iadd, 1) := by decide +kernel
theorem dX5_keepPair_37 : decode cX5_keepPair 37 = .ok (.putfield 57, 3) := by decide +kernel
theorem dX5_keepPair_40 : decode cX5_keepPair 40 = .ok (.return_, 1) := by decide +kernel
theorem dX6_init_0 : decode cX6_init 0 = .ok (.aload_n 0, 1) := by decide +kernel
theorem dX6_init_1 : decode cX6_init 1 = .ok (.invokespecial 3, 3) := by decide +kernel
theorem dX6_init_4 : decode cX6_init 4 = .ok (.aload_n 0, 1) := by decide +kernel
theorem dX6_init_5 : decode cX6_init 5 = .ok (.bipush 16, 2) := by decide +kernel
theorem dX6_init_7 : decode cX6_init 7 = .ok (.newarray .int, 2) := by decide +kernel
theorem dX6_init_9 : decode cX6_init 9 = .ok (.putfield 11, 3) := by decide +kernel
theorem dX6_init_12 : decode cX6_init 12 = .ok (.return_, 1) := by decide +kernel
theorem dX6_clear_0 : decode cX6_clear 0 = .ok (.aload_n 0, 1) := by decide +kernel
theorem dX6_clear_1 : decode cX6_clear 1 = .ok (.iconst 0, 1) := by decide +kernel
theorem dX6_clear_2 : decode cX6_clear 2 = .ok (.putfield 15, 3) := by decide +kernel
theorem dX6_clear_5 : decode cX6_clear 5 = .ok (.return_, 1) := by decide +kernel
theorem dX6_add_0 : decode cX6_add 0 = .ok (.aload_n 0, 1) := by decide +kernel
theorem dX6_add_1 : decode cX6_add 1 = .ok (.getfield 15, 3) := by decide +kernel
theorem dX6_add_4 : decode cX6_add 4 = .ok (.bipush 16, 2) := by decide +kernel
theorem dX6_add_6 : decode cX6_add 6 = .ok (.if_icmp .ge 23, 3) := by decide +kernel
theorem dX6_add_9 : decode cX6_add 9 = .ok (.aload_n 0, 1) := by decide +kernel
theorem dX6_add_10 : decode cX6_add 10 = .ok (.getfield 11, 3) := by decide +kernel
theorem dX6_add_13 : decode cX6_add 13 = .ok (.aload_n 0, 1) := by decide +kernel
theorem dX6_add_14 : decode cX6_add 14 = .ok (.getfield 15, 3) := by decide +kernel
theorem dX6_add_17 : decode cX6_add 17 = .ok (.iload_n 1, 1) := by decide +kernel
theorem dX6_add_18 : decode cX6_add 18 = .ok (.iastore, 1) := by decide +kernel
theorem dX6_add_19 : decode cX6_add 19 = .ok (.aload_n 0, 1) := by decide +kernel
theorem dX6_add_20 : decode cX6_add 20 = .ok (.dup, 1) := by decide +kernel
theorem dX6_add_21 : decode cX6_add 21 = .ok (.getfield 15, 3) := by decide +kernel
theorem dX6_add_24 : decode cX6_add 24 = .ok (.iconst 1, 1) := by decide +kernel
theorem dX6_add_25 : decode cX6_add 25 = .ok (.iadd, 1) := by decide +kernel
theorem dX6_add_26 : decode cX6_add 26 = .ok (.putfield 15, 3) := by decide +kernel
theorem dX6_add_29 : decode cX6_add 29 = .ok (.return_, 1) := by decide +kernel
theorem dX6_addAll_0 : decode cX6_addAll 0 = .ok (.iconst 0, 1) := by decide +kernel
theorem dX6_addAll_1 : decode cX6_addAll 1 = .ok (.istore_n 2, 1) := by decide +kernel
theorem dX6_addAll_2 : decode cX6_addAll 2 = .ok (.iload_n 2, 1) := by decide +kernel
theorem dX6_addAll_3 : decode cX6_addAll 3 = .ok (.aload_n 1, 1) := by decide +kernel
theorem dX6_addAll_4 : decode cX6_addAll 4 = .ok (.getfield 15, 3) := by decide +kernel
theorem dX6_addAll_7 : decode cX6_addAll 7 = .ok (.if_icmp .ge 19, 3) := by decide +kernel
theorem dX6_addAll_10 : decode cX6_addAll 10 = .ok (.aload_n 0, 1) := by decide +kernel
theorem dX6_addAll_11 : decode cX6_addAll 11 = .ok (.aload_n 1, 1) := by decide +kernel
theorem dX6_addAll_12 : decode cX6_addAll 12 = .ok (.getfield 11, 3) := by decide +kernel
theorem dX6_addAll_15 : decode cX6_addAll 15 = .ok (.iload_n 2, 1) := by decide +kernel
theorem dX6_addAll_16 : decode cX6_addAll 16 = .ok (.iaload, 1) := by decide +kernel
theorem dX6_addAll_17 : decode cX6_addAll 17 = .ok (.invokevirtual 19, 3) := by decide +kernel
theorem dX6_addAll_20 : decode cX6_addAll 20 = .ok (.iinc 2 1, 3) := by decide +kernel
theorem dX6_addAll_23 : decode cX6_addAll 23 = .ok (.goto (-21), 3) := by decide +kernel
theorem dX6_addAll_26 : decode cX6_addAll 26 = .ok (.return_, 1) := by decide +kernel
theorem dX6_become_0 : decode cX6_become 0 = .ok (.aload_n 0, 1) := by decide +kernel
theorem dX6_become_1 : decode cX6_become 1 = .ok (.invokevirtual 23, 3) := by decide +kernel
theorem dX6_become_4 : decode cX6_become 4 = .ok (.aload_n 0, 1) := by decide +kernel
theorem dX6_become_5 : decode cX6_become 5 = .ok (.aload_n 1, 1) := by decide +kernel
theorem dX6_become_6 : decode cX6_become 6 = .ok (.invokevirtual 26, 3) := by decide +kernel
theorem dX6_become_9 : decode cX6_become 9 = .ok (.return_, 1) := by decide +kernel
theorem dX7_init_0 : decode cX7_init 0 = .ok (.aload_n 0, 1) := by decide +kernel
theorem dX7_init_1 : decode cX7_init 1 = .ok (.invokespecial 3, 3) := by decide +kernel
theorem dX7_init_4 : decode cX7_init 4 = .ok (.aload_n 0, 1) := by decide +kernel
theorem dX7_init_5 : decode cX7_init 5 = .ok (.bipush 60, 2) := by decide +kernel
theorem dX7_init_7 : decode cX7_init 7 = .ok (.newarray .int, 2) := by decide +kernel
theorem dX7_init_9 : decode cX7_init 9 = .ok (.putfield 9, 3) := by decide +kernel
theorem dX7_init_12 : decode cX7_init 12 = .ok (.aload_n 0, 1) := by decide +kernel
theorem dX7_init_13 : decode cX7_init 13 = .ok (.bipush 60, 2) := by decide +kernel
theorem dX7_init_15 : decode cX7_init 15 = .ok (.newarray .int, 2) := by decide +kernel
theorem dX7_init_17 : decode cX7_init 17 = .ok (.putfield 15, 3) := by decide +kernel
theorem dX7_init_20 : decode cX7_init 20 = .ok (.aload_n 0, 1) := by decide +kernel
theorem dX7_init_21 : decode cX7_init 21 = .ok (.bipush 60, 2) := by decide +kernel
theorem dX7_init_23 : decode cX7_init 23 = .ok (.newarray .int, 2) := by decide +kernel
theorem dX7_init_25 : decode cX7_init 25 = .ok (.putfield 18, 3) := by decide +kernel
theorem dX7_init_28 : decode cX7_init 28 = .ok (.aload_n 0, 1) := by decide +kernel
theorem dX7_init_29 : decode cX7_init 29 = .ok (.bipush 60, 2) := by decide +kernel
theorem dX7_init_31 : decode cX7_init 31 = .ok (.newarray .int, 2) := by decide +kernel
theorem dX7_init_33 : decode cX7_init 33 = .ok (.putfield 21, 3) := by decide +kernel
theorem dX7_init_36 : decode cX7_init 36 = .ok (.aload_n 0, 1) := by decide +kernel
theorem dX7_init_37 : decode cX7_init 37 = .ok (.bipush 60, 2) := by decide +kernel
theorem dX7_init_39 : decode cX7_init 39 = .ok (.newarray .int, 2) := by decide +kernel
theorem dX7_init_41 : decode cX7_init 41 = .ok (.putfield 24, 3) := by decide +kernel
theorem dX7_init_44 : decode cX7_init 44 = .ok (.return_, 1) := by decide +kernel
theorem dX7_has_0 : decode cX7_has 0 = .ok (.iload_n 1, 1) := by decide +kernel
theorem dX7_has_1 : decode cX7_has 1 = .ok (.ifCond .lt 15, 3) := by decide +kernel
theorem dX7_has_4 : decode cX7_has 4 = .ok (.iload_n 1, 1) := by decide +kernel
theorem dX7_has_5 : decode cX7_has 5 = .ok (.aload_n 0, 1) := by decide +kernel
theorem dX7_has_6 : decode cX7_has 6 = .ok (.getfield 27, 3) := by decide +kernel
theorem dX7_has_9 : decode cX7_has 9 = .ok (.if_icmp .ge 7, 3) := by decide +kernel
theorem dX7_has_12 : decode cX7_has 12 = .ok (.iconst 1, 1) := by decide +kernel
theorem dX7_has_13 : decode cX7_has 13 = .ok (.goto 4, 3) := by decide +kernel
theorem dX7_has_16 : decode cX7_has 16 = .ok (.iconst 0, 1) := by decide +kernel
theorem dX7_has_17 : decode cX7_has 17 = .ok (.ireturn, 1) := by decide +kernel
theorem dX7_isFree_0 : decode cX7_isFree 0 = .ok (.aload_n 0, 1) := by decide +kernel
theorem dX7_isFree_1 : decode cX7_isFree 1 = .ok (.getfield 24, 3) := by decide +kernel
theorem dX7_isFree_4 : decode cX7_isFree 4 = .ok (.iload_n 1, 1) := by decide +kernel
theorem dX7_isFree_5 : decode cX7_isFree 5 = .ok (.iaload, 1) := by decide +kernel
theorem dX7_isFree_6 : decode cX7_isFree 6 = .ok (.iconst (-1), 1) := by decide +kernel
theorem dX7_isFree_7 : decode cX7_isFree 7 = .ok (.if_icmp .ne 7, 3) := by decide +kernel
theorem dX7_isFree_10 : decode cX7_isFree 10 = .ok (.iconst 1, 1) := by decide +kernel
theorem dX7_isFree_11 : decode cX7_isFree 11 = .ok (.goto 4, 3) := by decide +kernel
theorem dX7_isFree_14 : decode cX7_isFree 14 = .ok (.iconst 0, 1) := by decide +kernel
theorem dX7_isFree_15 : decode cX7_isFree 15 = .ok (.ireturn, 1) := by decide +kernel
theorem dX7_nightOf_0 : decode cX7_nightOf 0 = .ok (.aload_n 0, 1) := by decide +kernel
theorem dX7_nightOf_1 : decode cX7_nightOf 1 = .ok (.getfield 9, 3) := by decide +kernel
theorem dX7_nightOf_4 : decode cX7_nightOf 4 = .ok (.iload_n 1, 1) := by decide +kernel
theorem dX7_nightOf_5 : decode cX7_nightOf 5 = .ok (.iaload, 1) := by decide +kernel
theorem dX7_nightOf_6 : decode cX7_nightOf 6 = .ok (.bipush 24, 2) := by decide +kernel
theorem dX7_nightOf_8 : decode cX7_nightOf 8 = .ok (.idiv, 1) := by decide +kernel
theorem dX7_nightOf_9 : decode cX7_nightOf 9 = .ok (.ireturn, 1) := by decide +kernel
theorem dX7_placeOf_0 : decode cX7_placeOf 0 = .ok (.iload_n 2, 1) := by decide +kernel
theorem dX7_placeOf_1 : decode cX7_placeOf 1 = .ok (.ifCond .ne 12, 3) := by decide +kernel
theorem dX7_placeOf_4 : decode cX7_placeOf 4 = .ok (.aload_n 0, 1) := by decide +kernel
theorem dX7_placeOf_5 : decode cX7_placeOf 5 = .ok (.getfield 15, 3) := by decide +kernel
theorem dX7_placeOf_8 : decode cX7_placeOf 8 = .ok (.iload_n 1, 1) := by decide +kernel
theorem dX7_placeOf_9 : decode cX7_placeOf 9 = .ok (.iaload, 1) := by decide +kernel
theorem dX7_placeOf_10 : decode cX7_placeOf 10 = .ok (.goto 9, 3) := by decide +kernel
theorem dX7_placeOf_13 : decode cX7_placeOf 13 = .ok (.aload_n 0, 1) := by decide +kernel
theorem dX7_placeOf_14 : decode cX7_placeOf 14 = .ok (.getfield 18, 3) := by decide +kernel
theorem dX7_placeOf_17 : decode cX7_placeOf 17 = .ok (.iload_n 1, 1) := by decide +kernel
theorem dX7_placeOf_18 : decode cX7_placeOf 18 = .ok (.iaload, 1) := by decide +kernel
theorem dX7_placeOf_19 : decode cX7_placeOf 19 = .ok (.ireturn, 1) := by decide +kernel
theorem dX7_find_0 : decode cX7_find 0 = .ok (.iconst 0, 1) := by decide +kernel
theorem dX7_find_1 : decode cX7_find 1 = .ok (.istore 4, 2) := by decide +kernel
theorem dX7_find_3 : decode cX7_find 3 = .ok (.iload 4, 2) := by decide +kernel
theorem dX7_find_5 : decode cX7_find 5 = .ok (.aload_n 0, 1) := by decide +kernel
theorem dX7_find_6 : decode cX7_find 6 = .ok (.getfield 27, 3) := by decide +kernel
theorem dX7_find_9 : decode cX7_find 9 = .ok (.if_icmp .ge 45, 3) := by decide +kernel
theorem dX7_find_12 : decode cX7_find 12 = .ok (.aload_n 0, 1) := by decide +kernel
theorem dX7_find_13 : decode cX7_find 13 = .ok (.getfield 9, 3) := by decide +kernel
theorem dX7_find_16 : decode cX7_find 16 = .ok (.iload 4, 2) := by decide +kernel
theorem dX7_find_18 : decode cX7_find 18 = .ok (.iaload, 1) := by decide +kernel
theorem dX7_find_19 : decode cX7_find 19 = .ok (.iload_n 1, 1) := by decide +kernel
theorem dX7_find_20 : decode cX7_find 20 = .ok (.if_icmp .ne 28, 3) := by decide +kernel
theorem dX7_find_23 : decode cX7_find 23 = .ok (.aload_n 0, 1) := by decide +kernel
theorem dX7_find_24 : decode cX7_find 24 = .ok (.getfield 15, 3) := by decide +kernel
theorem dX7_find_27 : decode cX7_find 27 = .ok (.iload 4, 2) := by decide +kernel
theorem dX7_find_29 : decode cX7_find 29 = .ok (.iaload, 1) := by decide +kernel
theorem dX7_find_30 : decode cX7_find 30 = .ok (.iload_n 2, 1) := by decide +kernel
theorem dX7_find_31 : decode cX7_find 31 = .ok (.if_icmp .ne 17, 3) := by decide +kernel
theorem dX7_find_34 : decode cX7_find 34 = .ok (.aload_n 0, 1) := by decide +kernel
theorem dX7_find_35 : decode cX7_find 35 = .ok (.getfield 18, 3) := by decide +kernel
theorem dX7_find_38 : decode cX7_find 38 = .ok (.iload 4, 2) := by decide +kernel
theorem dX7_find_40 : decode cX7_find 40 = .ok (.iaload, 1) := by decide +kernel
theorem dX7_find_41 : decode cX7_find 41 = .ok (.iload_n 3, 1) := by decide +kernel
theorem dX7_find_42 : decode cX7_find 42 = .ok (.if_icmp .ne 6, 3) := by decide +kernel
theorem dX7_find_45 : decode cX7_find 45 = .ok (.iload 4, 2) := by decide +kernel
theorem dX7_find_47 : decode cX7_find 47 = .ok (.ireturn, 1) := by decide +kernel
theorem dX7_find_48 : decode cX7_find 48 = .ok (.iinc 4 1, 3) := by decide +kernel
theorem dX7_find_51 : decode cX7_find 51 = .ok (.goto (-48), 3) := by decide +kernel
theorem dX7_find_54 : decode cX7_find 54 = .ok (.iconst (-1), 1) := by decide +kernel
theorem dX7_find_55 : decode cX7_find 55 = .ok (.ireturn, 1) := by decide +kernel
theorem dX7_add_0 : decode cX7_add 0 = .ok (.aload_n 0, 1) := by decide +kernel
theorem dX7_add_1 : decode cX7_add 1 = .ok (.getfield 27, 3) := by decide +kernel
theorem dX7_add_4 : decode cX7_add 4 = .ok (.bipush 60, 2) := by decide +kernel
theorem dX7_add_6 : decode cX7_add 6 = .ok (.if_icmp .lt 6, 3) := by decide +kernel
theorem dX7_add_9 : decode cX7_add 9 = .ok (.bipush (-4), 2) := by decide +kernel
theorem dX7_add_11 : decode cX7_add 11 = .ok (.ireturn, 1) := by decide +kernel
theorem dX7_add_12 : decode cX7_add 12 = .ok (.aload_n 0, 1) := by decide +kernel
theorem dX7_add_13 : decode cX7_add 13 = .ok (.getfield 27, 3) := by decide +kernel
theorem dX7_add_16 : decode cX7_add 16 = .ok (.istore 5, 2) := by decide +kernel
theorem dX7_add_18 : decode cX7_add 18 = .ok (.aload_n 0, 1) := by decide +kernel
theorem dX7_add_19 : decode cX7_add 19 = .ok (.getfield 9, 3) := by decide +kernel
theorem dX7_add_22 : decode cX7_add 22 = .ok (.iload 5, 2) := by decide +kernel
theorem dX7_add_24 : decode cX7_add 24 = .ok (.iload_n 1, 1) := by decide +kernel
theorem dX7_add_25 : decode cX7_add 25 = .ok (.iastore, 1) := by decide +kernel
theorem dX7_add_26 : decode cX7_add 26 = .ok (.aload_n 0, 1) := by decide +kernel
theorem dX7_add_27 : decode cX7_add 27 = .ok (.getfield 15, 3) := by decide +kernel
theorem dX7_add_30 : decode cX7_add 30 = .ok (.iload 5, 2) := by decide +kernel
theorem dX7_add_32 : decode cX7_add 32 = .ok (.iload_n 2, 1) := by decide +kernel
theorem dX7_add_33 : decode cX7_add 33 = .ok (.iastore, 1) := by decide +kernel
theorem dX7_add_34 : decode cX7_add 34 = .ok (.aload_n 0, 1) := by decide +kernel
theorem dX7_add_35 : decode cX7_add 35 = .ok (.getfield 18, 3) := by decide +kernel
theorem dX7_add_38 : decode cX7_add 38 = .ok (.iload 5, 2) := by decide +kernel
theorem dX7_add_40 : decode cX7_add 40 = .ok (.iload_n 3, 1) := by decide +kernel
theorem dX7_add_41 : decode cX7_add 41 = .ok (.iastore, 1) := by decide +kernel
theorem dX7_add_42 : decode cX7_add 42 = .ok (.aload_n 0, 1) := by decide +kernel
theorem dX7_add_43 : decode cX7_add 43 = .ok (.getfield 21, 3) := by decide +kernel
theorem dX7_add_46 : decode cX7_add 46 = .ok (.iload 5, 2) := by decide +kernel
theorem dX7_add_48 : decode cX7_add 48 = .ok (.iload 4, 2) := by decide +kernel
theorem dX7_add_50 : decode cX7_add 50 = .ok (.iastore, 1) := by decide +kernel
theorem dX7_add_51 : decode cX7_add 51 = .ok (.aload_n 0, 1) := by decide +kernel
theorem dX7_add_52 : decode cX7_add 52 = .ok (.getfield 24, 3) := by decide +kernel
theorem dX7_add_55 : decode cX7_add 55 = .ok (.iload 5, 2) := by decide +kernel
theorem dX7_add_57 : decode cX7_add 57 = .ok (.iconst (-1), 1) := by decide +kernel
theorem dX7_add_58 : decode cX7_add 58 = .ok (.iastore, 1) := by decide +kernel
theorem dX7_add_59 : decode cX7_add 59 = .ok (.aload_n 0, 1) := by decide +kernel
theorem dX7_add_60 : decode cX7_add 60 = .ok (.dup, 1) := by decide +kernel
theorem dX7_add_61 : decode cX7_add 61 = .ok (.getfield 27, 3) := by decide +kernel
theorem dX7_add_64 : decode cX7_add 64 = .ok (.iconst 1, 1) := by decide +kernel
theorem dX7_add_65 : decode cX7_add 65 = .ok (.iadd, 1) := by decide +kernel
theorem dX7_add_66 : decode cX7_add 66 = .ok (.putfield 27, 3) := by decide +kernel
theorem dX7_add_69 : decode cX7_add 69 = .ok (.iload 5, 2) := by decide +kernel
theorem dX7_add_71 : decode cX7_add 71 = .ok (.ireturn, 1) := by decide +kernel
theorem dX7_freeOnes_0 : decode cX7_freeOnes 0 = .ok (.iconst 0, 1) := by decide +kernel
theorem dX7_freeOnes_1 : decode cX7_freeOnes 1 = .ok (.istore_n 1, 1) := by decide +kernel
theorem dX7_freeOnes_2 : decode cX7_freeOnes 2 = .ok (.iconst 0, 1) := by decide +kernel
theorem dX7_freeOnes_3 : decode cX7_freeOnes 3 = .ok (.istore_n 2, 1) := by decide +kernel
theorem dX7_freeOnes_4 : decode cX7_freeOnes 4 = .ok (.iload_n 2, 1) := by decide +kernel
theorem dX7_freeOnes_5 : decode cX7_freeOnes 5 = .ok (.aload_n 0, 1) := by decide +kernel
theorem dX7_freeOnes_6 : decode cX7_freeOnes 6 = .ok (.getfield 27, 3) := by decide +kernel
theorem dX7_freeOnes_9 : decode cX7_freeOnes 9 = .ok (.if_icmp .ge 20, 3) := by decide +kernel
theorem dX7_freeOnes_12 : decode cX7_freeOnes 12 = .ok (.aload_n 0, 1) := by decide +kernel
theorem dX7_freeOnes_13 : decode cX7_freeOnes 13 = .ok (.iload_n 2, 1) := by decide +kernel
theorem dX7_freeOnes_14 : decode cX7_freeOnes 14 = .ok (.invokevirtual 31, 3) := by decide +kernel
theorem dX7_freeOnes_17 : decode cX7_freeOnes 17 = .ok (.ifCond .eq 6, 3) := by decide +kernel
theorem dX7_freeOnes_20 : decode cX7_freeOnes 20 = .ok (.iinc 1 1, 3) := by decide +kernel
theorem dX7_freeOnes_23 : decode cX7_freeOnes 23 = .ok (.iinc 2 1, 3) := by decide +kernel
theorem dX7_freeOnes_26 : decode cX7_freeOnes 26 = .ok (.goto (-22), 3) := by decide +kernel
theorem dX7_freeOnes_29 : decode cX7_freeOnes 29 = .ok (.iload_n 1, 1) := by decide +kernel
theorem dX7_freeOnes_30 : decode cX7_freeOnes 30 = .ok (.ireturn, 1) := by decide +kernel
theorem dX7_putAll_0 : decode cX7_putAll 0 = .ok (.iconst 0, 1) := by decide +kernel
theorem dX7_putAll_1 : decode cX7_putAll 1 = .ok (.istore_n 3, 1) := by decide +kernel
theorem dX7_putAll_2 : decode cX7_putAll 2 = .ok (.iload_n 3, 1) := by decide +kernel
theorem dX7_putAll_3 : decode cX7_putAll 3 = .ok (.aload_n 1, 1) := by decide +kernel
theorem dX7_putAll_4 : decode cX7_putAll 4 = .ok (.getfield 35, 3) := by decide +kernel
theorem dX7_putAll_7 : decode cX7_putAll 7 = .ok (.if_icmp .ge 21, 3) := by decide +kernel
theorem dX7_putAll_10 : decode cX7_putAll 10 = .ok (.aload_n 0, 1) := by decide +kernel
theorem dX7_putAll_11 : decode cX7_putAll 11 = .ok (.getfield 24, 3) := by decide +kernel
theorem dX7_putAll_14 : decode cX7_putAll 14 = .ok (.aload_n 1, 1) := by decide +kernel
theorem dX7_putAll_15 : decode cX7_putAll 15 = .ok (.getfield 40, 3) := by decide +kernel
theorem dX7_putAll_18 : decode cX7_putAll 18 = .ok (.iload_n 3, 1) := by decide +kernel
theorem dX7_putAll_19 : decode cX7_putAll 19 = .ok (.iaload, 1) := by decide +kernel
theorem dX7_putAll_20 : decode cX7_putAll 20 = .ok (.iload_n 2, 1) := by decide +kernel
theorem dX7_putAll_21 : decode cX7_putAll 21 = .ok (.iastore, 1) := by decide +kernel
theorem dX7_putAll_22 : decode cX7_putAll 22 = .ok (.iinc 3 1, 3) := by decide +kernel
theorem dX7_putAll_25 : decode cX7_putAll 25 = .ok (.goto (-23), 3) := by decide +kernel
theorem dX7_putAll_28 : decode cX7_putAll 28 = .ok (.return_, 1) := by decide +kernel
theorem dX8_init_0 : decode cX8_init 0 = .ok (.aload_n 0, 1) := by decide +kernel
theorem dX8_init_1 : decode cX8_init 1 = .ok (.invokespecial 1, 3) := by decide +kernel
theorem dX8_init_4 : decode cX8_init 4 = .ok (.aload_n 0, 1) := by decide +kernel
theorem dX8_init_5 : decode cX8_init 5 = .ok (.new 7, 3) := by decide +kernel
theorem dX8_init_8 : decode cX8_init 8 = .ok (.dup, 1) := by decide +kernel
theorem dX8_init_9 : decode cX8_init 9 = .ok (.invokespecial 9, 3) := by decide +kernel
theorem dX8_init_12 : decode cX8_init 12 = .ok (.putfield 10, 3) := by decide +kernel
theorem dX8_init_15 : decode cX8_init 15 = .ok (.return_, 1) := by decide +kernel
theorem dX9_init_0 : decode cX9_init 0 = .ok (.aload_n 0, 1) := by decide +kernel
theorem dX9_init_1 : decode cX9_init 1 = .ok (.invokespecial 3, 3) := by decide +kernel
theorem dX9_init_4 : decode cX9_init 4 = .ok (.aload_n 0, 1) := by decide +kernel
theorem dX9_init_5 : decode cX9_init 5 = .ok (.bipush 12, 2) := by decide +kernel
theorem dX9_init_7 : decode cX9_init 7 = .ok (.anewarray 9, 3) := by decide +kernel
theorem dX9_init_10 : decode cX9_init 10 = .ok (.putfield 11, 3) := by decide +kernel
theorem dX9_init_13 : decode cX9_init 13 = .ok (.aload_n 0, 1) := by decide +kernel
theorem dX9_init_14 : decode cX9_init 14 = .ok (.aload_n 1, 1) := by decide +kernel
theorem dX9_init_15 : decode cX9_init 15 = .ok (.putfield 17, 3) := by decide +kernel
theorem dX9_init_18 : decode cX9_init 18 = .ok (.iconst 0, 1) := by decide +kernel
theorem dX9_init_19 : decode cX9_init 19 = .ok (.istore_n 2, 1) := by decide +kernel
theorem dX9_init_20 : decode cX9_init 20 = .ok (.iload_n 2, 1) := by decide +kernel
theorem dX9_init_21 : decode cX9_init 21 = .ok (.bipush 12, 2) := by decide +kernel
theorem dX9_init_23 : decode cX9_init 23 = .ok (.if_icmp .ge 22, 3) := by decide +kernel
theorem dX9_init_26 : decode cX9_init 26 = .ok (.aload_n 0, 1) := by decide +kernel
theorem dX9_init_27 : decode cX9_init 27 = .ok (.getfield 11, 3) := by decide +kernel
theorem dX9_init_30 : decode cX9_init 30 = .ok (.iload_n 2, 1) := by decide +kernel
theorem dX9_init_31 : decode cX9_init 31 = .ok (.new 9, 3) := by decide +kernel
theorem dX9_init_34 : decode cX9_init 34 = .ok (.dup, 1) := by decide +kernel
theorem dX9_init_35 : decode cX9_init 35 = .ok (.invokespecial 21, 3) := by decide +kernel
theorem dX9_init_38 : decode cX9_init 38 = .ok (.aastore, 1) := by decide +kernel
theorem dX9_init_39 : decode cX9_init 39 = .ok (.iinc 2 1, 3) := by decide +kernel
theorem dX9_init_42 : decode cX9_init 42 = .ok (.goto (-22), 3) := by decide +kernel
theorem dX9_init_45 : decode cX9_init 45 = .ok (.return_, 1) := by decide +kernel
theorem dX9_has_0 : decode cX9_has 0 = .ok (.iload_n 1, 1) := by decide +kernel
theorem dX9_has_1 : decode cX9_has 1 = .ok (.ifCond .lt 27, 3) := by decide +kernel
theorem dX9_has_4 : decode cX9_has 4 = .ok (.iload_n 1, 1) := by decide +kernel
theorem dX9_has_5 : decode cX9_has 5 = .ok (.aload_n 0, 1) := by decide +kernel
theorem dX9_has_6 : decode cX9_has 6 = .ok (.getfield 22, 3) := by decide +kernel
theorem dX9_has_9 : decode cX9_has 9 = .ok (.if_icmp .ge 19, 3) := by decide +kernel
theorem dX9_has_12 : decode cX9_has 12 = .ok (.aload_n 0, 1) := by decide +kernel
theorem dX9_has_13 : decode cX9_has 13 = .ok (.getfield 11, 3) := by decide +kernel
theorem dX9_has_16 : decode cX9_has 16 = .ok (.iload_n 1, 1) := by decide +kernel
theorem dX9_has_17 : decode cX9_has 17 = .ok (.aaload, 1) := by decide +kernel
theorem dX9_has_18 : decode cX9_has 18 = .ok (.getfield 26, 3) := by decide +kernel
theorem dX9_has_21 : decode cX9_has 21 = .ok (.ifCond .ne 7, 3) := by decide +kernel
theorem dX9_has_24 : decode cX9_has 24 = .ok (.iconst 1, 1) := by decide +kernel
theorem dX9_has_25 : decode cX9_has 25 = .ok (.goto 4, 3) := by decide +kernel
theorem dX9_has_28 : decode cX9_has 28 = .ok (.iconst 0, 1) := by decide +kernel
theorem dX9_has_29 : decode cX9_has 29 = .ok (.ireturn, 1) := by decide +kernel
theorem dX9_add_0 : decode cX9_add 0 = .ok (.aload_n 0, 1) := by decide +kernel
theorem dX9_add_1 : decode cX9_add 1 = .ok (.getfield 22, 3) := by decide +kernel
theorem dX9_add_4 : decode cX9_add 4 = .ok (.bipush 12, 2) := by decide +kernel
theorem dX9_add_6 : decode cX9_add 6 = .ok (.if_icmp .lt 6, 3) := by decide +kernel
theorem dX9_add_9 : decode cX9_add 9 = .ok (.bipush (-4), 2) := by decide +kernel
theorem dX9_add_11 : decode cX9_add 11 = .ok (.ireturn, 1) := by decide +kernel
theorem dX9_add_12 : decode cX9_add 12 = .ok (.aload_n 0, 1) := by decide +kernel
theorem dX9_add_13 : decode cX9_add 13 = .ok (.getfield 22, 3) := by decide +kernel
theorem dX9_add_16 : decode cX9_add 16 = .ok (.istore_n 2, 1) := by decide +kernel
theorem dX9_add_17 : decode cX9_add 17 = .ok (.aload_n 0, 1) := by decide +kernel
theorem dX9_add_18 : decode cX9_add 18 = .ok (.getfield 11, 3) := by decide +kernel
theorem dX9_add_21 : decode cX9_add 21 = .ok (.iload_n 2, 1) := by decide +kernel
theorem dX9_add_22 : decode cX9_add 22 = .ok (.aaload, 1) := by decide +kernel
theorem dX9_add_23 : decode cX9_add 23 = .ok (.iload_n 1, 1) := by decide +kernel
theorem dX9_add_24 : decode cX9_add 24 = .ok (.putfield 30, 3) := by decide +kernel
theorem dX9_add_27 : decode cX9_add 27 = .ok (.aload_n 0, 1) := by decide +kernel
theorem dX9_add_28 : decode cX9_add 28 = .ok (.dup, 1) := by decide +kernel
theorem dX9_add_29 : decode cX9_add 29 = .ok (.getfield 22, 3) := by decide +kernel
theorem dX9_add_32 : decode cX9_add 32 = .ok (.iconst 1, 1) := by decide +kernel
theorem dX9_add_33 : decode cX9_add 33 = .ok (.iadd, 1) := by decide +kernel
theorem dX9_add_34 : decode cX9_add 34 = .ok (.putfield 22, 3) := by decide +kernel
theorem dX9_add_37 : decode cX9_add 37 = .ok (.iload_n 2, 1) := by decide +kernel
theorem dX9_add_38 : decode cX9_add 38 = .ok (.ireturn, 1) := by decide +kernel
theorem dX9_notGone_0 : decode cX9_notGone 0 = .ok (.iconst 0, 1) := by decide +kernel
theorem dX9_notGone_1 : decode cX9_notGone 1 = .ok (.istore_n 1, 1) := by decide +kernel
theorem dX9_notGone_2 : decode cX9_notGone 2 = .ok (.iconst 0, 1) := by decide +kernel
theorem dX9_notGone_3 : decode cX9_notGone 3 = .ok (.istore_n 2, 1) := by decide +kernel
theorem dX9_notGone_4 : decode cX9_notGone 4 = .ok (.iload_n 2, 1) := by decide +kernel
theorem dX9_notGone_5 : decode cX9_notGone 5 = .ok (.aload_n 0, 1) := by decide +kernel
theorem dX9_notGone_6 : decode cX9_notGone 6 = .ok (.getfield 22, 3) := by decide +kernel
theorem dX9_notGone_9 : decode cX9_notGone 9 = .ok (.if_icmp .ge 20, 3) := by decide +kernel
theorem dX9_notGone_12 : decode cX9_notGone 12 = .ok (.aload_n 0, 1) := by decide +kernel
theorem dX9_notGone_13 : decode cX9_notGone 13 = .ok (.iload_n 2, 1) := by decide +kernel
theorem dX9_notGone_14 : decode cX9_notGone 14 = .ok (.invokevirtual 33, 3) := by decide +kernel
theorem dX9_notGone_17 : decode cX9_notGone 17 = .ok (.ifCond .eq 6, 3) := by decide +kernel
theorem dX9_notGone_20 : decode cX9_notGone 20 = .ok (.iinc 1 1, 3) := by decide +kernel
theorem dX9_notGone_23 : decode cX9_notGone 23 = .ok (.iinc 2 1, 3) := by decide +kernel
theorem dX9_notGone_26 : decode cX9_notGone 26 = .ok (.goto (-22), 3) := by decide +kernel
theorem dX9_notGone_29 : decode cX9_notGone 29 = .ok (.iload_n 1, 1) := by decide +kernel
theorem dX9_notGone_30 : decode cX9_notGone 30 = .ok (.ireturn, 1) := by decide +kernel
theorem dX9_replaceRow_0 : decode cX9_replaceRow 0 = .ok (.aload_n 0, 1) := by decide +kernel
theorem dX9_replaceRow_1 : decode cX9_replaceRow 1 = .ok (.getfield 11, 3) := by decide +kernel
theorem dX9_replaceRow_4 : decode cX9_replaceRow 4 = .ok (.iload_n 1, 1) := by decide +kernel
theorem dX9_replaceRow_5 : decode cX9_replaceRow 5 = .ok (.aaload, 1) := by decide +kernel
theorem dX9_replaceRow_6 : decode cX9_replaceRow 6 = .ok (.getfield 37, 3) := by decide +kernel
theorem dX9_replaceRow_9 : decode cX9_replaceRow 9 = .ok (.astore_n 3, 1) := by decide +kernel
theorem dX9_replaceRow_10 : decode cX9_replaceRow 10 = .ok (.aload_n 0, 1) := by decide +kernel
theorem dX9_replaceRow_11 : decode cX9_replaceRow 11 = .ok (.getfield 17, 3) := by decide +kernel
theorem dX9_replaceRow_14 : decode cX9_replaceRow 14 = .ok (.aload_n 3, 1) := by decide +kernel
theorem dX9_replaceRow_15 : decode cX9_replaceRow 15 = .ok (.iconst (-1), 1) := by decide +kernel
theorem dX9_replaceRow_16 : decode cX9_replaceRow 16 = .ok (.invokevirtual 41, 3) := by decide +kernel
theorem dX9_replaceRow_19 : decode cX9_replaceRow 19 = .ok (.aload_n 3, 1) := by decide +kernel
theorem dX9_replaceRow_20 : decode cX9_replaceRow 20 = .ok (.aload_n 2, 1) := by decide +kernel
theorem dX9_replaceRow_21 : decode cX9_replaceRow 21 = .ok (.invokevirtual 47, 3) := by decide +kernel
theorem dX9_replaceRow_24 : decode cX9_replaceRow 24 = .ok (.aload_n 0, 1) := by decide +kernel
theorem dX9_replaceRow_25 : decode cX9_replaceRow 25 = .ok (.getfield 17, 3) := by decide +kernel
theorem dX9_replaceRow_28 : decode cX9_replaceRow 28 = .ok (.aload_n 3, 1) := by decide +kernel
theorem dX9_replaceRow_29 : decode cX9_replaceRow 29 = .ok (.iload_n 1, 1) := by decide +kernel
theorem dX9_replaceRow_30 : decode cX9_replaceRow 30 = .ok (.invokevirtual 41, 3) := by decide +kernel
theorem dX9_replaceRow_33 : decode cX9_replaceRow 33 = .ok (.return_, 1) := by decide +kernel
theorem dX9_bringBack_0 : decode cX9_bringBack 0 = .ok (.aload_n 0, 1) := by decide +kernel
theorem dX9_bringBack_1 : decode cX9_bringBack 1 = .ok (.getfield 11, 3) := by decide +kernel
theorem dX9_bringBack_4 : decode cX9_bringBack 4 = .ok (.iload_n 1, 1) := by decide +kernel
theorem dX9_bringBack_5 : decode cX9_bringBack 5 = .ok (.aaload, 1) := by decide +kernel
theorem dX9_bringBack_6 : decode cX9_bringBack 6 = .ok (.iconst 0, 1) := by decide +kernel
theorem dX9_bringBack_7 : decode cX9_bringBack 7 = .ok (.putfield 26, 3) := by decide +kernel
theorem dX9_bringBack_10 : decode cX9_bringBack 10 = .ok (.aload_n 0, 1) := by decide +kernel
theorem dX9_bringBack_11 : decode cX9_bringBack 11 = .ok (.getfield 17, 3) := by decide +kernel
theorem dX9_bringBack_14 : decode cX9_bringBack 14 = .ok (.aload_n 0, 1) := by decide +kernel
theorem dX9_bringBack_15 : decode cX9_bringBack 15 = .ok (.getfield 11, 3) := by decide +kernel
theorem dX9_bringBack_18 : decode cX9_bringBack 18 = .ok (.iload_n 1, 1) := by decide +kernel
theorem dX9_bringBack_19 : decode cX9_bringBack 19 = .ok (.aaload, 1) := by decide +kernel
theorem dX9_bringBack_20 : decode cX9_bringBack 20 = .ok (.getfield 37, 3) := by decide +kernel
theorem dX9_bringBack_23 : decode cX9_bringBack 23 = .ok (.iload_n 1, 1) := by decide +kernel
theorem dX9_bringBack_24 : decode cX9_bringBack 24 = .ok (.invokevirtual 41, 3) := by decide +kernel
theorem dX9_bringBack_27 : decode cX9_bringBack 27 = .ok (.return_, 1) := by decide +kernel
theorem dJ6_bitCount_0f7a4_0 : decode cJ6_bitCount_0f7a4 0 = .ok (.iload_n 0, 1) := by decide +kernel
theorem dJ6_bitCount_0f7a4_1 : decode cJ6_bitCount_0f7a4 1 = .ok (.iload_n 0, 1) := by decide +kernel
theorem dJ6_bitCount_0f7a4_2 : decode cJ6_bitCount_0f7a4 2 = .ok (.iconst 1, 1) := by decide +kernel
theorem dJ6_bitCount_0f7a4_3 : decode cJ6_bitCount_0f7a4 3 = .ok (.iushr, 1) := by decide +kernel
theorem dJ6_bitCount_0f7a4_4 : decode cJ6_bitCount_0f7a4 4 = .ok (.ldc_w 265, 3) := by decide +kernel
theorem dJ6_bitCount_0f7a4_7 : decode cJ6_bitCount_0f7a4 7 = .ok (.iand, 1) := by decide +kernel
theorem dJ6_bitCount_0f7a4_8 : decode cJ6_bitCount_0f7a4 8 = .ok (.isub, 1) := by decide +kernel
theorem dJ6_bitCount_0f7a4_9 : decode cJ6_bitCount_0f7a4 9 = .ok (.istore_n 0, 1) := by decide +kernel
theorem dJ6_bitCount_0f7a4_10 : decode cJ6_bitCount_0f7a4 10 = .ok (.iload_n 0, 1) := by decide +kernel
theorem dJ6_bitCount_0f7a4_11 : decode cJ6_bitCount_0f7a4 11 = .ok (.ldc_w 266, 3) := by decide +kernel
theorem dJ6_bitCount_0f7a4_14 : decode cJ6_bitCount_0f7a4 14 = .ok (.iand, 1) := by decide +kernel
theorem dJ6_bitCount_0f7a4_15 : decode cJ6_bitCount_0f7a4 15 = .ok (.iload_n 0, 1) := by decide +kernel
theorem dJ6_bitCount_0f7a4_16 : decode cJ6_bitCount_0f7a4 16 = .ok (.iconst 2, 1) := by decide +kernel
theorem dJ6_bitCount_0f7a4_17 : decode cJ6_bitCount_0f7a4 17 = .ok (.iushr, 1) := by decide +kernel
theorem dJ6_bitCount_0f7a4_18 : decode cJ6_bitCount_0f7a4 18 = .ok (.ldc_w 266, 3) := by decide +kernel
theorem dJ6_bitCount_0f7a4_21 : decode cJ6_bitCount_0f7a4 21 = .ok (.iand, 1) := by decide +kernel
theorem dJ6_bitCount_0f7a4_22 : decode cJ6_bitCount_0f7a4 22 = .ok (.iadd, 1) := by decide +kernel
theorem dJ6_bitCount_0f7a4_23 : decode cJ6_bitCount_0f7a4 23 = .ok (.istore_n 0, 1) := by decide +kernel
theorem dJ6_bitCount_0f7a4_24 : decode cJ6_bitCount_0f7a4 24 = .ok (.iload_n 0, 1) := by decide +kernel
theorem dJ6_bitCount_0f7a4_25 : decode cJ6_bitCount_0f7a4 25 = .ok (.iload_n 0, 1) := by decide +kernel
theorem dJ6_bitCount_0f7a4_26 : decode cJ6_bitCount_0f7a4 26 = .ok (.iconst 4, 1) := by decide +kernel
theorem dJ6_bitCount_0f7a4_27 : decode cJ6_bitCount_0f7a4 27 = .ok (.iushr, 1) := by decide +kernel
theorem dJ6_bitCount_0f7a4_28 : decode cJ6_bitCount_0f7a4 28 = .ok (.iadd, 1) := by decide +kernel
theorem dJ6_bitCount_0f7a4_29 : decode cJ6_bitCount_0f7a4 29 = .ok (.ldc_w 267, 3) := by decide +kernel
theorem dJ6_bitCount_0f7a4_32 : decode cJ6_bitCount_0f7a4 32 = .ok (.iand, 1) := by decide +kernel
theorem dJ6_bitCount_0f7a4_33 : decode cJ6_bitCount_0f7a4 33 = .ok (.istore_n 0, 1) := by decide +kernel
theorem dJ6_bitCount_0f7a4_34 : decode cJ6_bitCount_0f7a4 34 = .ok (.iload_n 0, 1) := by decide +kernel
theorem dJ6_bitCount_0f7a4_35 : decode cJ6_bitCount_0f7a4 35 = .ok (.iload_n 0, 1) := by decide +kernel
theorem dJ6_bitCount_0f7a4_36 : decode cJ6_bitCount_0f7a4 36 = .ok (.bipush 8, 2) := by decide +kernel
theorem dJ6_bitCount_0f7a4_38 : decode cJ6_bitCount_0f7a4 38 = .ok (.iushr, 1) := by decide +kernel
theorem dJ6_bitCount_0f7a4_39 : decode cJ6_bitCount_0f7a4 39 = .ok (.iadd, 1) := by decide +kernel
theorem dJ6_bitCount_0f7a4_40 : decode cJ6_bitCount_0f7a4 40 = .ok (.istore_n 0, 1) := by decide +kernel
theorem dJ6_bitCount_0f7a4_41 : decode cJ6_bitCount_0f7a4 41 = .ok (.iload_n 0, 1) := by decide +kernel
theorem dJ6_bitCount_0f7a4_42 : decode cJ6_bitCount_0f7a4 42 = .ok (.iload_n 0, 1) := by decide +kernel
theorem dJ6_bitCount_0f7a4_43 : decode cJ6_bitCount_0f7a4 43 = .ok (.bipush 16, 2) := by decide +kernel
theorem dJ6_bitCount_0f7a4_45 : decode cJ6_bitCount_0f7a4 45 = .ok (.iushr, 1) := by decide +kernel
theorem dJ6_bitCount_0f7a4_46 : decode cJ6_bitCount_0f7a4 46 = .ok (.iadd, 1) := by decide +kernel
theorem dJ6_bitCount_0f7a4_47 : decode cJ6_bitCount_0f7a4 47 = .ok (.istore_n 0, 1) := by decide +kernel
theorem dJ6_bitCount_0f7a4_48 : decode cJ6_bitCount_0f7a4 48 = .ok (.iload_n 0, 1) := by decide +kernel
theorem dJ6_bitCount_0f7a4_49 : decode cJ6_bitCount_0f7a4 49 = .ok (.bipush 63, 2) := by decide +kernel
theorem dJ6_bitCount_0f7a4_51 : decode cJ6_bitCount_0f7a4 51 = .ok (.iand, 1) := by decide +kernel
theorem dJ6_bitCount_0f7a4_52 : decode cJ6_bitCount_0f7a4 52 = .ok (.ireturn, 1) := by decide +kernel
theorem dJ9_floorDiv_7cf53_0 : decode cJ9_floorDiv_7cf53 0 = .ok (.iload_n 0, 1) := by decide +kernel
theorem dJ9_floorDiv_7cf53_1 : decode cJ9_floorDiv_7cf53 1 = .ok (.iload_n 1, 1) := by decide +kernel
theorem dJ9_floorDiv_7cf53_2 : decode cJ9_floorDiv_7cf53 2 = .ok (.idiv, 1) := by decide +kernel
theorem dJ9_floorDiv_7cf53_3 : decode cJ9_floorDiv_7cf53 3 = .ok (.istore_n 2, 1) := by decide +kernel
theorem dJ9_floorDiv_7cf53_4 : decode cJ9_floorDiv_7cf53 4 = .ok (.iload_n 0, 1) := by decide +kernel
theorem dJ9_floorDiv_7cf53_5 : decode cJ9_floorDiv_7cf53 5 = .ok (.iload_n 1, 1) := by decide +kernel
theorem dJ9_floorDiv_7cf53_6 : decode cJ9_floorDiv_7cf53 6 = .ok (.ixor, 1) := by decide +kernel
theorem dJ9_floorDiv_7cf53_7 : decode cJ9_floorDiv_7cf53 7 = .ok (.ifCond .ge 14, 3) := by decide +kernel
theorem dJ9_floorDiv_7cf53_10 : decode cJ9_floorDiv_7cf53 10 = .ok (.iload_n 2, 1) := by decide +kernel
theorem dJ9_floorDiv_7cf53_11 : decode cJ9_floorDiv_7cf53 11 = .ok (.iload_n 1, 1) := by decide +kernel
theorem dJ9_floorDiv_7cf53_12 : decode cJ9_floorDiv_7cf53 12 = .ok (.imul, 1) := by decide +kernel
theorem dJ9_floorDiv_7cf53_13 : decode cJ9_floorDiv_7cf53 13 = .ok (.iload_n 0, 1) := by decide +kernel
theorem dJ9_floorDiv_7cf53_14 : decode cJ9_floorDiv_7cf53 14 = .ok (.if_icmp .eq 7, 3) := by decide +kernel
theorem dJ9_floorDiv_7cf53_17 : decode cJ9_floorDiv_7cf53 17 = .ok (.iload_n 2, 1) := by decide +kernel
theorem dJ9_floorDiv_7cf53_18 : decode cJ9_floorDiv_7cf53 18 = .ok (.iconst 1, 1) := by decide +kernel
theorem dJ9_floorDiv_7cf53_19 : decode cJ9_floorDiv_7cf53 19 = .ok (.isub, 1) := by decide +kernel
theorem dJ9_floorDiv_7cf53_20 : decode cJ9_floorDiv_7cf53 20 = .ok (.ireturn, 1) := by decide +kernel
theorem dJ9_floorDiv_7cf53_21 : decode cJ9_floorDiv_7cf53 21 = .ok (.iload_n 2, 1) := by decide +kernel
theorem dJ9_floorDiv_7cf53_22 : decode cJ9_floorDiv_7cf53 22 = .ok (.ireturn, 1) := by decide +kernel
theorem dJ9_abs_0f7a4_0 : decode cJ9_abs_0f7a4 0 = .ok (.iload_n 0, 1) := by decide +kernel
theorem dJ9_abs_0f7a4_1 : decode cJ9_abs_0f7a4 1 = .ok (.ifCond .ge 8, 3) := by decide +kernel
theorem dJ9_abs_0f7a4_4 : decode cJ9_abs_0f7a4 4 = .ok (.iload_n 0, 1) := by decide +kernel
theorem dJ9_abs_0f7a4_5 : decode cJ9_abs_0f7a4 5 = .ok (.ineg, 1) := by decide +kernel
theorem dJ9_abs_0f7a4_6 : decode cJ9_abs_0f7a4 6 = .ok (.goto 4, 3) := by decide +kernel
theorem dJ9_abs_0f7a4_9 : decode cJ9_abs_0f7a4 9 = .ok (.iload_n 0, 1) := by decide +kernel
theorem dJ9_abs_0f7a4_10 : decode cJ9_abs_0f7a4 10 = .ok (.ireturn, 1) := by decide +kernel
theorem dJ9_abs_067f4_0 : decode cJ9_abs_067f4 0 = .ok (.lload_n 0, 1) := by decide +kernel
theorem dJ9_abs_067f4_1 : decode cJ9_abs_067f4 1 = .ok (.lconst 0, 1) := by decide +kernel
theorem dJ9_abs_067f4_2 : decode cJ9_abs_067f4 2 = .ok (.lcmp, 1) := by decide +kernel
theorem dJ9_abs_067f4_3 : decode cJ9_abs_067f4 3 = .ok (.ifCond .ge 8, 3) := by decide +kernel
theorem dJ9_abs_067f4_6 : decode cJ9_abs_067f4 6 = .ok (.lload_n 0, 1) := by decide +kernel
theorem dJ9_abs_067f4_7 : decode cJ9_abs_067f4 7 = .ok (.lneg, 1) := by decide +kernel
theorem dJ9_abs_067f4_8 : decode cJ9_abs_067f4 8 = .ok (.goto 4, 3) := by decide +kernel
theorem dJ9_abs_067f4_11 : decode cJ9_abs_067f4 11 = .ok (.lload_n 0, 1) := by decide +kernel
theorem dJ9_abs_067f4_12 : decode cJ9_abs_067f4 12 = .ok (.lreturn, 1) := by decide +kernel
theorem dJ9_max_7cf53_0 : decode cJ9_max_7cf53 0 = .ok (.iload_n 0, 1) := by decide +kernel
theorem dJ9_max_7cf53_1 : decode cJ9_max_7cf53 1 = .ok (.iload_n 1, 1) := by decide +kernel
theorem dJ9_max_7cf53_2 : decode cJ9_max_7cf53 2 = .ok (.if_icmp .lt 7, 3) := by decide +kernel
theorem dJ9_max_7cf53_5 : decode cJ9_max_7cf53 5 = .ok (.iload_n 0, 1) := by decide +kernel
theorem dJ9_max_7cf53_6 : decode cJ9_max_7cf53 6 = .ok (.goto 4, 3) := by decide +kernel
theorem dJ9_max_7cf53_9 : decode cJ9_max_7cf53 9 = .ok (.iload_n 1, 1) := by decide +kernel
theorem dJ9_max_7cf53_10 : decode cJ9_max_7cf53 10 = .ok (.ireturn, 1) := by decide +kernel
theorem dJ9_max_f86c9_0 : decode cJ9_max_f86c9 0 = .ok (.lload_n 0, 1) := by decide +kernel
theorem dJ9_max_f86c9_1 : decode cJ9_max_f86c9 1 = .ok (.lload_n 2, 1) := by decide +kernel
theorem dJ9_max_f86c9_2 : decode cJ9_max_f86c9 2 = .ok (.lcmp, 1) := by decide +kernel
theorem dJ9_max_f86c9_3 : decode cJ9_max_f86c9 3 = .ok (.ifCond .lt 7, 3) := by decide +kernel
theorem dJ9_max_f86c9_6 : decode cJ9_max_f86c9 6 = .ok (.lload_n 0, 1) := by decide +kernel
theorem dJ9_max_f86c9_7 : decode cJ9_max_f86c9 7 = .ok (.goto 4, 3) := by decide +kernel
theorem dJ9_max_f86c9_10 : decode cJ9_max_f86c9 10 = .ok (.lload_n 2, 1) := by decide +kernel
theorem dJ9_max_f86c9_11 : decode cJ9_max_f86c9 11 = .ok (.lreturn, 1) := by decide +kernel
theorem dJ9_min_7cf53_0 : decode cJ9_min_7cf53 0 = .ok (.iload_n 0, 1) := by decide +kernel
theorem dJ9_min_7cf53_1 : decode cJ9_min_7cf53 1 = .ok (.iload_n 1, 1) := by decide +kernel
theorem dJ9_min_7cf53_2 : decode cJ9_min_7cf53 2 = .ok (.if_icmp .gt 7, 3) := by decide +kernel
theorem dJ9_min_7cf53_5 : decode cJ9_min_7cf53 5 = .ok (.iload_n 0, 1) := by decide +kernel
theorem dJ9_min_7cf53_6 : decode cJ9_min_7cf53 6 = .ok (.goto 4, 3) := by decide +kernel
theorem dJ9_min_7cf53_9 : decode cJ9_min_7cf53 9 = .ok (.iload_n 1, 1) := by decide +kernel
theorem dJ9_min_7cf53_10 : decode cJ9_min_7cf53 10 = .ok (.ireturn, 1) := by decide +kernel
theorem dJ9_min_f86c9_0 : decode cJ9_min_f86c9 0 = .ok (.lload_n 0, 1) := by decide +kernel
theorem dJ9_min_f86c9_1 : decode cJ9_min_f86c9 1 = .ok (.lload_n 2, 1) := by decide +kernel
theorem dJ9_min_f86c9_2 : decode cJ9_min_f86c9 2 = .ok (.lcmp, 1) := by decide +kernel
theorem dJ9_min_f86c9_3 : decode cJ9_min_f86c9 3 = .ok (.ifCond .gt 7, 3) := by decide +kernel
theorem dJ9_min_f86c9_6 : decode cJ9_min_f86c9 6 = .ok (.lload_n 0, 1) := by decide +kernel
theorem dJ9_min_f86c9_7 : decode cJ9_min_f86c9 7 = .ok (.goto 4, 3) := by decide +kernel
theorem dJ9_min_f86c9_10 : decode cJ9_min_f86c9 10 = .ok (.lload_n 2, 1) := by decide +kernel
theorem dJ9_min_f86c9_11 : decode cJ9_min_f86c9 11 = .ok (.lreturn, 1) := by decide +kernel
end
section
theorem dX10_init_0 : decode cX10_init 0 = .ok (.aload_n 0, 1) := by decide +kernel
theorem dX10_init_1 : decode cX10_init 1 = .ok (.invokespecial 5, 3) := by decide +kernel
theorem dX10_init_4 : decode cX10_init 4 = .ok (.aload_n 0, 1) := by decide +kernel
theorem dX10_init_5 : decode cX10_init 5 = .ok (.new 11, 3) := by decide +kernel
theorem dX10_init_8 : decode cX10_init 8 = .ok (.dup, 1) := by decide +kernel
theorem dX10_init_9 : decode cX10_init 9 = .ok (.invokespecial 13, 3) := by decide +kernel
theorem dX10_init_12 : decode cX10_init 12 = .ok (.putfield 14, 3) := by decide +kernel
theorem dX10_init_15 : decode cX10_init 15 = .ok (.aload_n 0, 1) := by decide +kernel
theorem dX10_init_16 : decode cX10_init 16 = .ok (.new 18, 3) := by decide +kernel
theorem dX10_init_19 : decode cX10_init 19 = .ok (.dup, 1) := by decide +kernel
theorem dX10_init_20 : decode cX10_init 20 = .ok (.aload_n 0, 1) := by decide +kernel
theorem dX10_init_21 : decode cX10_init 21 = .ok (.getfield 14, 3) := by decide +kernel
theorem dX10_init_24 : decode cX10_init 24 = .ok (.invokespecial 20, 3) := by decide +kernel
theorem dX10_init_27 : decode cX10_init 27 = .ok (.putfield 23, 3) := by decide +kernel
theorem dX10_init_30 : decode cX10_init 30 = .ok (.aload_n 0, 1) := by decide +kernel
theorem dX10_init_31 : decode cX10_init 31 = .ok (.new 27, 3) := by decide +kernel
theorem dX10_init_34 : decode cX10_init 34 = .ok (.dup, 1) := by decide +kernel
theorem dX10_init_35 : decode cX10_init 35 = .ok (.aload_n 0, 1) := by decide +kernel
theorem dX10_init_36 : decode cX10_init 36 = .ok (.getfield 14, 3) := by decide +kernel
theorem dX10_init_39 : decode cX10_init 39 = .ok (.invokespecial 29, 3) := by decide +kernel
theorem dX10_init_42 : decode cX10_init 42 = .ok (.putfield 30, 3) := by decide +kernel
theorem dX10_init_45 : decode cX10_init 45 = .ok (.aload_n 0, 1) := by decide +kernel
theorem dX10_init_46 : decode cX10_init 46 = .ok (.new 34, 3) := by decide +kernel
theorem dX10_init_49 : decode cX10_init 49 = .ok (.dup, 1) := by decide +kernel
theorem dX10_init_50 : decode cX10_init 50 = .ok (.aload_n 0, 1) := by decide +kernel
theorem dX10_init_51 : decode cX10_init 51 = .ok (.getfield 14, 3) := by decide +kernel
theorem dX10_init_54 : decode cX10_init 54 = .ok (.aload_n 0, 1) := by decide +kernel
theorem dX10_init_55 : decode cX10_init 55 = .ok (.getfield 23, 3) := by decide +kernel
theorem dX10_init_58 : decode cX10_init 58 = .ok (.aload_n 0, 1) := by decide +kernel
theorem dX10_init_59 : decode cX10_init 59 = .ok (.getfield 30, 3) := by decide +kernel
theorem dX10_init_62 : decode cX10_init 62 = .ok (.invokespecial 36, 3) := by decide +kernel
theorem dX10_init_65 : decode cX10_init 65 = .ok (.putfield 39, 3) := by decide +kernel
theorem dX10_init_68 : decode cX10_init 68 = .ok (.aload_n 0, 1) := by decide +kernel
theorem dX10_init_69 : decode cX10_init 69 = .ok (.new 43, 3) := by decide +kernel
theorem dX10_init_72 : decode cX10_init 72 = .ok (.dup, 1) := by decide +kernel
theorem dX10_init_73 : decode cX10_init 73 = .ok (.aload_n 0, 1) := by decide +kernel
theorem dX10_init_74 : decode cX10_init 74 = .ok (.getfield 14, 3) := by decide +kernel
theorem dX10_init_77 : decode cX10_init 77 = .ok (.invokespecial 45, 3) := by decide +kernel
theorem dX10_init_80 : decode cX10_init 80 = .ok (.putfield 46, 3) := by decide +kernel
theorem dX10_init_83 : decode cX10_init 83 = .ok (.aload_n 0, 1) := by decide +kernel
theorem dX10_init_84 : decode cX10_init 84 = .ok (.new 50, 3) := by decide +kernel
theorem dX10_init_87 : decode cX10_init 87 = .ok (.dup, 1) := by decide +kernel
theorem dX10_init_88 : decode cX10_init 88 = .ok (.invokespecial 52, 3) := by decide +kernel
theorem dX10_init_91 : decode cX10_init 91 = .ok (.putfield 53, 3) := by decide +kernel
theorem dX10_init_94 : decode cX10_init 94 = .ok (.aload_n 0, 1) := by decide +kernel
theorem dX10_init_95 : decode cX10_init 95 = .ok (.new 57, 3) := by decide +kernel
theorem dX10_init_98 : decode cX10_init 98 = .ok (.dup, 1) := by decide +kernel
theorem dX10_init_99 : decode cX10_init 99 = .ok (.invokespecial 59, 3) := by decide +kernel
theorem dX10_init_102 : decode cX10_init 102 = .ok (.putfield 60, 3) := by decide +kernel
theorem dX10_init_105 : decode cX10_init 105 = .ok (.aload_n 0, 1) := by decide +kernel
theorem dX10_init_106 : decode cX10_init 106 = .ok (.new 64, 3) := by decide +kernel
theorem dX10_init_109 : decode cX10_init 109 = .ok (.dup, 1) := by decide +kernel
theorem dX10_init_110 : decode cX10_init 110 = .ok (.invokespecial 66, 3) := by decide +kernel
theorem dX10_init_113 : decode cX10_init 113 = .ok (.putfield 67, 3) := by decide +kernel
theorem dX10_init_116 : decode cX10_init 116 = .ok (.return_, 1) := by decide +kernel
theorem dX10_dot_0 : decode cX10_dot 0 = .ok (.iload_n 1, 1) := by decide +kernel
theorem dX10_dot_1 : decode cX10_dot 1 = .ok (.iconst 0, 1) := by decide +kernel
theorem dX10_dot_2 : decode cX10_dot 2 = .ok (.sipush 400, 3) := by decide +kernel
theorem dX10_dot_5 : decode cX10_dot 5 = .ok (.invokestatic 71, 3) := by decide +kernel
theorem dX10_dot_8 : decode cX10_dot 8 = .ok (.ifCond .eq 40, 3) := by decide +kernel
theorem dX10_dot_11 : decode cX10_dot 11 = .ok (.iload_n 2, 1) := by decide +kernel
theorem dX10_dot_12 : decode cX10_dot 12 = .ok (.sipush (-9000), 3) := by decide +kernel
theorem dX10_dot_15 : decode cX10_dot 15 = .ok (.sipush 9000, 3) := by decide +kernel
theorem dX10_dot_18 : decode cX10_dot 18 = .ok (.invokestatic 71, 3) := by decide +kernel
theorem dX10_dot_21 : decode cX10_dot 21 = .ok (.ifCond .eq 27, 3) := by decide +kernel
theorem dX10_dot_24 : decode cX10_dot 24 = .ok (.iload_n 3, 1) := by decide +kernel
theorem dX10_dot_25 : decode cX10_dot 25 = .ok (.sipush (-9000), 3) := by decide +kernel
theorem dX10_dot_28 : decode cX10_dot 28 = .ok (.sipush 9000, 3) := by decide +kernel
theorem dX10_dot_31 : decode cX10_dot 31 = .ok (.invokestatic 71, 3) := by decide +kernel
theorem dX10_dot_34 : decode cX10_dot 34 = .ok (.ifCond .eq 14, 3) := by decide +kernel
theorem dX10_dot_37 : decode cX10_dot 37 = .ok (.iload 4, 2) := by decide +kernel
theorem dX10_dot_39 : decode cX10_dot 39 = .ok (.iconst 0, 1) := by decide +kernel
theorem dX10_dot_40 : decode cX10_dot 40 = .ok (.bipush 9, 2) := by decide +kernel
theorem dX10_dot_42 : decode cX10_dot 42 = .ok (.invokestatic 71, 3) := by decide +kernel
theorem dX10_dot_45 : decode cX10_dot 45 = .ok (.ifCond .ne 6, 3) := by decide +kernel
theorem dX10_dot_48 : decode cX10_dot 48 = .ok (.bipush (-2), 2) := by decide +kernel
theorem dX10_dot_50 : decode cX10_dot 50 = .ok (.ireturn, 1) := by decide +kernel
theorem dX10_dot_51 : decode cX10_dot 51 = .ok (.aload_n 0, 1) := by decide +kernel
theorem dX10_dot_52 : decode cX10_dot 52 = .ok (.getfield 14, 3) := by decide +kernel
theorem dX10_dot_55 : decode cX10_dot 55 = .ok (.iload_n 1, 1) := by decide +kernel
theorem dX10_dot_56 : decode cX10_dot 56 = .ok (.iload_n 2, 1) := by decide +kernel
theorem dX10_dot_57 : decode cX10_dot 57 = .ok (.iload_n 3, 1) := by decide +kernel
theorem dX10_dot_58 : decode cX10_dot 58 = .ok (.invokevirtual 75, 3) := by decide +kernel
theorem dX10_dot_61 : decode cX10_dot 61 = .ok (.istore 5, 2) := by decide +kernel
theorem dX10_dot_63 : decode cX10_dot 63 = .ok (.iload 5, 2) := by decide +kernel
theorem dX10_dot_65 : decode cX10_dot 65 = .ok (.iconst (-1), 1) := by decide +kernel
theorem dX10_dot_66 : decode cX10_dot 66 = .ok (.if_icmp .eq 6, 3) := by decide +kernel
theorem dX10_dot_69 : decode cX10_dot 69 = .ok (.iload 5, 2) := by decide +kernel
theorem dX10_dot_71 : decode cX10_dot 71 = .ok (.ireturn, 1) := by decide +kernel
theorem dX10_dot_72 : decode cX10_dot 72 = .ok (.aload_n 0, 1) := by decide +kernel
theorem dX10_dot_73 : decode cX10_dot 73 = .ok (.getfield 14, 3) := by decide +kernel
theorem dX10_dot_76 : decode cX10_dot 76 = .ok (.iload_n 1, 1) := by decide +kernel
theorem dX10_dot_77 : decode cX10_dot 77 = .ok (.iload_n 2, 1) := by decide +kernel
theorem dX10_dot_78 : decode cX10_dot 78 = .ok (.iload_n 3, 1) := by decide +kernel
theorem dX10_dot_79 : decode cX10_dot 79 = .ok (.iload 4, 2) := by decide +kernel
theorem dX10_dot_81 : decode cX10_dot 81 = .ok (.invokevirtual 79, 3) := by decide +kernel
theorem dX10_dot_84 : decode cX10_dot 84 = .ok (.istore 6, 2) := by decide +kernel
theorem dX10_dot_86 : decode cX10_dot 86 = .ok (.iload 6, 2) := by decide +kernel
theorem dX10_dot_88 : decode cX10_dot 88 = .ok (.bipush (-4), 2) := by decide +kernel
theorem dX10_dot_90 : decode cX10_dot 90 = .ok (.if_icmp .eq 17, 3) := by decide +kernel
theorem dX10_dot_93 : decode cX10_dot 93 = .ok (.aload_n 0, 1) := by decide +kernel
theorem dX10_dot_94 : decode cX10_dot 94 = .ok (.getfield 53, 3) := by decide +kernel
theorem dX10_dot_97 : decode cX10_dot 97 = .ok (.invokevirtual 83, 3) := by decide +kernel
theorem dX10_dot_100 : decode cX10_dot 100 = .ok (.aload_n 0, 1) := by decide +kernel
theorem dX10_dot_101 : decode cX10_dot 101 = .ok (.getfield 39, 3) := by decide +kernel
theorem dX10_dot_104 : decode cX10_dot 104 = .ok (.invokevirtual 86, 3) := by decide +kernel
theorem dX10_dot_107 : decode cX10_dot 107 = .ok (.iload 6, 2) := by decide +kernel
theorem dX10_dot_109 : decode cX10_dot 109 = .ok (.ireturn, 1) := by decide +kernel
theorem dX10_pace_0 : decode cX10_pace 0 = .ok (.iload_n 1, 1) := by decide +kernel
theorem dX10_pace_1 : decode cX10_pace 1 = .ok (.iconst 1, 1) := by decide +kernel
theorem dX10_pace_2 : decode cX10_pace 2 = .ok (.bipush 20, 2) := by decide +kernel
theorem dX10_pace_4 : decode cX10_pace 4 = .ok (.invokestatic 71, 3) := by decide +kernel
theorem dX10_pace_7 : decode cX10_pace 7 = .ok (.ifCond .ne 6, 3) := by decide +kernel
theorem dX10_pace_10 : decode cX10_pace 10 = .ok (.bipush (-2), 2) := by decide +kernel
theorem dX10_pace_12 : decode cX10_pace 12 = .ok (.ireturn, 1) := by decide +kernel
theorem dX10_pace_13 : decode cX10_pace 13 = .ok (.aload_n 0, 1) := by decide +kernel
theorem dX10_pace_14 : decode cX10_pace 14 = .ok (.getfield 30, 3) := by decide +kernel
theorem dX10_pace_17 : decode cX10_pace 17 = .ok (.getfield 89, 3) := by decide +kernel
theorem dX10_pace_20 : decode cX10_pace 20 = .ok (.istore_n 2, 1) := by decide +kernel
theorem dX10_pace_21 : decode cX10_pace 21 = .ok (.aload_n 0, 1) := by decide +kernel
theorem dX10_pace_22 : decode cX10_pace 22 = .ok (.getfield 30, 3) := by decide +kernel
theorem dX10_pace_25 : decode cX10_pace 25 = .ok (.iload_n 1, 1) := by decide +kernel
theorem dX10_pace_26 : decode cX10_pace 26 = .ok (.putfield 89, 3) := by decide +kernel
theorem dX10_pace_29 : decode cX10_pace 29 = .ok (.aload_n 0, 1) := by decide +kernel
theorem dX10_pace_30 : decode cX10_pace 30 = .ok (.getfield 39, 3) := by decide +kernel
theorem dX10_pace_33 : decode cX10_pace 33 = .ok (.invokevirtual 86, 3) := by decide +kernel
theorem dX10_pace_36 : decode cX10_pace 36 = .ok (.iload_n 2, 1) := by decide +kernel
theorem dX10_pace_37 : decode cX10_pace 37 = .ok (.ireturn, 1) := by decide +kernel
theorem dX10_net_0 : decode cX10_net 0 = .ok (.iload_n 1, 1) := by decide +kernel
theorem dX10_net_1 : decode cX10_net 1 = .ok (.iconst 1, 1) := by decide +kernel
theorem dX10_net_2 : decode cX10_net 2 = .ok (.bipush 50, 2) := by decide +kernel
theorem dX10_net_4 : decode cX10_net 4 = .ok (.invokestatic 71, 3) := by decide +kernel
theorem dX10_net_7 : decode cX10_net 7 = .ok (.ifCond .eq 14, 3) := by decide +kernel
theorem dX10_net_10 : decode cX10_net 10 = .ok (.iload_n 2, 1) := by decide +kernel
theorem dX10_net_11 : decode cX10_net 11 = .ok (.iconst 0, 1) := by decide +kernel
theorem dX10_net_12 : decode cX10_net 12 = .ok (.sipush 200, 3) := by decide +kernel
theorem dX10_net_15 : decode cX10_net 15 = .ok (.invokestatic 71, 3) := by decide +kernel
theorem dX10_net_18 : decode cX10_net 18 = .ok (.ifCond .ne 6, 3) := by decide +kernel
theorem dX10_net_21 : decode cX10_net 21 = .ok (.bipush (-2), 2) := by decide +kernel
theorem dX10_net_23 : decode cX10_net 23 = .ok (.ireturn, 1) := by decide +kernel
theorem dX10_net_24 : decode cX10_net 24 = .ok (.aload_n 0, 1) := by decide +kernel
theorem dX10_net_25 : decode cX10_net 25 = .ok (.getfield 23, 3) := by decide +kernel
theorem dX10_net_28 : decode cX10_net 28 = .ok (.iload_n 1, 1) := by decide +kernel
theorem dX10_net_29 : decode cX10_net 29 = .ok (.putfield 93, 3) := by decide +kernel
theorem dX10_net_32 : decode cX10_net 32 = .ok (.aload_n 0, 1) := by decide +kernel
theorem dX10_net_33 : decode cX10_net 33 = .ok (.getfield 23, 3) := by decide +kernel
theorem dX10_net_36 : decode cX10_net 36 = .ok (.iload_n 2, 1) := by decide +kernel
theorem dX10_net_37 : decode cX10_net 37 = .ok (.putfield 96, 3) := by decide +kernel
theorem dX10_net_40 : decode cX10_net 40 = .ok (.aload_n 0, 1) := by decide +kernel
theorem dX10_net_41 : decode cX10_net 41 = .ok (.getfield 39, 3) := by decide +kernel
theorem dX10_net_44 : decode cX10_net 44 = .ok (.invokevirtual 86, 3) := by decide +kernel
theorem dX10_net_47 : decode cX10_net 47 = .ok (.iconst 0, 1) := by decide +kernel
theorem dX10_net_48 : decode cX10_net 48 = .ok (.ireturn, 1) := by decide +kernel
theorem dX10_about_0 : decode cX10_about 0 = .ok (.aload_n 0, 1) := by decide +kernel
theorem dX10_about_1 : decode cX10_about 1 = .ok (.getfield 14, 3) := by decide +kernel
theorem dX10_about_4 : decode cX10_about 4 = .ok (.iload_n 1, 1) := by decide +kernel
theorem dX10_about_5 : decode cX10_about 5 = .ok (.invokevirtual 99, 3) := by decide +kernel
theorem dX10_about_8 : decode cX10_about 8 = .ok (.ifCond .ne 5, 3) := by decide +kernel
theorem dX10_about_11 : decode cX10_about 11 = .ok (.iconst (-1), 1) := by decide +kernel
theorem dX10_about_12 : decode cX10_about 12 = .ok (.ireturn, 1) := by decide +kernel
theorem dX10_about_13 : decode cX10_about 13 = .ok (.iload_n 2, 1) := by decide +kernel
theorem dX10_about_14 : decode cX10_about 14 = .ok (.tableswitch 97 0 5 #[38, 48, 58, 68, 78, 87], 38) := by decide +kernel
theorem dX10_about_52 : decode cX10_about 52 = .ok (.aload_n 0, 1) := by decide +kernel
theorem dX10_about_53 : decode cX10_about 53 = .ok (.getfield 14, 3) := by decide +kernel
theorem dX10_about_56 : decode cX10_about 56 = .ok (.getfield 103, 3) := by decide +kernel
theorem dX10_about_59 : decode cX10_about 59 = .ok (.iload_n 1, 1) := by decide +kernel
theorem dX10_about_60 : decode cX10_about 60 = .ok (.iaload, 1) := by decide +kernel
theorem dX10_about_61 : decode cX10_about 61 = .ok (.ireturn, 1) := by decide +kernel
theorem dX10_about_62 : decode cX10_about 62 = .ok (.aload_n 0, 1) := by decide +kernel
theorem dX10_about_63 : decode cX10_about 63 = .ok (.getfield 14, 3) := by decide +kernel
theorem dX10_about_66 : decode cX10_about 66 = .ok (.getfield 107, 3) := by decide +kernel
theorem dX10_about_69 : decode cX10_about 69 = .ok (.iload_n 1, 1) := by decide +kernel
theorem dX10_about_70 : decode cX10_about 70 = .ok (.iaload, 1) := by decide +kernel
theorem dX10_about_71 : decode cX10_about 71 = .ok (.ireturn, 1) := by decide +kernel
theorem dX10_about_72 : decode cX10_about 72 = .ok (.aload_n 0, 1) := by decide +kernel
theorem dX10_about_73 : decode cX10_about 73 = .ok (.getfield 14, 3) := by decide +kernel
theorem dX10_about_76 : decode cX10_about 76 = .ok (.getfield 110, 3) := by decide +kernel
theorem dX10_about_79 : decode cX10_about 79 = .ok (.iload_n 1, 1) := by decide +kernel
theorem dX10_about_80 : decode cX10_about 80 = .ok (.iaload, 1) := by decide +kernel
theorem dX10_about_81 : decode cX10_about 81 = .ok (.ireturn, 1) := by decide +kernel
theorem dX10_about_82 : decode cX10_about 82 = .ok (.aload_n 0, 1) := by decide +kernel
theorem dX10_about_83 : decode cX10_about 83 = .ok (.getfield 14, 3) := by decide +kernel
theorem dX10_about_86 : decode cX10_about 86 = .ok (.getfield 113, 3) := by decide +kernel
theorem dX10_about_89 : decode cX10_about 89 = .ok (.iload_n 1, 1) := by decide +kernel
theorem dX10_about_90 : decode cX10_about 90 = .ok (.iaload, 1) := by decide +kernel
theorem dX10_about_91 : decode cX10_about 91 = .ok (.ireturn, 1) := by decide +kernel
theorem dX10_about_92 : decode cX10_about 92 = .ok (.aload_n 0, 1) := by decide +kernel
theorem dX10_about_93 : decode cX10_about 93 = .ok (.getfield 14, 3) := by decide +kernel
theorem dX10_about_96 : decode cX10_about 96 = .ok (.iload_n 1, 1) := by decide +kernel
theorem dX10_about_97 : decode cX10_about 97 = .ok (.invokevirtual 116, 3) := by decide +kernel
theorem dX10_about_100 : decode cX10_about 100 = .ok (.ireturn, 1) := by decide +kernel
theorem dX10_about_101 : decode cX10_about 101 = .ok (.aload_n 0, 1) := by decide +kernel
theorem dX10_about_102 : decode cX10_about 102 = .ok (.getfield 14, 3) := by decide +kernel
theorem dX10_about_105 : decode cX10_about 105 = .ok (.getfield 120, 3) := by decide +kernel
theorem dX10_about_108 : decode cX10_about 108 = .ok (.iload_n 1, 1) := by decide +kernel
theorem dX10_about_109 : decode cX10_about 109 = .ok (.iaload, 1) := by decide +kernel
theorem dX10_about_110 : decode cX10_about 110 = .ok (.ireturn, 1) := by decide +kernel
theorem dX10_about_111 : decode cX10_about 111 = .ok (.iconst (-1), 1) := by decide +kernel
theorem dX10_about_112 : decode cX10_about 112 = .ok (.ireturn, 1) := by decide +kernel
theorem dX10_bits_0 : decode cX10_bits 0 = .ok (.aload_n 0, 1) := by decide +kernel
theorem dX10_bits_1 : decode cX10_bits 1 = .ok (.getfield 30, 3) := by decide +kernel
theorem dX10_bits_4 : decode cX10_bits 4 = .ok (.invokevirtual 123, 3) := by decide +kernel
theorem dX10_bits_7 : decode cX10_bits 7 = .ok (.ireturn, 1) := by decide +kernel
theorem dX10_bit_0 : decode cX10_bit 0 = .ok (.iload_n 2, 1) := by decide +kernel
theorem dX10_bit_1 : decode cX10_bit 1 = .ok (.iconst 0, 1) := by decide +kernel
theorem dX10_bit_2 : decode cX10_bit 2 = .ok (.iconst 1, 1) := by decide +kernel
theorem dX10_bit_3 : decode cX10_bit 3 = .ok (.invokestatic 71, 3) := by decide +kernel
theorem dX10_bit_6 : decode cX10_bit 6 = .ok (.ifCond .eq 14, 3) := by decide +kernel
theorem dX10_bit_9 : decode cX10_bit 9 = .ok (.aload_n 0, 1) := by decide +kernel
theorem dX10_bit_10 : decode cX10_bit 10 = .ok (.getfield 30, 3) := by decide +kernel
theorem dX10_bit_13 : decode cX10_bit 13 = .ok (.iload_n 1, 1) := by decide +kernel
theorem dX10_bit_14 : decode cX10_bit 14 = .ok (.invokevirtual 127, 3) := by decide +kernel
theorem dX10_bit_17 : decode cX10_bit 17 = .ok (.ifCond .ne 5, 3) := by decide +kernel
theorem dX10_bit_20 : decode cX10_bit 20 = .ok (.iconst (-1), 1) := by decide +kernel
theorem dX10_bit_21 : decode cX10_bit 21 = .ok (.ireturn, 1) := by decide +kernel
theorem dX10_bit_22 : decode cX10_bit 22 = .ok (.iload_n 2, 1) := by decide +kernel
theorem dX10_bit_23 : decode cX10_bit 23 = .ok (.ifCond .ne 13, 3) := by decide +kernel
theorem dX10_bit_26 : decode cX10_bit 26 = .ok (.aload_n 0, 1) := by decide +kernel
theorem dX10_bit_27 : decode cX10_bit 27 = .ok (.getfield 30, 3) := by decide +kernel
theorem dX10_bit_30 : decode cX10_bit 30 = .ok (.getfield 130, 3) := by decide +kernel
theorem dX10_bit_33 : decode cX10_bit 33 = .ok (.goto 10, 3) := by decide +kernel
theorem dX10_bit_36 : decode cX10_bit 36 = .ok (.aload_n 0, 1) := by decide +kernel
theorem dX10_bit_37 : decode cX10_bit 37 = .ok (.getfield 30, 3) := by decide +kernel
theorem dX10_bit_40 : decode cX10_bit 40 = .ok (.getfield 133, 3) := by decide +kernel
theorem dX10_bit_43 : decode cX10_bit 43 = .ok (.ireturn, 1) := by decide +kernel
theorem dX10_pairs_0 : decode cX10_pairs 0 = .ok (.aload_n 0, 1) := by decide +kernel
theorem dX10_pairs_1 : decode cX10_pairs 1 = .ok (.getfield 39, 3) := by decide +kernel
theorem dX10_pairs_4 : decode cX10_pairs 4 = .ok (.invokevirtual 136, 3) := by decide +kernel
theorem dX10_pairs_7 : decode cX10_pairs 7 = .ok (.ireturn, 1) := by decide +kernel
theorem dX10_pair_0 : decode cX10_pair 0 = .ok (.iload_n 2, 1) := by decide +kernel
theorem dX10_pair_1 : decode cX10_pair 1 = .ok (.iconst 0, 1) := by decide +kernel
theorem dX10_pair_2 : decode cX10_pair 2 = .ok (.iconst 1, 1) := by decide +kernel
theorem dX10_pair_3 : decode cX10_pair 3 = .ok (.invokestatic 71, 3) := by decide +kernel
theorem dX10_pair_6 : decode cX10_pair 6 = .ok (.ifCond .eq 20, 3) := by decide +kernel
theorem dX10_pair_9 : decode cX10_pair 9 = .ok (.iload_n 1, 1) := by decide +kernel
theorem dX10_pair_10 : decode cX10_pair 10 = .ok (.iconst 0, 1) := by decide +kernel
theorem dX10_pair_11 : decode cX10_pair 11 = .ok (.aload_n 0, 1) := by decide +kernel
theorem dX10_pair_12 : decode cX10_pair 12 = .ok (.getfield 39, 3) := by decide +kernel
theorem dX10_pair_15 : decode cX10_pair 15 = .ok (.invokevirtual 136, 3) := by decide +kernel
theorem dX10_pair_18 : decode cX10_pair 18 = .ok (.iconst 1, 1) := by decide +kernel
theorem dX10_pair_19 : decode cX10_pair 19 = .ok (.isub, 1) := by decide +kernel
theorem dX10_pair_20 : decode cX10_pair 20 = .ok (.invokestatic 71, 3) := by decide +kernel
theorem dX10_pair_23 : decode cX10_pair 23 = .ok (.ifCond .ne 5, 3) := by decide +kernel
theorem dX10_pair_26 : decode cX10_pair 26 = .ok (.iconst (-1), 1) := by decide +kernel
theorem dX10_pair_27 : decode cX10_pair 27 = .ok (.ireturn, 1) := by decide +kernel
theorem dX10_pair_28 : decode cX10_pair 28 = .ok (.iload_n 2, 1) := by decide +kernel
theorem dX10_pair_29 : decode cX10_pair 29 = .ok (.ifCond .ne 15, 3) := by decide +kernel
theorem dX10_pair_32 : decode cX10_pair 32 = .ok (.aload_n 0, 1) := by decide +kernel
theorem dX10_pair_33 : decode cX10_pair 33 = .ok (.getfield 39, 3) := by decide +kernel
theorem dX10_pair_36 : decode cX10_pair 36 = .ok (.getfield 137, 3) := by decide +kernel
theorem dX10_pair_39 : decode cX10_pair 39 = .ok (.iload_n 1, 1) := by decide +kernel
theorem dX10_pair_40 : decode cX10_pair 40 = .ok (.iaload, 1) := by decide +kernel
theorem dX10_pair_41 : decode cX10_pair 41 = .ok (.goto 12, 3) := by decide +kernel
theorem dX10_pair_44 : decode cX10_pair 44 = .ok (.aload_n 0, 1) := by decide +kernel
theorem dX10_pair_45 : decode cX10_pair 45 = .ok (.getfield 39, 3) := by decide +kernel
theorem dX10_pair_48 : decode cX10_pair 48 = .ok (.getfield 140, 3) := by decide +kernel
theorem dX10_pair_51 : decode cX10_pair 51 = .ok (.iload_n 1, 1) := by decide +kernel
theorem dX10_pair_52 : decode cX10_pair 52 = .ok (.iaload, 1) := by decide +kernel
theorem dX10_pair_53 : decode cX10_pair 53 = .ok (.ireturn, 1) := by decide +kernel
theorem dX10_start_0 : decode cX10_start 0 = .ok (.iload_n 1, 1) := by decide +kernel
theorem dX10_start_1 : decode cX10_start 1 = .ok (.iconst 0, 1) := by decide +kernel
theorem dX10_start_2 : decode cX10_start 2 = .ok (.aload_n 0, 1) := by decide +kernel
theorem dX10_start_3 : decode cX10_start 3 = .ok (.getfield 39, 3) := by decide +kernel
theorem dX10_start_6 : decode cX10_start 6 = .ok (.invokevirtual 136, 3) := by decide +kernel
theorem dX10_start_9 : decode cX10_start 9 = .ok (.iconst 1, 1) := by decide +kernel
theorem dX10_start_10 : decode cX10_start 10 = .ok (.isub, 1) := by decide +kernel
theorem dX10_start_11 : decode cX10_start 11 = .ok (.invokestatic 71, 3) := by decide +kernel
theorem dX10_start_14 : decode cX10_start 14 = .ok (.ifCond .ne 5, 3) := by decide +kernel
theorem dX10_start_17 : decode cX10_start 17 = .ok (.iconst (-1), 1) := by decide +kernel
theorem dX10_start_18 : decode cX10_start 18 = .ok (.ireturn, 1) := by decide +kernel
theorem dX10_start_19 : decode cX10_start 19 = .ok (.iload_n 2, 1) := by decide +kernel
theorem dX10_start_20 : decode cX10_start 20 = .ok (.invokestatic 143, 3) := by decide +kernel
theorem dX10_start_23 : decode cX10_start 23 = .ok (.ifCond .ne 6, 3) := by decide +kernel
theorem dX10_start_26 : decode cX10_start 26 = .ok (.bipush (-2), 2) := by decide +kernel
theorem dX10_start_28 : decode cX10_start 28 = .ok (.ireturn, 1) := by decide +kernel
theorem dX10_start_29 : decode cX10_start 29 = .ok (.aload_n 0, 1) := by decide +kernel
theorem dX10_start_30 : decode cX10_start 30 = .ok (.getfield 39, 3) := by decide +kernel
theorem dX10_start_33 : decode cX10_start 33 = .ok (.aload_n 0, 1) := by decide +kernel
theorem dX10_start_34 : decode cX10_start 34 = .ok (.getfield 39, 3) := by decide +kernel
theorem dX10_start_37 : decode cX10_start 37 = .ok (.getfield 137, 3) := by decide +kernel
theorem dX10_start_40 : decode cX10_start 40 = .ok (.iload_n 1, 1) := by decide +kernel
theorem dX10_start_41 : decode cX10_start 41 = .ok (.iaload, 1) := by decide +kernel
theorem dX10_start_42 : decode cX10_start 42 = .ok (.aload_n 0, 1) := by decide +kernel
theorem dX10_start_43 : decode cX10_start 43 = .ok (.getfield 39, 3) := by decide +kernel
theorem dX10_start_46 : decode cX10_start 46 = .ok (.getfield 140, 3) := by decide +kernel
theorem dX10_start_49 : decode cX10_start 49 = .ok (.iload_n 1, 1) := by decide +kernel
theorem dX10_start_50 : decode cX10_start 50 = .ok (.iaload, 1) := by decide +kernel
theorem dX10_start_51 : decode cX10_start 51 = .ok (.aload_n 0, 1) := by decide +kernel
theorem dX10_start_52 : decode cX10_start 52 = .ok (.getfield 67, 3) := by decide +kernel
theorem dX10_start_55 : decode cX10_start 55 = .ok (.invokevirtual 146, 3) := by decide +kernel
theorem dX10_start_58 : decode cX10_start 58 = .ok (.aload_n 0, 1) := by decide +kernel
theorem dX10_start_59 : decode cX10_start 59 = .ok (.iload_n 2, 1) := by decide +kernel
theorem dX10_start_60 : decode cX10_start 60 = .ok (.invokevirtual 150, 3) := by decide +kernel
theorem dX10_start_63 : decode cX10_start 63 = .ok (.ireturn, 1) := by decide +kernel
theorem dX10_single_0 : decode cX10_single 0 = .ok (.aload_n 0, 1) := by decide +kernel
theorem dX10_single_1 : decode cX10_single 1 = .ok (.getfield 14, 3) := by decide +kernel
theorem dX10_single_4 : decode cX10_single 4 = .ok (.iload_n 1, 1) := by decide +kernel
theorem dX10_single_5 : decode cX10_single 5 = .ok (.invokevirtual 99, 3) := by decide +kernel
theorem dX10_single_8 : decode cX10_single 8 = .ok (.ifCond .ne 5, 3) := by decide +kernel
theorem dX10_single_11 : decode cX10_single 11 = .ok (.iconst (-1), 1) := by decide +kernel
theorem dX10_single_12 : decode cX10_single 12 = .ok (.ireturn, 1) := by decide +kernel
theorem dX10_single_13 : decode cX10_single 13 = .ok (.iload_n 2, 1) := by decide +kernel
theorem dX10_single_14 : decode cX10_single 14 = .ok (.invokestatic 143, 3) := by decide +kernel
theorem dX10_single_17 : decode cX10_single 17 = .ok (.ifCond .ne 6, 3) := by decide +kernel
theorem dX10_single_20 : decode cX10_single 20 = .ok (.bipush (-2), 2) := by decide +kernel
theorem dX10_single_22 : decode cX10_single 22 = .ok (.ireturn, 1) := by decide +kernel
theorem dX10_single_23 : decode cX10_single 23 = .ok (.aload_n 0, 1) := by decide +kernel
theorem dX10_single_24 : decode cX10_single 24 = .ok (.getfield 67, 3) := by decide +kernel
theorem dX10_single_27 : decode cX10_single 27 = .ok (.invokevirtual 153, 3) := by decide +kernel
theorem dX10_single_30 : decode cX10_single 30 = .ok (.aload_n 0, 1) := by decide +kernel
theorem dX10_single_31 : decode cX10_single 31 = .ok (.getfield 67, 3) := by decide +kernel
theorem dX10_single_34 : decode cX10_single 34 = .ok (.iload_n 1, 1) := by decide +kernel
theorem dX10_single_35 : decode cX10_single 35 = .ok (.invokevirtual 156, 3) := by decide +kernel
theorem dX10_single_38 : decode cX10_single 38 = .ok (.aload_n 0, 1) := by decide +kernel
theorem dX10_single_39 : decode cX10_single 39 = .ok (.getfield 14, 3) := by decide +kernel
theorem dX10_single_42 : decode cX10_single 42 = .ok (.iload_n 1, 1) := by decide +kernel
theorem dX10_single_43 : decode cX10_single 43 = .ok (.invokevirtual 159, 3) := by decide +kernel
theorem dX10_single_46 : decode cX10_single 46 = .ok (.ifCond .eq 17, 3) := by decide +kernel
theorem dX10_single_49 : decode cX10_single 49 = .ok (.aload_n 0, 1) := by decide +kernel
theorem dX10_single_50 : decode cX10_single 50 = .ok (.getfield 23, 3) := by decide +kernel
theorem dX10_single_53 : decode cX10_single 53 = .ok (.aload_n 0, 1) := by decide +kernel
theorem dX10_single_54 : decode cX10_single 54 = .ok (.getfield 67, 3) := by decide +kernel
theorem dX10_single_57 : decode cX10_single 57 = .ok (.invokevirtual 162, 3) := by decide +kernel
theorem dX10_single_60 : decode cX10_single 60 = .ok (.ifCond .ne 6, 3) := by decide +kernel
theorem dX10_single_63 : decode cX10_single 63 = .ok (.bipush (-3), 2) := by decide +kernel
theorem dX10_single_65 : decode cX10_single 65 = .ok (.ireturn, 1) := by decide +kernel
theorem dX10_single_66 : decode cX10_single 66 = .ok (.aload_n 0, 1) := by decide +kernel
theorem dX10_single_67 : decode cX10_single 67 = .ok (.iload_n 2, 1) := by decide +kernel
theorem dX10_single_68 : decode cX10_single 68 = .ok (.invokevirtual 150, 3) := by decide +kernel
theorem dX10_single_71 : decode cX10_single 71 = .ok (.ireturn, 1) := by decide +kernel
theorem dX10_join_0 : decode cX10_join 0 = .ok (.aload_n 0, 1) := by decide +kernel
theorem dX10_join_1 : decode cX10_join 1 = .ok (.getfield 46, 3) := by decide +kernel
theorem dX10_join_4 : decode cX10_join 4 = .ok (.iload_n 1, 1) := by decide +kernel
theorem dX10_join_5 : decode cX10_join 5 = .ok (.invokevirtual 166, 3) := by decide +kernel
theorem dX10_join_8 : decode cX10_join 8 = .ok (.ifCond .eq 14, 3) := by decide +kernel
theorem dX10_join_11 : decode cX10_join 11 = .ok (.aload_n 0, 1) := by decide +kernel
theorem dX10_join_12 : decode cX10_join 12 = .ok (.getfield 14, 3) := by decide +kernel
theorem dX10_join_15 : decode cX10_join 15 = .ok (.iload_n 2, 1) := by decide +kernel
theorem dX10_join_16 : decode cX10_join 16 = .ok (.invokevirtual 99, 3) := by decide +kernel
theorem dX10_join_19 : decode cX10_join 19 = .ok (.ifCond .ne 5, 3) := by decide +kernel
theorem dX10_join_22 : decode cX10_join 22 = .ok (.iconst (-1), 1) := by decide +kernel
theorem dX10_join_23 : decode cX10_join 23 = .ok (.ireturn, 1) := by decide +kernel
theorem dX10_join_24 : decode cX10_join 24 = .ok (.aload_n 0, 1) := by decide +kernel
theorem dX10_join_25 : decode cX10_join 25 = .ok (.getfield 14, 3) := by decide +kernel
theorem dX10_join_28 : decode cX10_join 28 = .ok (.iload_n 2, 1) := by decide +kernel
theorem dX10_join_29 : decode cX10_join 29 = .ok (.invokevirtual 159, 3) := by decide +kernel
theorem dX10_join_32 : decode cX10_join 32 = .ok (.ifCond .ne 6, 3) := by decide +kernel
theorem dX10_join_35 : decode cX10_join 35 = .ok (.bipush (-3), 2) := by decide +kernel
theorem dX10_join_37 : decode cX10_join 37 = .ok (.ireturn, 1) := by decide +kernel
theorem dX10_join_38 : decode cX10_join 38 = .ok (.aload_n 0, 1) := by decide +kernel
theorem dX10_join_39 : decode cX10_join 39 = .ok (.getfield 67, 3) := by decide +kernel
theorem dX10_join_42 : decode cX10_join 42 = .ok (.aload_n 0, 1) := by decide +kernel
theorem dX10_join_43 : decode cX10_join 43 = .ok (.getfield 46, 3) := by decide +kernel
theorem dX10_join_46 : decode cX10_join 46 = .ok (.getfield 167, 3) := by decide +kernel
theorem dX10_join_49 : decode cX10_join 49 = .ok (.iload_n 1, 1) := by decide +kernel
theorem dX10_join_50 : decode cX10_join 50 = .ok (.aaload, 1) := by decide +kernel
theorem dX10_join_51 : decode cX10_join 51 = .ok (.getfield 171, 3) := by decide +kernel
theorem dX10_join_54 : decode cX10_join 54 = .ok (.invokevirtual 176, 3) := by decide +kernel
theorem dX10_join_57 : decode cX10_join 57 = .ok (.aload_n 0, 1) := by decide +kernel
theorem dX10_join_58 : decode cX10_join 58 = .ok (.getfield 67, 3) := by decide +kernel
theorem dX10_join_61 : decode cX10_join 61 = .ok (.iload_n 2, 1) := by decide +kernel
theorem dX10_join_62 : decode cX10_join 62 = .ok (.invokevirtual 156, 3) := by decide +kernel
theorem dX10_join_65 : decode cX10_join 65 = .ok (.aload_n 0, 1) := by decide +kernel
theorem dX10_join_66 : decode cX10_join 66 = .ok (.iload_n 1, 1) := by decide +kernel
theorem dX10_join_67 : decode cX10_join 67 = .ok (.invokevirtual 180, 3) := by decide +kernel
theorem dX10_join_70 : decode cX10_join 70 = .ok (.ireturn, 1) := by decide +kernel
theorem dX10_joinBit_0 : decode cX10_joinBit 0 = .ok (.aload_n 0, 1) := by decide +kernel
theorem dX10_joinBit_1 : decode cX10_joinBit 1 = .ok (.getfield 46, 3) := by decide +kernel
theorem dX10_joinBit_4 : decode cX10_joinBit 4 = .ok (.iload_n 1, 1) := by decide +kernel
theorem dX10_joinBit_5 : decode cX10_joinBit 5 = .ok (.invokevirtual 166, 3) := by decide +kernel
theorem dX10_joinBit_8 : decode cX10_joinBit 8 = .ok (.ifCond .eq 14, 3) := by decide +kernel
theorem dX10_joinBit_11 : decode cX10_joinBit 11 = .ok (.aload_n 0, 1) := by decide +kernel
theorem dX10_joinBit_12 : decode cX10_joinBit 12 = .ok (.getfield 30, 3) := by decide +kernel
theorem dX10_joinBit_15 : decode cX10_joinBit 15 = .ok (.iload_n 2, 1) := by decide +kernel
theorem dX10_joinBit_16 : decode cX10_joinBit 16 = .ok (.invokevirtual 127, 3) := by decide +kernel
theorem dX10_joinBit_19 : decode cX10_joinBit 19 = .ok (.ifCond .ne 5, 3) := by decide +kernel
theorem dX10_joinBit_22 : decode cX10_joinBit 22 = .ok (.iconst (-1), 1) := by decide +kernel
theorem dX10_joinBit_23 : decode cX10_joinBit 23 = .ok (.ireturn, 1) := by decide +kernel
theorem dX10_joinBit_24 : decode cX10_joinBit 24 = .ok (.aload_n 0, 1) := by decide +kernel
theorem dX10_joinBit_25 : decode cX10_joinBit 25 = .ok (.getfield 67, 3) := by decide +kernel
theorem dX10_joinBit_28 : decode cX10_joinBit 28 = .ok (.aload_n 0, 1) := by decide +kernel
theorem dX10_joinBit_29 : decode cX10_joinBit 29 = .ok (.getfield 46, 3) := by decide +kernel
theorem dX10_joinBit_32 : decode cX10_joinBit 32 = .ok (.getfield 167, 3) := by decide +kernel
theorem dX10_joinBit_35 : decode cX10_joinBit 35 = .ok (.iload_n 1, 1) := by decide +kernel
theorem dX10_joinBit_36 : decode cX10_joinBit 36 = .ok (.aaload, 1) := by decide +kernel
theorem dX10_joinBit_37 : decode cX10_joinBit 37 = .ok (.getfield 171, 3) := by decide +kernel
theorem dX10_joinBit_40 : decode cX10_joinBit 40 = .ok (.invokevirtual 176, 3) := by decide +kernel
theorem dX10_joinBit_43 : decode cX10_joinBit 43 = .ok (.aload_n 0, 1) := by decide +kernel
theorem dX10_joinBit_44 : decode cX10_joinBit 44 = .ok (.getfield 67, 3) := by decide +kernel
theorem dX10_joinBit_47 : decode cX10_joinBit 47 = .ok (.aload_n 0, 1) := by decide +kernel
theorem dX10_joinBit_48 : decode cX10_joinBit 48 = .ok (.getfield 30, 3) := by decide +kernel
theorem dX10_joinBit_51 : decode cX10_joinBit 51 = .ok (.getfield 130, 3) := by decide +kernel
theorem dX10_joinBit_54 : decode cX10_joinBit 54 = .ok (.invokevirtual 156, 3) := by decide +kernel
theorem dX10_joinBit_57 : decode cX10_joinBit 57 = .ok (.aload_n 0, 1) := by decide +kernel
theorem dX10_joinBit_58 : decode cX10_joinBit 58 = .ok (.getfield 67, 3) := by decide +kernel
theorem dX10_joinBit_61 : decode cX10_joinBit 61 = .ok (.aload_n 0, 1) := by decide +kernel
theorem dX10_joinBit_62 : decode cX10_joinBit 62 = .ok (.getfield 30, 3) := by decide +kernel
theorem dX10_joinBit_65 : decode cX10_joinBit 65 = .ok (.getfield 133, 3) := by decide +kernel
theorem dX10_joinBit_68 : decode cX10_joinBit 68 = .ok (.invokevirtual 156, 3) := by decide +kernel
theorem dX10_joinBit_71 : decode cX10_joinBit 71 = .ok (.aload_n 0, 1) := by decide +kernel
theorem dX10_joinBit_72 : decode cX10_joinBit 72 = .ok (.iload_n 1, 1) := by decide +kernel
theorem dX10_joinBit_73 : decode cX10_joinBit 73 = .ok (.invokevirtual 180, 3) := by decide +kernel
theorem dX10_joinBit_76 : decode cX10_joinBit 76 = .ok (.ireturn, 1) := by decide +kernel
theorem dX10_force_0 : decode cX10_force 0 = .ok (.aload_n 0, 1) := by decide +kernel
theorem dX10_force_1 : decode cX10_force 1 = .ok (.getfield 46, 3) := by decide +kernel
theorem dX10_force_4 : decode cX10_force 4 = .ok (.iload_n 1, 1) := by decide +kernel
theorem dX10_force_5 : decode cX10_force 5 = .ok (.invokevirtual 166, 3) := by decide +kernel
theorem dX10_force_8 : decode cX10_force 8 = .ok (.ifCond .eq 14, 3) := by decide +kernel
theorem dX10_force_11 : decode cX10_force 11 = .ok (.aload_n 0, 1) := by decide +kernel
theorem dX10_force_12 : decode cX10_force 12 = .ok (.getfield 14, 3) := by decide +kernel
theorem dX10_force_15 : decode cX10_force 15 = .ok (.iload_n 2, 1) := by decide +kernel
theorem dX10_force_16 : decode cX10_force 16 = .ok (.invokevirtual 99, 3) := by decide +kernel
theorem dX10_force_19 : decode cX10_force 19 = .ok (.ifCond .ne 5, 3) := by decide +kernel
theorem dX10_force_22 : decode cX10_force 22 = .ok (.iconst (-1), 1) := by decide +kernel
theorem dX10_force_23 : decode cX10_force 23 = .ok (.ireturn, 1) := by decide +kernel
theorem dX10_force_24 : decode cX10_force 24 = .ok (.aload_n 0, 1) := by decide +kernel
theorem dX10_force_25 : decode cX10_force 25 = .ok (.getfield 14, 3) := by decide +kernel
theorem dX10_force_28 : decode cX10_force 28 = .ok (.iload_n 2, 1) := by decide +kernel
theorem dX10_force_29 : decode cX10_force 29 = .ok (.invokevirtual 159, 3) := by decide +kernel
theorem dX10_force_32 : decode cX10_force 32 = .ok (.ifCond .ne 6, 3) := by decide +kernel
theorem dX10_force_35 : decode cX10_force 35 = .ok (.bipush (-3), 2) := by decide +kernel
theorem dX10_force_37 : decode cX10_force 37 = .ok (.ireturn, 1) := by decide +kernel
theorem dX10_force_38 : decode cX10_force 38 = .ok (.aload_n 0, 1) := by decide +kernel
theorem dX10_force_39 : decode cX10_force 39 = .ok (.getfield 67, 3) := by decide +kernel
theorem dX10_force_42 : decode cX10_force 42 = .ok (.aload_n 0, 1) := by decide +kernel
theorem dX10_force_43 : decode cX10_force 43 = .ok (.getfield 46, 3) := by decide +kernel
theorem dX10_force_46 : decode cX10_force 46 = .ok (.getfield 167, 3) := by decide +kernel
theorem dX10_force_49 : decode cX10_force 49 = .ok (.iload_n 1, 1) := by decide +kernel
theorem dX10_force_50 : decode cX10_force 50 = .ok (.aaload, 1) := by decide +kernel
theorem dX10_force_51 : decode cX10_force 51 = .ok (.getfield 171, 3) := by decide +kernel
theorem dX10_force_54 : decode cX10_force 54 = .ok (.invokevirtual 176, 3) := by decide +kernel
theorem dX10_force_57 : decode cX10_force 57 = .ok (.aload_n 0, 1) := by decide +kernel
theorem dX10_force_58 : decode cX10_force 58 = .ok (.getfield 67, 3) := by decide +kernel
theorem dX10_force_61 : decode cX10_force 61 = .ok (.iload_n 2, 1) := by decide +kernel
theorem dX10_force_62 : decode cX10_force 62 = .ok (.invokevirtual 156, 3) := by decide +kernel
theorem dX10_force_65 : decode cX10_force 65 = .ok (.aload_n 0, 1) := by decide +kernel
theorem dX10_force_66 : decode cX10_force 66 = .ok (.getfield 67, 3) := by decide +kernel
theorem dX10_force_69 : decode cX10_force 69 = .ok (.getfield 183, 3) := by decide +kernel
theorem dX10_force_72 : decode cX10_force 72 = .ok (.bipush 8, 2) := by decide +kernel
theorem dX10_force_74 : decode cX10_force 74 = .ok (.if_icmp .le 8, 3) := by decide +kernel
theorem dX10_force_77 : decode cX10_force 77 = .ok (.bipush (-4), 2) := by decide +kernel
theorem dX10_force_79 : decode cX10_force 79 = .ok (.goto 8, 3) := by decide +kernel
theorem dX10_force_82 : decode cX10_force 82 = .ok (.aload_n 0, 1) := by decide +kernel
theorem dX10_force_83 : decode cX10_force 83 = .ok (.iload_n 1, 1) := by decide +kernel
theorem dX10_force_84 : decode cX10_force 84 = .ok (.invokevirtual 186, 3) := by decide +kernel
theorem dX10_force_87 : decode cX10_force 87 = .ok (.ireturn, 1) := by decide +kernel
theorem dX10_path_0 : decode cX10_path 0 = .ok (.iload_n 1, 1) := by decide +kernel
theorem dX10_path_1 : decode cX10_path 1 = .ok (.iconst 0, 1) := by decide +kernel
theorem dX10_path_2 : decode cX10_path 2 = .ok (.aload_n 0, 1) := by decide +kernel
theorem dX10_path_3 : decode cX10_path 3 = .ok (.getfield 46, 3) := by decide +kernel
theorem dX10_path_6 : decode cX10_path 6 = .ok (.getfield 189, 3) := by decide +kernel
theorem dX10_path_9 : decode cX10_path 9 = .ok (.iconst 1, 1) := by decide +kernel
theorem dX10_path_10 : decode cX10_path 10 = .ok (.isub, 1) := by decide +kernel
theorem dX10_path_11 : decode cX10_path 11 = .ok (.invokestatic 71, 3) := by decide +kernel
theorem dX10_path_14 : decode cX10_path 14 = .ok (.ifCond .ne 5, 3) := by decide +kernel
theorem dX10_path_17 : decode cX10_path 17 = .ok (.iconst (-1), 1) := by decide +kernel
theorem dX10_path_18 : decode cX10_path 18 = .ok (.ireturn, 1) := by decide +kernel
theorem dX10_path_19 : decode cX10_path 19 = .ok (.aload_n 0, 1) := by decide +kernel
theorem dX10_path_20 : decode cX10_path 20 = .ok (.getfield 46, 3) := by decide +kernel
theorem dX10_path_23 : decode cX10_path 23 = .ok (.getfield 167, 3) := by decide +kernel
theorem dX10_path_26 : decode cX10_path 26 = .ok (.iload_n 1, 1) := by decide +kernel
theorem dX10_path_27 : decode cX10_path 27 = .ok (.aaload, 1) := by decide +kernel
theorem dX10_path_28 : decode cX10_path 28 = .ok (.astore_n 3, 1) := by decide +kernel
theorem dX10_path_29 : decode cX10_path 29 = .ok (.iload_n 2, 1) := by decide +kernel
theorem dX10_path_30 : decode cX10_path 30 = .ok (.tableswitch 94 0 3 #[30, 35, 54, 81], 30) := by decide +kernel
theorem dX10_path_60 : decode cX10_path 60 = .ok (.aload_n 3, 1) := by decide +kernel
theorem dX10_path_61 : decode cX10_path 61 = .ok (.getfield 192, 3) := by decide +kernel
theorem dX10_path_64 : decode cX10_path 64 = .ok (.ireturn, 1) := by decide +kernel
theorem dX10_path_65 : decode cX10_path 65 = .ok (.aload_n 3, 1) := by decide +kernel
theorem dX10_path_66 : decode cX10_path 66 = .ok (.getfield 195, 3) := by decide +kernel
theorem dX10_path_69 : decode cX10_path 69 = .ok (.ifCond .eq 7, 3) := by decide +kernel
theorem dX10_path_72 : decode cX10_path 72 = .ok (.iconst 0, 1) := by decide +kernel
theorem dX10_path_73 : decode cX10_path 73 = .ok (.goto 10, 3) := by decide +kernel
theorem dX10_path_76 : decode cX10_path 76 = .ok (.aload_n 3, 1) := by decide +kernel
theorem dX10_path_77 : decode cX10_path 77 = .ok (.getfield 171, 3) := by decide +kernel
theorem dX10_path_80 : decode cX10_path 80 = .ok (.getfield 183, 3) := by decide +kernel
theorem dX10_path_83 : decode cX10_path 83 = .ok (.ireturn, 1) := by decide +kernel
theorem dX10_path_84 : decode cX10_path 84 = .ok (.aload_n 3, 1) := by decide +kernel
theorem dX10_path_85 : decode cX10_path 85 = .ok (.getfield 195, 3) := by decide +kernel
theorem dX10_path_88 : decode cX10_path 88 = .ok (.ifCond .ne 21, 3) := by decide +kernel
theorem dX10_path_91 : decode cX10_path 91 = .ok (.aload_n 0, 1) := by decide +kernel
theorem dX10_path_92 : decode cX10_path 92 = .ok (.getfield 23, 3) := by decide +kernel
theorem dX10_path_95 : decode cX10_path 95 = .ok (.aload_n 3, 1) := by decide +kernel
theorem dX10_path_96 : decode cX10_path 96 = .ok (.getfield 171, 3) := by decide +kernel
theorem dX10_path_99 : decode cX10_path 99 = .ok (.invokevirtual 162, 3) := by decide +kernel
theorem dX10_path_102 : decode cX10_path 102 = .ok (.ifCond .eq 7, 3) := by decide +kernel
theorem dX10_path_105 : decode cX10_path 105 = .ok (.iconst 1, 1) := by decide +kernel
theorem dX10_path_106 : decode cX10_path 106 = .ok (.goto 4, 3) := by decide +kernel
theorem dX10_path_109 : decode cX10_path 109 = .ok (.iconst 0, 1) := by decide +kernel
theorem dX10_path_110 : decode cX10_path 110 = .ok (.ireturn, 1) := by decide +kernel
theorem dX10_path_111 : decode cX10_path 111 = .ok (.aload_n 3, 1) := by decide +kernel
theorem dX10_path_112 : decode cX10_path 112 = .ok (.getfield 195, 3) := by decide +kernel
theorem dX10_path_115 : decode cX10_path 115 = .ok (.ifCond .eq 7, 3) := by decide +kernel
theorem dX10_path_118 : decode cX10_path 118 = .ok (.iconst 1, 1) := by decide +kernel
theorem dX10_path_119 : decode cX10_path 119 = .ok (.goto 4, 3) := by decide +kernel
theorem dX10_path_122 : decode cX10_path 122 = .ok (.iconst 0, 1) := by decide +kernel
theorem dX10_path_123 : decode cX10_path 123 = .ok (.ireturn, 1) := by decide +kernel
theorem dX10_path_124 : decode cX10_path 124 = .ok (.aload_n 3, 1) := by decide +kernel
theorem dX10_path_125 : decode cX10_path 125 = .ok (.getfield 195, 3) := by decide +kernel
theorem dX10_path_128 : decode cX10_path 128 = .ok (.ifCond .eq 7, 3) := by decide +kernel
theorem dX10_path_131 : decode cX10_path 131 = .ok (.iconst (-1), 1) := by decide +kernel
theorem dX10_path_132 : decode cX10_path 132 = .ok (.goto 11, 3) := by decide +kernel
theorem dX10_path_135 : decode cX10_path 135 = .ok (.aload_n 3, 1) := by decide +kernel
theorem dX10_path_136 : decode cX10_path 136 = .ok (.getfield 171, 3) := by decide +kernel
theorem dX10_path_139 : decode cX10_path 139 = .ok (.iload_n 2, 1) := by decide +kernel
theorem dX10_path_140 : decode cX10_path 140 = .ok (.invokestatic 199, 3) := by decide +kernel
theorem dX10_path_143 : decode cX10_path 143 = .ok (.ireturn, 1) := by decide +kernel
theorem dX10_heap_0 : decode cX10_heap 0 = .ok (.aload_n 0, 1) := by decide +kernel
theorem dX10_heap_1 : decode cX10_heap 1 = .ok (.getfield 46, 3) := by decide +kernel
theorem dX10_heap_4 : decode cX10_heap 4 = .ok (.iload_n 1, 1) := by decide +kernel
theorem dX10_heap_5 : decode cX10_heap 5 = .ok (.invokevirtual 166, 3) := by decide +kernel
theorem dX10_heap_8 : decode cX10_heap 8 = .ok (.ifCond .eq 25, 3) := by decide +kernel
theorem dX10_heap_11 : decode cX10_heap 11 = .ok (.aload_n 0, 1) := by decide +kernel
theorem dX10_heap_12 : decode cX10_heap 12 = .ok (.getfield 23, 3) := by decide +kernel
theorem dX10_heap_15 : decode cX10_heap 15 = .ok (.aload_n 0, 1) := by decide +kernel
theorem dX10_heap_16 : decode cX10_heap 16 = .ok (.getfield 46, 3) := by decide +kernel
theorem dX10_heap_19 : decode cX10_heap 19 = .ok (.getfield 167, 3) := by decide +kernel
theorem dX10_heap_22 : decode cX10_heap 22 = .ok (.iload_n 1, 1) := by decide +kernel
theorem dX10_heap_23 : decode cX10_heap 23 = .ok (.aaload, 1) := by decide +kernel
theorem dX10_heap_24 : decode cX10_heap 24 = .ok (.getfield 171, 3) := by decide +kernel
theorem dX10_heap_27 : decode cX10_heap 27 = .ok (.invokevirtual 203, 3) := by decide +kernel
theorem dX10_heap_30 : decode cX10_heap 30 = .ok (.goto 6, 3) := by decide +kernel
theorem dX10_heap_33 : decode cX10_heap 33 = .ok (.ldc2_w 207, 3) := by decide +kernel
theorem dX10_heap_36 : decode cX10_heap 36 = .ok (.lreturn, 1) := by decide +kernel
theorem dX10_ahead_0 : decode cX10_ahead 0 = .ok (.aload_n 0, 1) := by decide +kernel
theorem dX10_ahead_1 : decode cX10_ahead 1 = .ok (.getfield 46, 3) := by decide +kernel
theorem dX10_ahead_4 : decode cX10_ahead 4 = .ok (.iload_n 1, 1) := by decide +kernel
theorem dX10_ahead_5 : decode cX10_ahead 5 = .ok (.invokevirtual 166, 3) := by decide +kernel
theorem dX10_ahead_8 : decode cX10_ahead 8 = .ok (.ifCond .eq 23, 3) := by decide +kernel
theorem dX10_ahead_11 : decode cX10_ahead 11 = .ok (.iload_n 2, 1) := by decide +kernel
theorem dX10_ahead_12 : decode cX10_ahead 12 = .ok (.iconst 0, 1) := by decide +kernel
theorem dX10_ahead_13 : decode cX10_ahead 13 = .ok (.sipush 400, 3) := by decide +kernel
theorem dX10_ahead_16 : decode cX10_ahead 16 = .ok (.invokestatic 71, 3) := by decide +kernel
theorem dX10_ahead_19 : decode cX10_ahead 19 = .ok (.ifCond .eq 12, 3) := by decide +kernel
theorem dX10_ahead_22 : decode cX10_ahead 22 = .ok (.iload_n 3, 1) := by decide +kernel
theorem dX10_ahead_23 : decode cX10_ahead 23 = .ok (.iconst 0, 1) := by decide +kernel
theorem dX10_ahead_24 : decode cX10_ahead 24 = .ok (.iconst 3, 1) := by decide +kernel
theorem dX10_ahead_25 : decode cX10_ahead 25 = .ok (.invokestatic 71, 3) := by decide +kernel
theorem dX10_ahead_28 : decode cX10_ahead 28 = .ok (.ifCond .ne 7, 3) := by decide +kernel
theorem dX10_ahead_31 : decode cX10_ahead 31 = .ok (.ldc2_w 209, 3) := by decide +kernel
theorem dX10_ahead_34 : decode cX10_ahead 34 = .ok (.lreturn, 1) := by decide +kernel
theorem dX10_ahead_35 : decode cX10_ahead 35 = .ok (.aload_n 0, 1) := by decide +kernel
theorem dX10_ahead_36 : decode cX10_ahead 36 = .ok (.getfield 46, 3) := by decide +kernel
theorem dX10_ahead_39 : decode cX10_ahead 39 = .ok (.getfield 167, 3) := by decide +kernel
theorem dX10_ahead_42 : decode cX10_ahead 42 = .ok (.iload_n 1, 1) := by decide +kernel
theorem dX10_ahead_43 : decode cX10_ahead 43 = .ok (.aaload, 1) := by decide +kernel
theorem dX10_ahead_44 : decode cX10_ahead 44 = .ok (.getfield 171, 3) := by decide +kernel
theorem dX10_ahead_47 : decode cX10_ahead 47 = .ok (.astore 4, 2) := by decide +kernel
theorem dX10_ahead_49 : decode cX10_ahead 49 = .ok (.aload_n 0, 1) := by decide +kernel
theorem dX10_ahead_50 : decode cX10_ahead 50 = .ok (.getfield 23, 3) := by decide +kernel
theorem dX10_ahead_53 : decode cX10_ahead 53 = .ok (.aload 4, 2) := by decide +kernel
theorem dX10_ahead_55 : decode cX10_ahead 55 = .ok (.invokevirtual 162, 3) := by decide +kernel
theorem dX10_ahead_58 : decode cX10_ahead 58 = .ok (.ifCond .ne 7, 3) := by decide +kernel
theorem dX10_ahead_61 : decode cX10_ahead 61 = .ok (.ldc2_w 209, 3) := by decide +kernel
theorem dX10_ahead_64 : decode cX10_ahead 64 = .ok (.lreturn, 1) := by decide +kernel
theorem dX10_ahead_65 : decode cX10_ahead 65 = .ok (.aload_n 0, 1) := by decide +kernel
theorem dX10_ahead_66 : decode cX10_ahead 66 = .ok (.getfield 23, 3) := by decide +kernel
theorem dX10_ahead_69 : decode cX10_ahead 69 = .ok (.aload 4, 2) := by decide +kernel
theorem dX10_ahead_71 : decode cX10_ahead 71 = .ok (.iload_n 3, 1) := by decide +kernel
theorem dX10_ahead_72 : decode cX10_ahead 72 = .ok (.iconst 2, 1) := by decide +kernel
theorem dX10_ahead_73 : decode cX10_ahead 73 = .ok (.if_icmp .ge 7, 3) := by decide +kernel
theorem dX10_ahead_76 : decode cX10_ahead 76 = .ok (.iconst 0, 1) := by decide +kernel
theorem dX10_ahead_77 : decode cX10_ahead 77 = .ok (.goto 4, 3) := by decide +kernel
theorem dX10_ahead_80 : decode cX10_ahead 80 = .ok (.iconst 1, 1) := by decide +kernel
theorem dX10_ahead_81 : decode cX10_ahead 81 = .ok (.iload_n 2, 1) := by decide +kernel
theorem dX10_ahead_82 : decode cX10_ahead 82 = .ok (.iload_n 3, 1) := by decide +kernel
theorem dX10_ahead_83 : decode cX10_ahead 83 = .ok (.iconst 2, 1) := by decide +kernel
theorem dX10_ahead_84 : decode cX10_ahead 84 = .ok (.irem, 1) := by decide +kernel
theorem dX10_ahead_85 : decode cX10_ahead 85 = .ok (.iconst 1, 1) := by decide +kernel
theorem dX10_ahead_86 : decode cX10_ahead 86 = .ok (.if_icmp .ne 7, 3) := by decide +kernel
theorem dX10_ahead_89 : decode cX10_ahead 89 = .ok (.iconst 1, 1) := by decide +kernel
theorem dX10_ahead_90 : decode cX10_ahead 90 = .ok (.goto 4, 3) := by decide +kernel
theorem dX10_ahead_93 : decode cX10_ahead 93 = .ok (.iconst 0, 1) := by decide +kernel
theorem dX10_ahead_94 : decode cX10_ahead 94 = .ok (.invokevirtual 211, 3) := by decide +kernel
theorem dX10_ahead_97 : decode cX10_ahead 97 = .ok (.lreturn, 1) := by decide +kernel
theorem dX10_tellOff_0 : decode cX10_tellOff 0 = .ok (.aload_n 0, 1) := by decide +kernel
theorem dX10_tellOff_1 : decode cX10_tellOff 1 = .ok (.getfield 14, 3) := by decide +kernel
theorem dX10_tellOff_4 : decode cX10_tellOff 4 = .ok (.iload_n 1, 1) := by decide +kernel
theorem dX10_tellOff_5 : decode cX10_tellOff 5 = .ok (.invokevirtual 99, 3) := by decide +kernel
theorem dX10_tellOff_8 : decode cX10_tellOff 8 = .ok (.ifCond .eq 14, 3) := by decide +kernel
theorem dX10_tellOff_11 : decode cX10_tellOff 11 = .ok (.aload_n 0, 1) := by decide +kernel
theorem dX10_tellOff_12 : decode cX10_tellOff 12 = .ok (.getfield 14, 3) := by decide +kernel
theorem dX10_tellOff_15 : decode cX10_tellOff 15 = .ok (.iload_n 1, 1) := by decide +kernel
theorem dX10_tellOff_16 : decode cX10_tellOff 16 = .ok (.invokevirtual 159, 3) := by decide +kernel
theorem dX10_tellOff_19 : decode cX10_tellOff 19 = .ok (.ifCond .ne 5, 3) := by decide +kernel
theorem dX10_tellOff_22 : decode cX10_tellOff 22 = .ok (.iconst (-1), 1) := by decide +kernel
theorem dX10_tellOff_23 : decode cX10_tellOff 23 = .ok (.ireturn, 1) := by decide +kernel
theorem dX10_tellOff_24 : decode cX10_tellOff 24 = .ok (.iconst (-1), 1) := by decide +kernel
theorem dX10_tellOff_25 : decode cX10_tellOff 25 = .ok (.istore_n 2, 1) := by decide +kernel
theorem dX10_tellOff_26 : decode cX10_tellOff 26 = .ok (.iconst 0, 1) := by decide +kernel
theorem dX10_tellOff_27 : decode cX10_tellOff 27 = .ok (.istore_n 3, 1) := by decide +kernel
theorem dX10_tellOff_28 : decode cX10_tellOff 28 = .ok (.iload_n 3, 1) := by decide +kernel
theorem dX10_tellOff_29 : decode cX10_tellOff 29 = .ok (.aload_n 0, 1) := by decide +kernel
theorem dX10_tellOff_30 : decode cX10_tellOff 30 = .ok (.getfield 46, 3) := by decide +kernel
theorem dX10_tellOff_33 : decode cX10_tellOff 33 = .ok (.getfield 189, 3) := by decide +kernel
theorem dX10_tellOff_36 : decode cX10_tellOff 36 = .ok (.if_icmp .ge 52, 3) := by decide +kernel
theorem dX10_tellOff_39 : decode cX10_tellOff 39 = .ok (.aload_n 0, 1) := by decide +kernel
theorem dX10_tellOff_40 : decode cX10_tellOff 40 = .ok (.getfield 46, 3) := by decide +kernel
theorem dX10_tellOff_43 : decode cX10_tellOff 43 = .ok (.iload_n 3, 1) := by decide +kernel
theorem dX10_tellOff_44 : decode cX10_tellOff 44 = .ok (.invokevirtual 166, 3) := by decide +kernel
theorem dX10_tellOff_47 : decode cX10_tellOff 47 = .ok (.ifCond .eq 35, 3) := by decide +kernel
theorem dX10_tellOff_50 : decode cX10_tellOff 50 = .ok (.aload_n 0, 1) := by decide +kernel
theorem dX10_tellOff_51 : decode cX10_tellOff 51 = .ok (.getfield 23, 3) := by decide +kernel
theorem dX10_tellOff_54 : decode cX10_tellOff 54 = .ok (.aload_n 0, 1) := by decide +kernel
theorem dX10_tellOff_55 : decode cX10_tellOff 55 = .ok (.getfield 46, 3) := by decide +kernel
theorem dX10_tellOff_58 : decode cX10_tellOff 58 = .ok (.getfield 167, 3) := by decide +kernel
theorem dX10_tellOff_61 : decode cX10_tellOff 61 = .ok (.iload_n 3, 1) := by decide +kernel
theorem dX10_tellOff_62 : decode cX10_tellOff 62 = .ok (.aaload, 1) := by decide +kernel
theorem dX10_tellOff_63 : decode cX10_tellOff 63 = .ok (.getfield 171, 3) := by decide +kernel
theorem dX10_tellOff_66 : decode cX10_tellOff 66 = .ok (.iload_n 1, 1) := by decide +kernel
theorem dX10_tellOff_67 : decode cX10_tellOff 67 = .ok (.invokevirtual 215, 3) := by decide +kernel
theorem dX10_tellOff_70 : decode cX10_tellOff 70 = .ok (.ifCond .eq 12, 3) := by decide +kernel
theorem dX10_tellOff_73 : decode cX10_tellOff 73 = .ok (.iload_n 2, 1) := by decide +kernel
theorem dX10_tellOff_74 : decode cX10_tellOff 74 = .ok (.iconst (-1), 1) := by decide +kernel
theorem dX10_tellOff_75 : decode cX10_tellOff 75 = .ok (.if_icmp .eq 5, 3) := by decide +kernel
theorem dX10_tellOff_78 : decode cX10_tellOff 78 = .ok (.iconst (-1), 1) := by decide +kernel
theorem dX10_tellOff_79 : decode cX10_tellOff 79 = .ok (.ireturn, 1) := by decide +kernel
theorem dX10_tellOff_80 : decode cX10_tellOff 80 = .ok (.iload_n 3, 1) := by decide +kernel
theorem dX10_tellOff_81 : decode cX10_tellOff 81 = .ok (.istore_n 2, 1) := by decide +kernel
theorem dX10_tellOff_82 : decode cX10_tellOff 82 = .ok (.iinc 3 1, 3) := by decide +kernel
theorem dX10_tellOff_85 : decode cX10_tellOff 85 = .ok (.goto (-57), 3) := by decide +kernel
theorem dX10_tellOff_88 : decode cX10_tellOff 88 = .ok (.iload_n 2, 1) := by decide +kernel
theorem dX10_tellOff_89 : decode cX10_tellOff 89 = .ok (.ireturn, 1) := by decide +kernel
theorem dX10_fit_0 : decode cX10_fit 0 = .ok (.iload_n 3, 1) := by decide +kernel
theorem dX10_fit_1 : decode cX10_fit 1 = .ok (.iconst 0, 1) := by decide +kernel
theorem dX10_fit_2 : decode cX10_fit 2 = .ok (.iconst 1, 1) := by decide +kernel
theorem dX10_fit_3 : decode cX10_fit 3 = .ok (.invokestatic 71, 3) := by decide +kernel
theorem dX10_fit_6 : decode cX10_fit 6 = .ok (.ifCond .eq 22, 3) := by decide +kernel
theorem dX10_fit_9 : decode cX10_fit 9 = .ok (.iload 4, 2) := by decide +kernel
theorem dX10_fit_11 : decode cX10_fit 11 = .ok (.iconst 0, 1) := by decide +kernel
theorem dX10_fit_12 : decode cX10_fit 12 = .ok (.iconst 1, 1) := by decide +kernel
theorem dX10_fit_13 : decode cX10_fit 13 = .ok (.invokestatic 71, 3) := by decide +kernel
theorem dX10_fit_16 : decode cX10_fit 16 = .ok (.ifCond .eq 12, 3) := by decide +kernel
theorem dX10_fit_19 : decode cX10_fit 19 = .ok (.aload_n 0, 1) := by decide +kernel
theorem dX10_fit_20 : decode cX10_fit 20 = .ok (.iload_n 1, 1) := by decide +kernel
theorem dX10_fit_21 : decode cX10_fit 21 = .ok (.iload_n 2, 1) := by decide +kernel
theorem dX10_fit_22 : decode cX10_fit 22 = .ok (.invokevirtual 219, 3) := by decide +kernel
theorem dX10_fit_25 : decode cX10_fit 25 = .ok (.ifCond .ne 7, 3) := by decide +kernel
theorem dX10_fit_28 : decode cX10_fit 28 = .ok (.ldc2_w 209, 3) := by decide +kernel
theorem dX10_fit_31 : decode cX10_fit 31 = .ok (.lreturn, 1) := by decide +kernel
theorem dX10_fit_32 : decode cX10_fit 32 = .ok (.iload_n 3, 1) := by decide +kernel
theorem dX10_fit_33 : decode cX10_fit 33 = .ok (.ifCond .ne 23, 3) := by decide +kernel
theorem dX10_fit_36 : decode cX10_fit 36 = .ok (.aload_n 0, 1) := by decide +kernel
theorem dX10_fit_37 : decode cX10_fit 37 = .ok (.getfield 60, 3) := by decide +kernel
theorem dX10_fit_40 : decode cX10_fit 40 = .ok (.invokevirtual 223, 3) := by decide +kernel
theorem dX10_fit_43 : decode cX10_fit 43 = .ok (.aload_n 0, 1) := by decide +kernel
theorem dX10_fit_44 : decode cX10_fit 44 = .ok (.getfield 60, 3) := by decide +kernel
theorem dX10_fit_47 : decode cX10_fit 47 = .ok (.invokevirtual 227, 3) := by decide +kernel
theorem dX10_fit_50 : decode cX10_fit 50 = .ok (.iload 4, 2) := by decide +kernel
theorem dX10_fit_52 : decode cX10_fit 52 = .ok (.invokestatic 230, 3) := by decide +kernel
theorem dX10_fit_55 : decode cX10_fit 55 = .ok (.lreturn, 1) := by decide +kernel
theorem dX10_fit_56 : decode cX10_fit 56 = .ok (.aload_n 0, 1) := by decide +kernel
theorem dX10_fit_57 : decode cX10_fit 57 = .ok (.getfield 60, 3) := by decide +kernel
theorem dX10_fit_60 : decode cX10_fit 60 = .ok (.getfield 234, 3) := by decide +kernel
theorem dX10_fit_63 : decode cX10_fit 63 = .ok (.aload_n 0, 1) := by decide +kernel
theorem dX10_fit_64 : decode cX10_fit 64 = .ok (.getfield 60, 3) := by decide +kernel
theorem dX10_fit_67 : decode cX10_fit 67 = .ok (.getfield 238, 3) := by decide +kernel
theorem dX10_fit_70 : decode cX10_fit 70 = .ok (.iload 4, 2) := by decide +kernel
theorem dX10_fit_72 : decode cX10_fit 72 = .ok (.invokestatic 230, 3) := by decide +kernel
theorem dX10_fit_75 : decode cX10_fit 75 = .ok (.lreturn, 1) := by decide +kernel
theorem dX10_miss_0 : decode cX10_miss 0 = .ok (.iload 4, 2) := by decide +kernel
theorem dX10_miss_2 : decode cX10_miss 2 = .ok (.iconst 0, 1) := by decide +kernel
theorem dX10_miss_3 : decode cX10_miss 3 = .ok (.iconst 1, 1) := by decide +kernel
theorem dX10_miss_4 : decode cX10_miss 4 = .ok (.invokestatic 71, 3) := by decide +kernel
theorem dX10_miss_7 : decode cX10_miss 7 = .ok (.ifCond .eq 12, 3) := by decide +kernel
theorem dX10_miss_10 : decode cX10_miss 10 = .ok (.aload_n 0, 1) := by decide +kernel
theorem dX10_miss_11 : decode cX10_miss 11 = .ok (.iload_n 1, 1) := by decide +kernel
theorem dX10_miss_12 : decode cX10_miss 12 = .ok (.iload_n 3, 1) := by decide +kernel
theorem dX10_miss_13 : decode cX10_miss 13 = .ok (.invokevirtual 219, 3) := by decide +kernel
theorem dX10_miss_16 : decode cX10_miss 16 = .ok (.ifCond .ne 7, 3) := by decide +kernel
theorem dX10_miss_19 : decode cX10_miss 19 = .ok (.ldc2_w 209, 3) := by decide +kernel
theorem dX10_miss_22 : decode cX10_miss 22 = .ok (.lreturn, 1) := by decide +kernel
theorem dX10_miss_23 : decode cX10_miss 23 = .ok (.aload_n 0, 1) := by decide +kernel
theorem dX10_miss_24 : decode cX10_miss 24 = .ok (.getfield 46, 3) := by decide +kernel
theorem dX10_miss_27 : decode cX10_miss 27 = .ok (.getfield 167, 3) := by decide +kernel
theorem dX10_miss_30 : decode cX10_miss 30 = .ok (.iload_n 1, 1) := by decide +kernel
theorem dX10_miss_31 : decode cX10_miss 31 = .ok (.aaload, 1) := by decide +kernel
theorem dX10_miss_32 : decode cX10_miss 32 = .ok (.getfield 171, 3) := by decide +kernel
theorem dX10_miss_35 : decode cX10_miss 35 = .ok (.astore 5, 2) := by decide +kernel
theorem dX10_miss_37 : decode cX10_miss 37 = .ok (.iload_n 2, 1) := by decide +kernel
theorem dX10_miss_38 : decode cX10_miss 38 = .ok (.iconst 0, 1) := by decide +kernel
theorem dX10_miss_39 : decode cX10_miss 39 = .ok (.aload 5, 2) := by decide +kernel
theorem dX10_miss_41 : decode cX10_miss 41 = .ok (.getfield 183, 3) := by decide +kernel
theorem dX10_miss_44 : decode cX10_miss 44 = .ok (.iconst 1, 1) := by decide +kernel
theorem dX10_miss_45 : decode cX10_miss 45 = .ok (.isub, 1) := by decide +kernel
theorem dX10_miss_46 : decode cX10_miss 46 = .ok (.invokestatic 71, 3) := by decide +kernel
theorem dX10_miss_49 : decode cX10_miss 49 = .ok (.ifCond .ne 7, 3) := by decide +kernel
theorem dX10_miss_52 : decode cX10_miss 52 = .ok (.ldc2_w 209, 3) := by decide +kernel
theorem dX10_miss_55 : decode cX10_miss 55 = .ok (.lreturn, 1) := by decide +kernel
theorem dX10_miss_56 : decode cX10_miss 56 = .ok (.aload 5, 2) := by decide +kernel
theorem dX10_miss_58 : decode cX10_miss 58 = .ok (.getfield 241, 3) := by decide +kernel
theorem dX10_miss_61 : decode cX10_miss 61 = .ok (.iload_n 2, 1) := by decide +kernel
theorem dX10_miss_62 : decode cX10_miss 62 = .ok (.iaload, 1) := by decide +kernel
theorem dX10_miss_63 : decode cX10_miss 63 = .ok (.istore 6, 2) := by decide +kernel
theorem dX10_miss_65 : decode cX10_miss 65 = .ok (.aload_n 0, 1) := by decide +kernel
theorem dX10_miss_66 : decode cX10_miss 66 = .ok (.getfield 60, 3) := by decide +kernel
theorem dX10_miss_69 : decode cX10_miss 69 = .ok (.aload_n 0, 1) := by decide +kernel
theorem dX10_miss_70 : decode cX10_miss 70 = .ok (.getfield 14, 3) := by decide +kernel
theorem dX10_miss_73 : decode cX10_miss 73 = .ok (.getfield 103, 3) := by decide +kernel
theorem dX10_miss_76 : decode cX10_miss 76 = .ok (.iload 6, 2) := by decide +kernel
theorem dX10_miss_78 : decode cX10_miss 78 = .ok (.iaload, 1) := by decide +kernel
theorem dX10_miss_79 : decode cX10_miss 79 = .ok (.i2l, 1) := by decide +kernel
theorem dX10_miss_80 : decode cX10_miss 80 = .ok (.aload_n 0, 1) := by decide +kernel
theorem dX10_miss_81 : decode cX10_miss 81 = .ok (.getfield 14, 3) := by decide +kernel
theorem dX10_miss_84 : decode cX10_miss 84 = .ok (.iload 6, 2) := by decide +kernel
theorem dX10_miss_86 : decode cX10_miss 86 = .ok (.iload_n 3, 1) := by decide +kernel
theorem dX10_miss_87 : decode cX10_miss 87 = .ok (.invokevirtual 244, 3) := by decide +kernel
theorem dX10_miss_90 : decode cX10_miss 90 = .ok (.i2l, 1) := by decide +kernel
theorem dX10_miss_91 : decode cX10_miss 91 = .ok (.invokevirtual 248, 3) := by decide +kernel
theorem dX10_miss_94 : decode cX10_miss 94 = .ok (.lstore 7, 2) := by decide +kernel
theorem dX10_miss_96 : decode cX10_miss 96 = .ok (.lload 7, 2) := by decide +kernel
theorem dX10_miss_98 : decode cX10_miss 98 = .ok (.aload_n 0, 1) := by decide +kernel
theorem dX10_miss_99 : decode cX10_miss 99 = .ok (.getfield 60, 3) := by decide +kernel
theorem dX10_miss_102 : decode cX10_miss 102 = .ok (.invokevirtual 227, 3) := by decide +kernel
theorem dX10_miss_105 : decode cX10_miss 105 = .ok (.iload 4, 2) := by decide +kernel
theorem dX10_miss_107 : decode cX10_miss 107 = .ok (.invokestatic 230, 3) := by decide +kernel
theorem dX10_miss_110 : decode cX10_miss 110 = .ok (.lreturn, 1) := by decide +kernel
theorem dX10_part_0 : decode cX10_part 0 = .ok (.aload_n 0, 1) := by decide +kernel
theorem dX10_part_1 : decode cX10_part 1 = .ok (.getfield 46, 3) := by decide +kernel
theorem dX10_part_4 : decode cX10_part 4 = .ok (.iload_n 1, 1) := by decide +kernel
theorem dX10_part_5 : decode cX10_part 5 = .ok (.invokevirtual 166, 3) := by decide +kernel
theorem dX10_part_8 : decode cX10_part 8 = .ok (.ifCond .ne 5, 3) := by decide +kernel
theorem dX10_part_11 : decode cX10_part 11 = .ok (.iconst (-1), 1) := by decide +kernel
theorem dX10_part_12 : decode cX10_part 12 = .ok (.ireturn, 1) := by decide +kernel
theorem dX10_part_13 : decode cX10_part 13 = .ok (.aload_n 0, 1) := by decide +kernel
theorem dX10_part_14 : decode cX10_part 14 = .ok (.getfield 46, 3) := by decide +kernel
theorem dX10_part_17 : decode cX10_part 17 = .ok (.getfield 167, 3) := by decide +kernel
theorem dX10_part_20 : decode cX10_part 20 = .ok (.iload_n 1, 1) := by decide +kernel
theorem dX10_part_21 : decode cX10_part 21 = .ok (.aaload, 1) := by decide +kernel
theorem dX10_part_22 : decode cX10_part 22 = .ok (.getfield 171, 3) := by decide +kernel
theorem dX10_part_25 : decode cX10_part 25 = .ok (.astore_n 2, 1) := by decide +kernel
theorem dX10_part_26 : decode cX10_part 26 = .ok (.aload_n 0, 1) := by decide +kernel
theorem dX10_part_27 : decode cX10_part 27 = .ok (.aload_n 2, 1) := by decide +kernel
theorem dX10_part_28 : decode cX10_part 28 = .ok (.invokevirtual 252, 3) := by decide +kernel
theorem dX10_part_31 : decode cX10_part 31 = .ok (.istore_n 3, 1) := by decide +kernel
theorem dX10_part_32 : decode cX10_part 32 = .ok (.iload_n 3, 1) := by decide +kernel
theorem dX10_part_33 : decode cX10_part 33 = .ok (.ifCond .ne 5, 3) := by decide +kernel
theorem dX10_part_36 : decode cX10_part 36 = .ok (.iconst 0, 1) := by decide +kernel
theorem dX10_part_37 : decode cX10_part 37 = .ok (.ireturn, 1) := by decide +kernel
theorem dX10_part_38 : decode cX10_part 38 = .ok (.aload_n 2, 1) := by decide +kernel
theorem dX10_part_39 : decode cX10_part 39 = .ok (.getfield 183, 3) := by decide +kernel
theorem dX10_part_42 : decode cX10_part 42 = .ok (.istore 4, 2) := by decide +kernel
theorem dX10_part_44 : decode cX10_part 44 = .ok (.aload_n 0, 1) := by decide +kernel
theorem dX10_part_45 : decode cX10_part 45 = .ok (.aload_n 2, 1) := by decide +kernel
theorem dX10_part_46 : decode cX10_part 46 = .ok (.iload_n 3, 1) := by decide +kernel
theorem dX10_part_47 : decode cX10_part 47 = .ok (.invokevirtual 256, 3) := by decide +kernel
theorem dX10_part_50 : decode cX10_part 50 = .ok (.aload_n 0, 1) := by decide +kernel
theorem dX10_part_51 : decode cX10_part 51 = .ok (.iload_n 1, 1) := by decide +kernel
theorem dX10_part_52 : decode cX10_part 52 = .ok (.invokevirtual 260, 3) := by decide +kernel
theorem dX10_part_55 : decode cX10_part 55 = .ok (.pop, 1) := by decide +kernel
theorem dX10_part_56 : decode cX10_part 56 = .ok (.iload 4, 2) := by decide +kernel
theorem dX10_part_58 : decode cX10_part 58 = .ok (.aload_n 0, 1) := by decide +kernel
theorem dX10_part_59 : decode cX10_part 59 = .ok (.getfield 67, 3) := by decide +kernel
theorem dX10_part_62 : decode cX10_part 62 = .ok (.getfield 183, 3) := by decide +kernel
theorem dX10_part_65 : decode cX10_part 65 = .ok (.isub, 1) := by decide +kernel
theorem dX10_part_66 : decode cX10_part 66 = .ok (.ireturn, 1) := by decide +kernel
theorem dX10_same_0 : decode cX10_same 0 = .ok (.aload_n 0, 1) := by decide +kernel
theorem dX10_same_1 : decode cX10_same 1 = .ok (.getfield 46, 3) := by decide +kernel
theorem dX10_same_4 : decode cX10_same 4 = .ok (.iload_n 1, 1) := by decide +kernel
theorem dX10_same_5 : decode cX10_same 5 = .ok (.invokevirtual 166, 3) := by decide +kernel
theorem dX10_same_8 : decode cX10_same 8 = .ok (.ifCond .eq 14, 3) := by decide +kernel
theorem dX10_same_11 : decode cX10_same 11 = .ok (.aload_n 0, 1) := by decide +kernel
theorem dX10_same_12 : decode cX10_same 12 = .ok (.getfield 46, 3) := by decide +kernel
theorem dX10_same_15 : decode cX10_same 15 = .ok (.iload_n 2, 1) := by decide +kernel
theorem dX10_same_16 : decode cX10_same 16 = .ok (.invokevirtual 166, 3) := by decide +kernel
theorem dX10_same_19 : decode cX10_same 19 = .ok (.ifCond .ne 5, 3) := by decide +kernel
theorem dX10_same_22 : decode cX10_same 22 = .ok (.iconst (-1), 1) := by decide +kernel
theorem dX10_same_23 : decode cX10_same 23 = .ok (.ireturn, 1) := by decide +kernel
theorem dX10_same_24 : decode cX10_same 24 = .ok (.iload_n 1, 1) := by decide +kernel
theorem dX10_same_25 : decode cX10_same 25 = .ok (.iload_n 2, 1) := by decide +kernel
theorem dX10_same_26 : decode cX10_same 26 = .ok (.if_icmp .ne 6, 3) := by decide +kernel
theorem dX10_same_29 : decode cX10_same 29 = .ok (.bipush (-2), 2) := by decide +kernel
theorem dX10_same_31 : decode cX10_same 31 = .ok (.ireturn, 1) := by decide +kernel
theorem dX10_same_32 : decode cX10_same 32 = .ok (.aload_n 0, 1) := by decide +kernel
theorem dX10_same_33 : decode cX10_same 33 = .ok (.iload_n 1, 1) := by decide +kernel
theorem dX10_same_34 : decode cX10_same 34 = .ok (.iload_n 2, 1) := by decide +kernel
theorem dX10_same_35 : decode cX10_same 35 = .ok (.invokevirtual 264, 3) := by decide +kernel
theorem dX10_same_38 : decode cX10_same 38 = .ok (.aload_n 0, 1) := by decide +kernel
theorem dX10_same_39 : decode cX10_same 39 = .ok (.getfield 23, 3) := by decide +kernel
theorem dX10_same_42 : decode cX10_same 42 = .ok (.aload_n 0, 1) := by decide +kernel
theorem dX10_same_43 : decode cX10_same 43 = .ok (.getfield 67, 3) := by decide +kernel
theorem dX10_same_46 : decode cX10_same 46 = .ok (.invokevirtual 162, 3) := by decide +kernel
theorem dX10_same_49 : decode cX10_same 49 = .ok (.ifCond .eq 7, 3) := by decide +kernel
theorem dX10_same_52 : decode cX10_same 52 = .ok (.iconst 1, 1) := by decide +kernel
theorem dX10_same_53 : decode cX10_same 53 = .ok (.goto 4, 3) := by decide +kernel
theorem dX10_same_56 : decode cX10_same 56 = .ok (.iconst 0, 1) := by decide +kernel
theorem dX10_same_57 : decode cX10_same 57 = .ok (.ireturn, 1) := by decide +kernel
theorem dX10_merge_0 : decode cX10_merge 0 = .ok (.aload_n 0, 1) := by decide +kernel
theorem dX10_merge_1 : decode cX10_merge 1 = .ok (.getfield 46, 3) := by decide +kernel
theorem dX10_merge_4 : decode cX10_merge 4 = .ok (.iload_n 1, 1) := by decide +kernel
theorem dX10_merge_5 : decode cX10_merge 5 = .ok (.invokevirtual 166, 3) := by decide +kernel
theorem dX10_merge_8 : decode cX10_merge 8 = .ok (.ifCond .eq 14, 3) := by decide +kernel
theorem dX10_merge_11 : decode cX10_merge 11 = .ok (.aload_n 0, 1) := by decide +kernel
theorem dX10_merge_12 : decode cX10_merge 12 = .ok (.getfield 46, 3) := by decide +kernel
theorem dX10_merge_15 : decode cX10_merge 15 = .ok (.iload_n 2, 1) := by decide +kernel
theorem dX10_merge_16 : decode cX10_merge 16 = .ok (.invokevirtual 166, 3) := by decide +kernel
theorem dX10_merge_19 : decode cX10_merge 19 = .ok (.ifCond .ne 5, 3) := by decide +kernel
theorem dX10_merge_22 : decode cX10_merge 22 = .ok (.iconst (-1), 1) := by decide +kernel
theorem dX10_merge_23 : decode cX10_merge 23 = .ok (.ireturn, 1) := by decide +kernel
theorem dX10_merge_24 : decode cX10_merge 24 = .ok (.iload_n 1, 1) := by decide +kernel
theorem dX10_merge_25 : decode cX10_merge 25 = .ok (.iload_n 2, 1) := by decide +kernel
theorem dX10_merge_26 : decode cX10_merge 26 = .ok (.if_icmp .ne 6, 3) := by decide +kernel
theorem dX10_merge_29 : decode cX10_merge 29 = .ok (.bipush (-2), 2) := by decide +kernel
theorem dX10_merge_31 : decode cX10_merge 31 = .ok (.ireturn, 1) := by decide +kernel
theorem dX10_merge_32 : decode cX10_merge 32 = .ok (.iload_n 1, 1) := by decide +kernel
theorem dX10_merge_33 : decode cX10_merge 33 = .ok (.iload_n 2, 1) := by decide +kernel
theorem dX10_merge_34 : decode cX10_merge 34 = .ok (.invokestatic 268, 3) := by decide +kernel
theorem dX10_merge_37 : decode cX10_merge 37 = .ok (.istore_n 3, 1) := by decide +kernel
theorem dX10_merge_38 : decode cX10_merge 38 = .ok (.iload_n 1, 1) := by decide +kernel
theorem dX10_merge_39 : decode cX10_merge 39 = .ok (.iload_n 2, 1) := by decide +kernel
theorem dX10_merge_40 : decode cX10_merge 40 = .ok (.invokestatic 273, 3) := by decide +kernel
theorem dX10_merge_43 : decode cX10_merge 43 = .ok (.istore 4, 2) := by decide +kernel
theorem dX10_merge_45 : decode cX10_merge 45 = .ok (.aload_n 0, 1) := by decide +kernel
theorem dX10_merge_46 : decode cX10_merge 46 = .ok (.iload_n 3, 1) := by decide +kernel
theorem dX10_merge_47 : decode cX10_merge 47 = .ok (.iload 4, 2) := by decide +kernel
theorem dX10_merge_49 : decode cX10_merge 49 = .ok (.invokevirtual 264, 3) := by decide +kernel
theorem dX10_merge_52 : decode cX10_merge 52 = .ok (.aload_n 0, 1) := by decide +kernel
theorem dX10_merge_53 : decode cX10_merge 53 = .ok (.getfield 23, 3) := by decide +kernel
theorem dX10_merge_56 : decode cX10_merge 56 = .ok (.aload_n 0, 1) := by decide +kernel
theorem dX10_merge_57 : decode cX10_merge 57 = .ok (.getfield 67, 3) := by decide +kernel
theorem dX10_merge_60 : decode cX10_merge 60 = .ok (.invokevirtual 162, 3) := by decide +kernel
theorem dX10_merge_63 : decode cX10_merge 63 = .ok (.ifCond .ne 6, 3) := by decide +kernel
theorem dX10_merge_66 : decode cX10_merge 66 = .ok (.bipush (-3), 2) := by decide +kernel
theorem dX10_merge_68 : decode cX10_merge 68 = .ok (.ireturn, 1) := by decide +kernel
theorem dX10_merge_69 : decode cX10_merge 69 = .ok (.aload_n 0, 1) := by decide +kernel
theorem dX10_merge_70 : decode cX10_merge 70 = .ok (.getfield 67, 3) := by decide +kernel
theorem dX10_merge_73 : decode cX10_merge 73 = .ok (.getfield 183, 3) := by decide +kernel
theorem dX10_merge_76 : decode cX10_merge 76 = .ok (.bipush 8, 2) := by decide +kernel
theorem dX10_merge_78 : decode cX10_merge 78 = .ok (.if_icmp .le 6, 3) := by decide +kernel
theorem dX10_merge_81 : decode cX10_merge 81 = .ok (.bipush (-4), 2) := by decide +kernel
theorem dX10_merge_83 : decode cX10_merge 83 = .ok (.ireturn, 1) := by decide +kernel
theorem dX10_merge_84 : decode cX10_merge 84 = .ok (.aload_n 0, 1) := by decide +kernel
theorem dX10_merge_85 : decode cX10_merge 85 = .ok (.iload_n 3, 1) := by decide +kernel
theorem dX10_merge_86 : decode cX10_merge 86 = .ok (.invokevirtual 260, 3) := by decide +kernel
theorem dX10_merge_89 : decode cX10_merge 89 = .ok (.astore 5, 2) := by decide +kernel
theorem dX10_merge_91 : decode cX10_merge 91 = .ok (.aload 5, 2) := by decide +kernel
theorem dX10_merge_93 : decode cX10_merge 93 = .ok (.iload 4, 2) := by decide +kernel
theorem dX10_merge_95 : decode cX10_merge 95 = .ok (.putfield 276, 3) := by decide +kernel
theorem dX10_merge_98 : decode cX10_merge 98 = .ok (.aload_n 0, 1) := by decide +kernel
theorem dX10_merge_99 : decode cX10_merge 99 = .ok (.getfield 46, 3) := by decide +kernel
theorem dX10_merge_102 : decode cX10_merge 102 = .ok (.getfield 167, 3) := by decide +kernel
theorem dX10_merge_105 : decode cX10_merge 105 = .ok (.iload 4, 2) := by decide +kernel
theorem dX10_merge_107 : decode cX10_merge 107 = .ok (.aaload, 1) := by decide +kernel
theorem dX10_merge_108 : decode cX10_merge 108 = .ok (.iconst 1, 1) := by decide +kernel
theorem dX10_merge_109 : decode cX10_merge 109 = .ok (.putfield 195, 3) := by decide +kernel
theorem dX10_merge_112 : decode cX10_merge 112 = .ok (.iload_n 3, 1) := by decide +kernel
theorem dX10_merge_113 : decode cX10_merge 113 = .ok (.ireturn, 1) := by decide +kernel
theorem dX10_undo_0 : decode cX10_undo 0 = .ok (.aload_n 0, 1) := by decide +kernel
theorem dX10_undo_1 : decode cX10_undo 1 = .ok (.getfield 53, 3) := by decide +kernel
theorem dX10_undo_4 : decode cX10_undo 4 = .ok (.invokevirtual 281, 3) := by decide +kernel
theorem dX10_undo_7 : decode cX10_undo 7 = .ok (.astore_n 1, 1) := by decide +kernel
theorem dX10_undo_8 : decode cX10_undo 8 = .ok (.aload_n 1, 1) := by decide +kernel
theorem dX10_undo_9 : decode cX10_undo 9 = .ok (.ifnonnull 6, 3) := by decide +kernel
theorem dX10_undo_12 : decode cX10_undo 12 = .ok (.bipush (-3), 2) := by decide +kernel
theorem dX10_undo_14 : decode cX10_undo 14 = .ok (.ireturn, 1) := by decide +kernel
theorem dX10_undo_15 : decode cX10_undo 15 = .ok (.aload_n 0, 1) := by decide +kernel
theorem dX10_undo_16 : decode cX10_undo 16 = .ok (.getfield 46, 3) := by decide +kernel
theorem dX10_undo_19 : decode cX10_undo 19 = .ok (.aload_n 1, 1) := by decide +kernel
theorem dX10_undo_20 : decode cX10_undo 20 = .ok (.getfield 285, 3) := by decide +kernel
theorem dX10_undo_23 : decode cX10_undo 23 = .ok (.aload_n 1, 1) := by decide +kernel
theorem dX10_undo_24 : decode cX10_undo 24 = .ok (.getfield 287, 3) := by decide +kernel
theorem dX10_undo_27 : decode cX10_undo 27 = .ok (.invokevirtual 290, 3) := by decide +kernel
theorem dX10_undo_30 : decode cX10_undo 30 = .ok (.aload_n 1, 1) := by decide +kernel
theorem dX10_undo_31 : decode cX10_undo 31 = .ok (.getfield 294, 3) := by decide +kernel
theorem dX10_undo_34 : decode cX10_undo 34 = .ok (.ifCond .eq 19, 3) := by decide +kernel
theorem dX10_undo_37 : decode cX10_undo 37 = .ok (.aload_n 0, 1) := by decide +kernel
theorem dX10_undo_38 : decode cX10_undo 38 = .ok (.getfield 46, 3) := by decide +kernel
theorem dX10_undo_41 : decode cX10_undo 41 = .ok (.getfield 167, 3) := by decide +kernel
theorem dX10_undo_44 : decode cX10_undo 44 = .ok (.aload_n 1, 1) := by decide +kernel
theorem dX10_undo_45 : decode cX10_undo 45 = .ok (.getfield 285, 3) := by decide +kernel
theorem dX10_undo_48 : decode cX10_undo 48 = .ok (.aaload, 1) := by decide +kernel
theorem dX10_undo_49 : decode cX10_undo 49 = .ok (.iconst 1, 1) := by decide +kernel
theorem dX10_undo_50 : decode cX10_undo 50 = .ok (.putfield 195, 3) := by decide +kernel
theorem dX10_undo_53 : decode cX10_undo 53 = .ok (.aload_n 1, 1) := by decide +kernel
theorem dX10_undo_54 : decode cX10_undo 54 = .ok (.getfield 276, 3) := by decide +kernel
theorem dX10_undo_57 : decode cX10_undo 57 = .ok (.iconst (-1), 1) := by decide +kernel
theorem dX10_undo_58 : decode cX10_undo 58 = .ok (.if_icmp .eq 14, 3) := by decide +kernel
theorem dX10_undo_61 : decode cX10_undo 61 = .ok (.aload_n 0, 1) := by decide +kernel
theorem dX10_undo_62 : decode cX10_undo 62 = .ok (.getfield 46, 3) := by decide +kernel
theorem dX10_undo_65 : decode cX10_undo 65 = .ok (.aload_n 1, 1) := by decide +kernel
theorem dX10_undo_66 : decode cX10_undo 66 = .ok (.getfield 276, 3) := by decide +kernel
theorem dX10_undo_69 : decode cX10_undo 69 = .ok (.invokevirtual 297, 3) := by decide +kernel
theorem dX10_undo_72 : decode cX10_undo 72 = .ok (.aload_n 0, 1) := by decide +kernel
theorem dX10_undo_73 : decode cX10_undo 73 = .ok (.getfield 39, 3) := by decide +kernel
theorem dX10_undo_76 : decode cX10_undo 76 = .ok (.invokevirtual 86, 3) := by decide +kernel
theorem dX10_undo_79 : decode cX10_undo 79 = .ok (.aload_n 0, 1) := by decide +kernel
theorem dX10_undo_80 : decode cX10_undo 80 = .ok (.getfield 53, 3) := by decide +kernel
theorem dX10_undo_83 : decode cX10_undo 83 = .ok (.getfield 300, 3) := by decide +kernel
theorem dX10_undo_86 : decode cX10_undo 86 = .ok (.ireturn, 1) := by decide +kernel
theorem dX10_count_0 : decode cX10_count 0 = .ok (.iload_n 1, 1) := by decide +kernel
theorem dX10_count_1 : decode cX10_count 1 = .ok (.tableswitch 111 0 7 #[47, 55, 63, 71, 79, 87, 95, 103], 47) := by decide +kernel
theorem dX10_count_48 : decode cX10_count 48 = .ok (.aload_n 0, 1) := by decide +kernel
theorem dX10_count_49 : decode cX10_count 49 = .ok (.getfield 14, 3) := by decide +kernel
theorem dX10_count_52 : decode cX10_count 52 = .ok (.getfield 303, 3) := by decide +kernel
theorem dX10_count_55 : decode cX10_count 55 = .ok (.ireturn, 1) := by decide +kernel
theorem dX10_count_56 : decode cX10_count 56 = .ok (.aload_n 0, 1) := by decide +kernel
theorem dX10_count_57 : decode cX10_count 57 = .ok (.getfield 14, 3) := by decide +kernel
theorem dX10_count_60 : decode cX10_count 60 = .ok (.invokevirtual 306, 3) := by decide +kernel
theorem dX10_count_63 : decode cX10_count 63 = .ok (.ireturn, 1) := by decide +kernel
theorem dX10_count_64 : decode cX10_count 64 = .ok (.aload_n 0, 1) := by decide +kernel
theorem dX10_count_65 : decode cX10_count 65 = .ok (.getfield 46, 3) := by decide +kernel
theorem dX10_count_68 : decode cX10_count 68 = .ok (.invokevirtual 309, 3) := by decide +kernel
theorem dX10_count_71 : decode cX10_count 71 = .ok (.ireturn, 1) := by decide +kernel
theorem dX10_count_72 : decode cX10_count 72 = .ok (.aload_n 0, 1) := by decide +kernel
theorem dX10_count_73 : decode cX10_count 73 = .ok (.getfield 46, 3) := by decide +kernel
theorem dX10_count_76 : decode cX10_count 76 = .ok (.getfield 189, 3) := by decide +kernel
theorem dX10_count_79 : decode cX10_count 79 = .ok (.ireturn, 1) := by decide +kernel
theorem dX10_count_80 : decode cX10_count 80 = .ok (.aload_n 0, 1) := by decide +kernel
theorem dX10_count_81 : decode cX10_count 81 = .ok (.getfield 30, 3) := by decide +kernel
theorem dX10_count_84 : decode cX10_count 84 = .ok (.getfield 89, 3) := by decide +kernel
theorem dX10_count_87 : decode cX10_count 87 = .ok (.ireturn, 1) := by decide +kernel
theorem dX10_count_88 : decode cX10_count 88 = .ok (.aload_n 0, 1) := by decide +kernel
theorem dX10_count_89 : decode cX10_count 89 = .ok (.getfield 23, 3) := by decide +kernel
theorem dX10_count_92 : decode cX10_count 92 = .ok (.getfield 93, 3) := by decide +kernel
theorem dX10_count_95 : decode cX10_count 95 = .ok (.ireturn, 1) := by decide +kernel
theorem dX10_count_96 : decode cX10_count 96 = .ok (.aload_n 0, 1) := by decide +kernel
theorem dX10_count_97 : decode cX10_count 97 = .ok (.getfield 23, 3) := by decide +kernel
theorem dX10_count_100 : decode cX10_count 100 = .ok (.getfield 96, 3) := by decide +kernel
theorem dX10_count_103 : decode cX10_count 103 = .ok (.ireturn, 1) := by decide +kernel
theorem dX10_count_104 : decode cX10_count 104 = .ok (.aload_n 0, 1) := by decide +kernel
theorem dX10_count_105 : decode cX10_count 105 = .ok (.getfield 53, 3) := by decide +kernel
theorem dX10_count_108 : decode cX10_count 108 = .ok (.getfield 300, 3) := by decide +kernel
theorem dX10_count_111 : decode cX10_count 111 = .ok (.ireturn, 1) := by decide +kernel
theorem dX10_count_112 : decode cX10_count 112 = .ok (.iconst (-1), 1) := by decide +kernel
theorem dX10_count_113 : decode cX10_count 113 = .ok (.ireturn, 1) := by decide +kernel
theorem dX10_isWithin_0 : decode cX10_isWithin 0 = .ok (.iload_n 0, 1) := by decide +kernel
theorem dX10_isWithin_1 : decode cX10_isWithin 1 = .ok (.iload_n 1, 1) := by decide +kernel
theorem dX10_isWithin_2 : decode cX10_isWithin 2 = .ok (.if_icmp .lt 12, 3) := by decide +kernel
theorem dX10_isWithin_5 : decode cX10_isWithin 5 = .ok (.iload_n 0, 1) := by decide +kernel
theorem dX10_isWithin_6 : decode cX10_isWithin 6 = .ok (.iload_n 2, 1) := by decide +kernel
theorem dX10_isWithin_7 : decode cX10_isWithin 7 = .ok (.if_icmp .gt 7, 3) := by decide +kernel
theorem dX10_isWithin_10 : decode cX10_isWithin 10 = .ok (.iconst 1, 1) := by decide +kernel
theorem dX10_isWithin_11 : decode cX10_isWithin 11 = .ok (.goto 4, 3) := by decide +kernel
theorem dX10_isWithin_14 : decode cX10_isWithin 14 = .ok (.iconst 0, 1) := by decide +kernel
theorem dX10_isWithin_15 : decode cX10_isWithin 15 = .ok (.ireturn, 1) := by decide +kernel
theorem dX10_isName_0 : decode cX10_isName 0 = .ok (.iload_n 0, 1) := by decide +kernel
theorem dX10_isName_1 : decode cX10_isName 1 = .ok (.iconst 0, 1) := by decide +kernel
theorem dX10_isName_2 : decode cX10_isName 2 = .ok (.sipush 999, 3) := by decide +kernel
theorem dX10_isName_5 : decode cX10_isName 5 = .ok (.invokestatic 71, 3) := by decide +kernel
theorem dX10_isName_8 : decode cX10_isName 8 = .ok (.ireturn, 1) := by decide +kernel
theorem dX10_dotOfRow_0 : decode cX10_dotOfRow 0 = .ok (.iload_n 1, 1) := by decide +kernel
theorem dX10_dotOfRow_1 : decode cX10_dotOfRow 1 = .ok (.bipush 10, 2) := by decide +kernel
theorem dX10_dotOfRow_3 : decode cX10_dotOfRow 3 = .ok (.if_icmp .lt 14, 3) := by decide +kernel
theorem dX10_dotOfRow_6 : decode cX10_dotOfRow 6 = .ok (.iload_n 1, 1) := by decide +kernel
theorem dX10_dotOfRow_7 : decode cX10_dotOfRow 7 = .ok (.bipush 10, 2) := by decide +kernel
theorem dX10_dotOfRow_9 : decode cX10_dotOfRow 9 = .ok (.isub, 1) := by decide +kernel
theorem dX10_dotOfRow_10 : decode cX10_dotOfRow 10 = .ok (.aload_n 0, 1) := by decide +kernel
theorem dX10_dotOfRow_11 : decode cX10_dotOfRow 11 = .ok (.getfield 183, 3) := by decide +kernel
theorem dX10_dotOfRow_14 : decode cX10_dotOfRow 14 = .ok (.if_icmp .lt 5, 3) := by decide +kernel
theorem dX10_dotOfRow_17 : decode cX10_dotOfRow 17 = .ok (.iconst (-1), 1) := by decide +kernel
theorem dX10_dotOfRow_18 : decode cX10_dotOfRow 18 = .ok (.ireturn, 1) := by decide +kernel
theorem dX10_dotOfRow_19 : decode cX10_dotOfRow 19 = .ok (.aload_n 0, 1) := by decide +kernel
theorem dX10_dotOfRow_20 : decode cX10_dotOfRow 20 = .ok (.getfield 241, 3) := by decide +kernel
theorem dX10_dotOfRow_23 : decode cX10_dotOfRow 23 = .ok (.iload_n 1, 1) := by decide +kernel
theorem dX10_dotOfRow_24 : decode cX10_dotOfRow 24 = .ok (.bipush 10, 2) := by decide +kernel
theorem dX10_dotOfRow_26 : decode cX10_dotOfRow 26 = .ok (.isub, 1) := by decide +kernel
theorem dX10_dotOfRow_27 : decode cX10_dotOfRow 27 = .ok (.iaload, 1) := by decide +kernel
theorem dX10_dotOfRow_28 : decode cX10_dotOfRow 28 = .ok (.ireturn, 1) := by decide +kernel
theorem dX10_begin_0 : decode cX10_begin 0 = .ok (.aload_n 0, 1) := by decide +kernel
theorem dX10_begin_1 : decode cX10_begin 1 = .ok (.getfield 46, 3) := by decide +kernel
theorem dX10_begin_4 : decode cX10_begin 4 = .ok (.iload_n 1, 1) := by decide +kernel
theorem dX10_begin_5 : decode cX10_begin 5 = .ok (.invokevirtual 312, 3) := by decide +kernel
theorem dX10_begin_8 : decode cX10_begin 8 = .ok (.istore_n 2, 1) := by decide +kernel
theorem dX10_begin_9 : decode cX10_begin 9 = .ok (.iload_n 2, 1) := by decide +kernel
theorem dX10_begin_10 : decode cX10_begin 10 = .ok (.bipush (-4), 2) := by decide +kernel
theorem dX10_begin_12 : decode cX10_begin 12 = .ok (.if_icmp .eq 14, 3) := by decide +kernel
theorem dX10_begin_15 : decode cX10_begin 15 = .ok (.aload_n 0, 1) := by decide +kernel
theorem dX10_begin_16 : decode cX10_begin 16 = .ok (.iload_n 2, 1) := by decide +kernel
theorem dX10_begin_17 : decode cX10_begin 17 = .ok (.invokevirtual 260, 3) := by decide +kernel
theorem dX10_begin_20 : decode cX10_begin 20 = .ok (.astore_n 3, 1) := by decide +kernel
theorem dX10_begin_21 : decode cX10_begin 21 = .ok (.aload_n 3, 1) := by decide +kernel
theorem dX10_begin_22 : decode cX10_begin 22 = .ok (.iconst 1, 1) := by decide +kernel
theorem dX10_begin_23 : decode cX10_begin 23 = .ok (.putfield 294, 3) := by decide +kernel
theorem dX10_begin_26 : decode cX10_begin 26 = .ok (.iload_n 2, 1) := by decide +kernel
theorem dX10_begin_27 : decode cX10_begin 27 = .ok (.ireturn, 1) := by decide +kernel
theorem dX10_joinGroup_0 : decode cX10_joinGroup 0 = .ok (.aload_n 0, 1) := by decide +kernel
theorem dX10_joinGroup_1 : decode cX10_joinGroup 1 = .ok (.getfield 23, 3) := by decide +kernel
theorem dX10_joinGroup_4 : decode cX10_joinGroup 4 = .ok (.aload_n 0, 1) := by decide +kernel
theorem dX10_joinGroup_5 : decode cX10_joinGroup 5 = .ok (.getfield 67, 3) := by decide +kernel
theorem dX10_joinGroup_8 : decode cX10_joinGroup 8 = .ok (.invokevirtual 162, 3) := by decide +kernel
theorem dX10_joinGroup_11 : decode cX10_joinGroup 11 = .ok (.ifCond .ne 6, 3) := by decide +kernel
theorem dX10_joinGroup_14 : decode cX10_joinGroup 14 = .ok (.bipush (-3), 2) := by decide +kernel
theorem dX10_joinGroup_16 : decode cX10_joinGroup 16 = .ok (.ireturn, 1) := by decide +kernel
theorem dX10_joinGroup_17 : decode cX10_joinGroup 17 = .ok (.aload_n 0, 1) := by decide +kernel
theorem dX10_joinGroup_18 : decode cX10_joinGroup 18 = .ok (.getfield 67, 3) := by decide +kernel
theorem dX10_joinGroup_21 : decode cX10_joinGroup 21 = .ok (.getfield 183, 3) := by decide +kernel
theorem dX10_joinGroup_24 : decode cX10_joinGroup 24 = .ok (.bipush 8, 2) := by decide +kernel
theorem dX10_joinGroup_26 : decode cX10_joinGroup 26 = .ok (.if_icmp .le 8, 3) := by decide +kernel
theorem dX10_joinGroup_29 : decode cX10_joinGroup 29 = .ok (.bipush (-4), 2) := by decide +kernel
theorem dX10_joinGroup_31 : decode cX10_joinGroup 31 = .ok (.goto 8, 3) := by decide +kernel
theorem dX10_joinGroup_34 : decode cX10_joinGroup 34 = .ok (.aload_n 0, 1) := by decide +kernel
theorem dX10_joinGroup_35 : decode cX10_joinGroup 35 = .ok (.iload_n 1, 1) := by decide +kernel
theorem dX10_joinGroup_36 : decode cX10_joinGroup 36 = .ok (.invokevirtual 186, 3) := by decide +kernel
theorem dX10_joinGroup_39 : decode cX10_joinGroup 39 = .ok (.ireturn, 1) := by decide +kernel
theorem dX10_lengthen_0 : decode cX10_lengthen 0 = .ok (.aload_n 0, 1) := by decide +kernel
theorem dX10_lengthen_1 : decode cX10_lengthen 1 = .ok (.iload_n 1, 1) := by decide +kernel
theorem dX10_lengthen_2 : decode cX10_lengthen 2 = .ok (.invokevirtual 260, 3) := by decide +kernel
theorem dX10_lengthen_5 : decode cX10_lengthen 5 = .ok (.pop, 1) := by decide +kernel
theorem dX10_lengthen_6 : decode cX10_lengthen 6 = .ok (.aload_n 0, 1) := by decide +kernel
theorem dX10_lengthen_7 : decode cX10_lengthen 7 = .ok (.getfield 67, 3) := by decide +kernel
theorem dX10_lengthen_10 : decode cX10_lengthen 10 = .ok (.getfield 183, 3) := by decide +kernel
theorem dX10_lengthen_13 : decode cX10_lengthen 13 = .ok (.ireturn, 1) := by decide +kernel
theorem dX10_changeRow_0 : decode cX10_changeRow 0 = .ok (.aload_n 0, 1) := by decide +kernel
theorem dX10_changeRow_1 : decode cX10_changeRow 1 = .ok (.getfield 53, 3) := by decide +kernel
theorem dX10_changeRow_4 : decode cX10_changeRow 4 = .ok (.iload_n 1, 1) := by decide +kernel
theorem dX10_changeRow_5 : decode cX10_changeRow 5 = .ok (.aload_n 0, 1) := by decide +kernel
theorem dX10_changeRow_6 : decode cX10_changeRow 6 = .ok (.getfield 46, 3) := by decide +kernel
theorem dX10_changeRow_9 : decode cX10_changeRow 9 = .ok (.getfield 167, 3) := by decide +kernel
theorem dX10_changeRow_12 : decode cX10_changeRow 12 = .ok (.iload_n 1, 1) := by decide +kernel
theorem dX10_changeRow_13 : decode cX10_changeRow 13 = .ok (.aaload, 1) := by decide +kernel
theorem dX10_changeRow_14 : decode cX10_changeRow 14 = .ok (.getfield 171, 3) := by decide +kernel
theorem dX10_changeRow_17 : decode cX10_changeRow 17 = .ok (.invokevirtual 314, 3) := by decide +kernel
theorem dX10_changeRow_20 : decode cX10_changeRow 20 = .ok (.astore_n 2, 1) := by decide +kernel
theorem dX10_changeRow_21 : decode cX10_changeRow 21 = .ok (.aload_n 0, 1) := by decide +kernel
theorem dX10_changeRow_22 : decode cX10_changeRow 22 = .ok (.getfield 46, 3) := by decide +kernel
theorem dX10_changeRow_25 : decode cX10_changeRow 25 = .ok (.iload_n 1, 1) := by decide +kernel
theorem dX10_changeRow_26 : decode cX10_changeRow 26 = .ok (.aload_n 0, 1) := by decide +kernel
theorem dX10_changeRow_27 : decode cX10_changeRow 27 = .ok (.getfield 67, 3) := by decide +kernel
theorem dX10_changeRow_30 : decode cX10_changeRow 30 = .ok (.invokevirtual 290, 3) := by decide +kernel
theorem dX10_changeRow_33 : decode cX10_changeRow 33 = .ok (.aload_n 0, 1) := by decide +kernel
theorem dX10_changeRow_34 : decode cX10_changeRow 34 = .ok (.getfield 39, 3) := by decide +kernel
theorem dX10_changeRow_37 : decode cX10_changeRow 37 = .ok (.invokevirtual 86, 3) := by decide +kernel
theorem dX10_changeRow_40 : decode cX10_changeRow 40 = .ok (.aload_n 2, 1) := by decide +kernel
theorem dX10_changeRow_41 : decode cX10_changeRow 41 = .ok (.areturn, 1) := by decide +kernel
theorem dX10_gatherBoth_0 : decode cX10_gatherBoth 0 = .ok (.aload_n 0, 1) := by decide +kernel
theorem dX10_gatherBoth_1 : decode cX10_gatherBoth 1 = .ok (.getfield 67, 3) := by decide +kernel
theorem dX10_gatherBoth_4 : decode cX10_gatherBoth 4 = .ok (.aload_n 0, 1) := by decide +kernel
theorem dX10_gatherBoth_5 : decode cX10_gatherBoth 5 = .ok (.getfield 46, 3) := by decide +kernel
theorem dX10_gatherBoth_8 : decode cX10_gatherBoth 8 = .ok (.getfield 167, 3) := by decide +kernel
theorem dX10_gatherBoth_11 : decode cX10_gatherBoth 11 = .ok (.iload_n 1, 1) := by decide +kernel
theorem dX10_gatherBoth_12 : decode cX10_gatherBoth 12 = .ok (.aaload, 1) := by decide +kernel
theorem dX10_gatherBoth_13 : decode cX10_gatherBoth 13 = .ok (.getfield 171, 3) := by decide +kernel
theorem dX10_gatherBoth_16 : decode cX10_gatherBoth 16 = .ok (.invokevirtual 176, 3) := by decide +kernel
theorem dX10_gatherBoth_19 : decode cX10_gatherBoth 19 = .ok (.aload_n 0, 1) := by decide +kernel
theorem dX10_gatherBoth_20 : decode cX10_gatherBoth 20 = .ok (.getfield 67, 3) := by decide +kernel
theorem dX10_gatherBoth_23 : decode cX10_gatherBoth 23 = .ok (.aload_n 0, 1) := by decide +kernel
theorem dX10_gatherBoth_24 : decode cX10_gatherBoth 24 = .ok (.getfield 46, 3) := by decide +kernel
theorem dX10_gatherBoth_27 : decode cX10_gatherBoth 27 = .ok (.getfield 167, 3) := by decide +kernel
theorem dX10_gatherBoth_30 : decode cX10_gatherBoth 30 = .ok (.iload_n 2, 1) := by decide +kernel
theorem dX10_gatherBoth_31 : decode cX10_gatherBoth 31 = .ok (.aaload, 1) := by decide +kernel
theorem dX10_gatherBoth_32 : decode cX10_gatherBoth 32 = .ok (.getfield 171, 3) := by decide +kernel
theorem dX10_gatherBoth_35 : decode cX10_gatherBoth 35 = .ok (.invokevirtual 318, 3) := by decide +kernel
theorem dX10_gatherBoth_38 : decode cX10_gatherBoth 38 = .ok (.return_, 1) := by decide +kernel
theorem dX10_lay_0 : decode cX10_lay 0 = .ok (.aload_n 0, 1) := by decide +kernel
theorem dX10_lay_1 : decode cX10_lay 1 = .ok (.getfield 46, 3) := by decide +kernel
theorem dX10_lay_4 : decode cX10_lay 4 = .ok (.iload_n 1, 1) := by decide +kernel
theorem dX10_lay_5 : decode cX10_lay 5 = .ok (.invokevirtual 166, 3) := by decide +kernel
theorem dX10_lay_8 : decode cX10_lay 8 = .ok (.ifCond .eq 43, 3) := by decide +kernel
theorem dX10_lay_11 : decode cX10_lay 11 = .ok (.iload_n 2, 1) := by decide +kernel
theorem dX10_lay_12 : decode cX10_lay 12 = .ok (.iconst 0, 1) := by decide +kernel
theorem dX10_lay_13 : decode cX10_lay 13 = .ok (.iconst 1, 1) := by decide +kernel
theorem dX10_lay_14 : decode cX10_lay 14 = .ok (.invokestatic 71, 3) := by decide +kernel
theorem dX10_lay_17 : decode cX10_lay 17 = .ok (.ifCond .eq 34, 3) := by decide +kernel
theorem dX10_lay_20 : decode cX10_lay 20 = .ok (.aload_n 0, 1) := by decide +kernel
theorem dX10_lay_21 : decode cX10_lay 21 = .ok (.getfield 60, 3) := by decide +kernel
theorem dX10_lay_24 : decode cX10_lay 24 = .ok (.aload_n 0, 1) := by decide +kernel
theorem dX10_lay_25 : decode cX10_lay 25 = .ok (.getfield 14, 3) := by decide +kernel
theorem dX10_lay_28 : decode cX10_lay 28 = .ok (.aload_n 0, 1) := by decide +kernel
theorem dX10_lay_29 : decode cX10_lay 29 = .ok (.getfield 46, 3) := by decide +kernel
theorem dX10_lay_32 : decode cX10_lay 32 = .ok (.getfield 167, 3) := by decide +kernel
theorem dX10_lay_35 : decode cX10_lay 35 = .ok (.iload_n 1, 1) := by decide +kernel
theorem dX10_lay_36 : decode cX10_lay 36 = .ok (.aaload, 1) := by decide +kernel
theorem dX10_lay_37 : decode cX10_lay 37 = .ok (.getfield 171, 3) := by decide +kernel
theorem dX10_lay_40 : decode cX10_lay 40 = .ok (.iload_n 2, 1) := by decide +kernel
theorem dX10_lay_41 : decode cX10_lay 41 = .ok (.invokevirtual 321, 3) := by decide +kernel
theorem dX10_lay_44 : decode cX10_lay 44 = .ok (.ifCond .eq 7, 3) := by decide +kernel
theorem dX10_lay_47 : decode cX10_lay 47 = .ok (.iconst 1, 1) := by decide +kernel
theorem dX10_lay_48 : decode cX10_lay 48 = .ok (.goto 4, 3) := by decide +kernel
theorem dX10_lay_51 : decode cX10_lay 51 = .ok (.iconst 0, 1) := by decide +kernel
theorem dX10_lay_52 : decode cX10_lay 52 = .ok (.ireturn, 1) := by decide +kernel
theorem dX10_parting_0 : decode cX10_parting 0 = .ok (.iconst 1, 1) := by decide +kernel
theorem dX10_parting_1 : decode cX10_parting 1 = .ok (.aload_n 1, 1) := by decide +kernel
theorem dX10_parting_2 : decode cX10_parting 2 = .ok (.getfield 183, 3) := by decide +kernel
theorem dX10_parting_5 : decode cX10_parting 5 = .ok (.ishl, 1) := by decide +kernel
theorem dX10_parting_6 : decode cX10_parting 6 = .ok (.iconst 1, 1) := by decide +kernel
theorem dX10_parting_7 : decode cX10_parting 7 = .ok (.isub, 1) := by decide +kernel
theorem dX10_parting_8 : decode cX10_parting 8 = .ok (.istore_n 2, 1) := by decide +kernel
theorem dX10_parting_9 : decode cX10_parting 9 = .ok (.iload_n 2, 1) := by decide +kernel
theorem dX10_parting_10 : decode cX10_parting 10 = .ok (.istore_n 3, 1) := by decide +kernel
theorem dX10_parting_11 : decode cX10_parting 11 = .ok (.iload_n 3, 1) := by decide +kernel
theorem dX10_parting_12 : decode cX10_parting 12 = .ok (.ifCond .lt 42, 3) := by decide +kernel
theorem dX10_parting_15 : decode cX10_parting 15 = .ok (.iload_n 3, 1) := by decide +kernel
theorem dX10_parting_16 : decode cX10_parting 16 = .ok (.invokestatic 325, 3) := by decide +kernel
theorem dX10_parting_19 : decode cX10_parting 19 = .ok (.iload_n 2, 1) := by decide +kernel
theorem dX10_parting_20 : decode cX10_parting 20 = .ok (.invokestatic 325, 3) := by decide +kernel
theorem dX10_parting_23 : decode cX10_parting 23 = .ok (.if_icmp .ge 25, 3) := by decide +kernel
theorem dX10_parting_26 : decode cX10_parting 26 = .ok (.aload_n 0, 1) := by decide +kernel
theorem dX10_parting_27 : decode cX10_parting 27 = .ok (.aload_n 1, 1) := by decide +kernel
theorem dX10_parting_28 : decode cX10_parting 28 = .ok (.iload_n 3, 1) := by decide +kernel
theorem dX10_parting_29 : decode cX10_parting 29 = .ok (.invokevirtual 256, 3) := by decide +kernel
theorem dX10_parting_32 : decode cX10_parting 32 = .ok (.aload_n 0, 1) := by decide +kernel
theorem dX10_parting_33 : decode cX10_parting 33 = .ok (.getfield 23, 3) := by decide +kernel
theorem dX10_parting_36 : decode cX10_parting 36 = .ok (.aload_n 0, 1) := by decide +kernel
theorem dX10_parting_37 : decode cX10_parting 37 = .ok (.getfield 67, 3) := by decide +kernel
theorem dX10_parting_40 : decode cX10_parting 40 = .ok (.invokevirtual 162, 3) := by decide +kernel
theorem dX10_parting_43 : decode cX10_parting 43 = .ok (.ifCond .eq 5, 3) := by decide +kernel
theorem dX10_parting_46 : decode cX10_parting 46 = .ok (.iload_n 3, 1) := by decide +kernel
theorem dX10_parting_47 : decode cX10_parting 47 = .ok (.istore_n 2, 1) := by decide +kernel
theorem dX10_parting_48 : decode cX10_parting 48 = .ok (.iinc 3 (-1), 3) := by decide +kernel
theorem dX10_parting_51 : decode cX10_parting 51 = .ok (.goto (-40), 3) := by decide +kernel
theorem dX10_parting_54 : decode cX10_parting 54 = .ok (.iload_n 2, 1) := by decide +kernel
theorem dX10_parting_55 : decode cX10_parting 55 = .ok (.ireturn, 1) := by decide +kernel
theorem dX10_keepStaying_0 : decode cX10_keepStaying 0 = .ok (.aload_n 0, 1) := by decide +kernel
theorem dX10_keepStaying_1 : decode cX10_keepStaying 1 = .ok (.getfield 67, 3) := by decide +kernel
theorem dX10_keepStaying_4 : decode cX10_keepStaying 4 = .ok (.invokevirtual 153, 3) := by decide +kernel
theorem dX10_keepStaying_7 : decode cX10_keepStaying 7 = .ok (.iconst 0, 1) := by decide +kernel
theorem dX10_keepStaying_8 : decode cX10_keepStaying 8 = .ok (.istore_n 3, 1) := by decide +kernel
theorem dX10_keepStaying_9 : decode cX10_keepStaying 9 = .ok (.iload_n 3, 1) := by decide +kernel
theorem dX10_keepStaying_10 : decode cX10_keepStaying 10 = .ok (.aload_n 1, 1) := by decide +kernel
theorem dX10_keepStaying_11 : decode cX10_keepStaying 11 = .ok (.getfield 183, 3) := by decide +kernel
theorem dX10_keepStaying_14 : decode cX10_keepStaying 14 = .ok (.if_icmp .ge 37, 3) := by decide +kernel
theorem dX10_keepStaying_17 : decode cX10_keepStaying 17 = .ok (.iload_n 2, 1) := by decide +kernel
theorem dX10_keepStaying_18 : decode cX10_keepStaying 18 = .ok (.aload_n 1, 1) := by decide +kernel
theorem dX10_keepStaying_19 : decode cX10_keepStaying 19 = .ok (.getfield 183, 3) := by decide +kernel
theorem dX10_keepStaying_22 : decode cX10_keepStaying 22 = .ok (.iconst 1, 1) := by decide +kernel
theorem dX10_keepStaying_23 : decode cX10_keepStaying 23 = .ok (.isub, 1) := by decide +kernel
theorem dX10_keepStaying_24 : decode cX10_keepStaying 24 = .ok (.iload_n 3, 1) := by decide +kernel
theorem dX10_keepStaying_25 : decode cX10_keepStaying 25 = .ok (.isub, 1) := by decide +kernel
theorem dX10_keepStaying_26 : decode cX10_keepStaying 26 = .ok (.ishr, 1) := by decide +kernel
theorem dX10_keepStaying_27 : decode cX10_keepStaying 27 = .ok (.iconst 1, 1) := by decide +kernel
theorem dX10_keepStaying_28 : decode cX10_keepStaying 28 = .ok (.iand, 1) := by decide +kernel
theorem dX10_keepStaying_29 : decode cX10_keepStaying 29 = .ok (.ifCond .ne 16, 3) := by decide +kernel
theorem dX10_keepStaying_32 : decode cX10_keepStaying 32 = .ok (.aload_n 0, 1) := by decide +kernel
theorem dX10_keepStaying_33 : decode cX10_keepStaying 33 = .ok (.getfield 67, 3) := by decide +kernel
theorem dX10_keepStaying_36 : decode cX10_keepStaying 36 = .ok (.aload_n 1, 1) := by decide +kernel
theorem dX10_keepStaying_37 : decode cX10_keepStaying 37 = .ok (.getfield 241, 3) := by decide +kernel
theorem dX10_keepStaying_40 : decode cX10_keepStaying 40 = .ok (.iload_n 3, 1) := by decide +kernel
theorem dX10_keepStaying_41 : decode cX10_keepStaying 41 = .ok (.iaload, 1) := by decide +kernel
theorem dX10_keepStaying_42 : decode cX10_keepStaying 42 = .ok (.invokevirtual 156, 3) := by decide +kernel
theorem dX10_keepStaying_45 : decode cX10_keepStaying 45 = .ok (.iinc 3 1, 3) := by decide +kernel
theorem dX10_keepStaying_48 : decode cX10_keepStaying 48 = .ok (.goto (-39), 3) := by decide +kernel
theorem dX10_keepStaying_51 : decode cX10_keepStaying 51 = .ok (.return_, 1) := by decide +kernel
end
section
theorem dX11_init_0 : decode cX11_init 0 = .ok (.aload_n 0, 1) := by decide +kernel
theorem dX11_init_1 : decode cX11_init 1 = .ok (.invokespecial 1, 3) := by decide +kernel
theorem dX11_init_4 : decode cX11_init 4 = .ok (.aload_n 0, 1) := by decide +kernel
theorem dX11_init_5 : decode cX11_init 5 = .ok (.bipush 10, 2) := by decide +kernel
theorem dX11_init_7 : decode cX11_init 7 = .ok (.putfield 7, 3) := by decide +kernel
theorem dX11_init_10 : decode cX11_init 10 = .ok (.aload_n 0, 1) := by decide +kernel
theorem dX11_init_11 : decode cX11_init 11 = .ok (.bipush 10, 2) := by decide +kernel
theorem dX11_init_13 : decode cX11_init 13 = .ok (.putfield 13, 3) := by decide +kernel
theorem dX11_init_16 : decode cX11_init 16 = .ok (.aload_n 0, 1) := by decide +kernel
theorem dX11_init_17 : decode cX11_init 17 = .ok (.bipush 10, 2) := by decide +kernel
theorem dX11_init_19 : decode cX11_init 19 = .ok (.putfield 16, 3) := by decide +kernel
theorem dX11_init_22 : decode cX11_init 22 = .ok (.aload_n 0, 1) := by decide +kernel
theorem dX11_init_23 : decode cX11_init 23 = .ok (.bipush 60, 2) := by decide +kernel
theorem dX11_init_25 : decode cX11_init 25 = .ok (.newarray .int, 2) := by decide +kernel
theorem dX11_init_27 : decode cX11_init 27 = .ok (.putfield 19, 3) := by decide +kernel
theorem dX11_init_30 : decode cX11_init 30 = .ok (.aload_n 0, 1) := by decide +kernel
theorem dX11_init_31 : decode cX11_init 31 = .ok (.bipush 60, 2) := by decide +kernel
theorem dX11_init_33 : decode cX11_init 33 = .ok (.newarray .int, 2) := by decide +kernel
theorem dX11_init_35 : decode cX11_init 35 = .ok (.putfield 23, 3) := by decide +kernel
theorem dX11_init_38 : decode cX11_init 38 = .ok (.aload_n 0, 1) := by decide +kernel
theorem dX11_init_39 : decode cX11_init 39 = .ok (.bipush 60, 2) := by decide +kernel
theorem dX11_init_41 : decode cX11_init 41 = .ok (.newarray .int, 2) := by decide +kernel
theorem dX11_init_43 : decode cX11_init 43 = .ok (.putfield 26, 3) := by decide +kernel
theorem dX11_init_46 : decode cX11_init 46 = .ok (.aload_n 0, 1) := by decide +kernel
theorem dX11_init_47 : decode cX11_init 47 = .ok (.bipush 60, 2) := by decide +kernel
theorem dX11_init_49 : decode cX11_init 49 = .ok (.newarray .int, 2) := by decide +kernel
theorem dX11_init_51 : decode cX11_init 51 = .ok (.putfield 29, 3) := by decide +kernel
theorem dX11_init_54 : decode cX11_init 54 = .ok (.aload_n 0, 1) := by decide +kernel
theorem dX11_init_55 : decode cX11_init 55 = .ok (.bipush 60, 2) := by decide +kernel
theorem dX11_init_57 : decode cX11_init 57 = .ok (.newarray .int, 2) := by decide +kernel
theorem dX11_init_59 : decode cX11_init 59 = .ok (.putfield 32, 3) := by decide +kernel
theorem dX11_init_62 : decode cX11_init 62 = .ok (.aload_n 0, 1) := by decide +kernel
theorem dX11_init_63 : decode cX11_init 63 = .ok (.bipush 12, 2) := by decide +kernel
theorem dX11_init_65 : decode cX11_init 65 = .ok (.newarray .int, 2) := by decide +kernel
theorem dX11_init_67 : decode cX11_init 67 = .ok (.putfield 35, 3) := by decide +kernel
theorem dX11_init_70 : decode cX11_init 70 = .ok (.aload_n 0, 1) := by decide +kernel
theorem dX11_init_71 : decode cX11_init 71 = .ok (.bipush 12, 2) := by decide +kernel
theorem dX11_init_73 : decode cX11_init 73 = .ok (.newarray .int, 2) := by decide +kernel
theorem dX11_init_75 : decode cX11_init 75 = .ok (.putfield 38, 3) := by decide +kernel
theorem dX11_init_78 : decode cX11_init 78 = .ok (.aload_n 0, 1) := by decide +kernel
theorem dX11_init_79 : decode cX11_init 79 = .ok (.bipush 96, 2) := by decide +kernel
theorem dX11_init_81 : decode cX11_init 81 = .ok (.newarray .int, 2) := by decide +kernel
theorem dX11_init_83 : decode cX11_init 83 = .ok (.putfield 41, 3) := by decide +kernel
theorem dX11_init_86 : decode cX11_init 86 = .ok (.aload_n 0, 1) := by decide +kernel
theorem dX11_init_87 : decode cX11_init 87 = .ok (.bipush 12, 2) := by decide +kernel
theorem dX11_init_89 : decode cX11_init 89 = .ok (.newarray .boolean, 2) := by decide +kernel
theorem dX11_init_91 : decode cX11_init 91 = .ok (.putfield 44, 3) := by decide +kernel
theorem dX11_init_94 : decode cX11_init 94 = .ok (.aload_n 0, 1) := by decide +kernel
theorem dX11_init_95 : decode cX11_init 95 = .ok (.bipush 16, 2) := by decide +kernel
theorem dX11_init_97 : decode cX11_init 97 = .ok (.newarray .int, 2) := by decide +kernel
theorem dX11_init_99 : decode cX11_init 99 = .ok (.putfield 48, 3) := by decide +kernel
theorem dX11_init_102 : decode cX11_init 102 = .ok (.aload_n 0, 1) := by decide +kernel
theorem dX11_init_103 : decode cX11_init 103 = .ok (.sipush 1800, 3) := by decide +kernel
theorem dX11_init_106 : decode cX11_init 106 = .ok (.newarray .int, 2) := by decide +kernel
theorem dX11_init_108 : decode cX11_init 108 = .ok (.putfield 51, 3) := by decide +kernel
theorem dX11_init_111 : decode cX11_init 111 = .ok (.aload_n 0, 1) := by decide +kernel
theorem dX11_init_112 : decode cX11_init 112 = .ok (.sipush 1800, 3) := by decide +kernel
theorem dX11_init_115 : decode cX11_init 115 = .ok (.newarray .int, 2) := by decide +kernel
theorem dX11_init_117 : decode cX11_init 117 = .ok (.putfield 54, 3) := by decide +kernel
theorem dX11_init_120 : decode cX11_init 120 = .ok (.aload_n 0, 1) := by decide +kernel
theorem dX11_init_121 : decode cX11_init 121 = .ok (.sipush 800, 3) := by decide +kernel
theorem dX11_init_124 : decode cX11_init 124 = .ok (.newarray .int, 2) := by decide +kernel
theorem dX11_init_126 : decode cX11_init 126 = .ok (.putfield 57, 3) := by decide +kernel
theorem dX11_init_129 : decode cX11_init 129 = .ok (.aload_n 0, 1) := by decide +kernel
theorem dX11_init_130 : decode cX11_init 130 = .ok (.sipush 800, 3) := by decide +kernel
theorem dX11_init_133 : decode cX11_init 133 = .ok (.newarray .int, 2) := by decide +kernel
theorem dX11_init_135 : decode cX11_init 135 = .ok (.putfield 60, 3) := by decide +kernel
theorem dX11_init_138 : decode cX11_init 138 = .ok (.aload_n 0, 1) := by decide +kernel
theorem dX11_init_139 : decode cX11_init 139 = .ok (.bipush 30, 2) := by decide +kernel
theorem dX11_init_141 : decode cX11_init 141 = .ok (.newarray .int, 2) := by decide +kernel
theorem dX11_init_143 : decode cX11_init 143 = .ok (.putfield 63, 3) := by decide +kernel
theorem dX11_init_146 : decode cX11_init 146 = .ok (.aload_n 0, 1) := by decide +kernel
theorem dX11_init_147 : decode cX11_init 147 = .ok (.sipush 360, 3) := by decide +kernel
theorem dX11_init_150 : decode cX11_init 150 = .ok (.newarray .int, 2) := by decide +kernel
theorem dX11_init_152 : decode cX11_init 152 = .ok (.putfield 66, 3) := by decide +kernel
theorem dX11_init_155 : decode cX11_init 155 = .ok (.aload_n 0, 1) := by decide +kernel
theorem dX11_init_156 : decode cX11_init 156 = .ok (.sipush 2880, 3) := by decide +kernel
theorem dX11_init_159 : decode cX11_init 159 = .ok (.newarray .int, 2) := by decide +kernel
theorem dX11_init_161 : decode cX11_init 161 = .ok (.putfield 69, 3) := by decide +kernel
theorem dX11_init_164 : decode cX11_init 164 = .ok (.aload_n 0, 1) := by decide +kernel
theorem dX11_init_165 : decode cX11_init 165 = .ok (.sipush 360, 3) := by decide +kernel
theorem dX11_init_168 : decode cX11_init 168 = .ok (.newarray .boolean, 2) := by decide +kernel
theorem dX11_init_170 : decode cX11_init 170 = .ok (.putfield 72, 3) := by decide +kernel
theorem dX11_init_173 : decode cX11_init 173 = .ok (.return_, 1) := by decide +kernel
theorem dX11_isIn_0 : decode cX11_isIn 0 = .ok (.iload_n 0, 1) := by decide +kernel
theorem dX11_isIn_1 : decode cX11_isIn 1 = .ok (.iload_n 1, 1) := by decide +kernel
theorem dX11_isIn_2 : decode cX11_isIn 2 = .ok (.if_icmp .lt 12, 3) := by decide +kernel
theorem dX11_isIn_5 : decode cX11_isIn 5 = .ok (.iload_n 0, 1) := by decide +kernel
theorem dX11_isIn_6 : decode cX11_isIn 6 = .ok (.iload_n 2, 1) := by decide +kernel
theorem dX11_isIn_7 : decode cX11_isIn 7 = .ok (.if_icmp .gt 7, 3) := by decide +kernel
theorem dX11_isIn_10 : decode cX11_isIn 10 = .ok (.iconst 1, 1) := by decide +kernel
theorem dX11_isIn_11 : decode cX11_isIn 11 = .ok (.goto 4, 3) := by decide +kernel
theorem dX11_isIn_14 : decode cX11_isIn 14 = .ok (.iconst 0, 1) := by decide +kernel
theorem dX11_isIn_15 : decode cX11_isIn 15 = .ok (.ireturn, 1) := by decide +kernel
theorem dX11_isDot_0 : decode cX11_isDot 0 = .ok (.iload_n 1, 1) := by decide +kernel
theorem dX11_isDot_1 : decode cX11_isDot 1 = .ok (.iconst 0, 1) := by decide +kernel
theorem dX11_isDot_2 : decode cX11_isDot 2 = .ok (.aload_n 0, 1) := by decide +kernel
theorem dX11_isDot_3 : decode cX11_isDot 3 = .ok (.getfield 75, 3) := by decide +kernel
theorem dX11_isDot_6 : decode cX11_isDot 6 = .ok (.iconst 1, 1) := by decide +kernel
theorem dX11_isDot_7 : decode cX11_isDot 7 = .ok (.isub, 1) := by decide +kernel
theorem dX11_isDot_8 : decode cX11_isDot 8 = .ok (.invokestatic 78, 3) := by decide +kernel
theorem dX11_isDot_11 : decode cX11_isDot 11 = .ok (.ireturn, 1) := by decide +kernel
theorem dX11_isPath_0 : decode cX11_isPath 0 = .ok (.iload_n 1, 1) := by decide +kernel
theorem dX11_isPath_1 : decode cX11_isPath 1 = .ok (.iconst 0, 1) := by decide +kernel
theorem dX11_isPath_2 : decode cX11_isPath 2 = .ok (.aload_n 0, 1) := by decide +kernel
theorem dX11_isPath_3 : decode cX11_isPath 3 = .ok (.getfield 82, 3) := by decide +kernel
theorem dX11_isPath_6 : decode cX11_isPath 6 = .ok (.iconst 1, 1) := by decide +kernel
theorem dX11_isPath_7 : decode cX11_isPath 7 = .ok (.isub, 1) := by decide +kernel
theorem dX11_isPath_8 : decode cX11_isPath 8 = .ok (.invokestatic 78, 3) := by decide +kernel
theorem dX11_isPath_11 : decode cX11_isPath 11 = .ok (.ifCond .eq 16, 3) := by decide +kernel
theorem dX11_isPath_14 : decode cX11_isPath 14 = .ok (.aload_n 0, 1) := by decide +kernel
theorem dX11_isPath_15 : decode cX11_isPath 15 = .ok (.getfield 44, 3) := by decide +kernel
theorem dX11_isPath_18 : decode cX11_isPath 18 = .ok (.iload_n 1, 1) := by decide +kernel
theorem dX11_isPath_19 : decode cX11_isPath 19 = .ok (.baload, 1) := by decide +kernel
theorem dX11_isPath_20 : decode cX11_isPath 20 = .ok (.ifCond .ne 7, 3) := by decide +kernel
theorem dX11_isPath_23 : decode cX11_isPath 23 = .ok (.iconst 1, 1) := by decide +kernel
theorem dX11_isPath_24 : decode cX11_isPath 24 = .ok (.goto 4, 3) := by decide +kernel
theorem dX11_isPath_27 : decode cX11_isPath 27 = .ok (.iconst 0, 1) := by decide +kernel
theorem dX11_isPath_28 : decode cX11_isPath 28 = .ok (.ireturn, 1) := by decide +kernel
theorem dX11_dot_0 : decode cX11_dot 0 = .ok (.iload_n 1, 1) := by decide +kernel
theorem dX11_dot_1 : decode cX11_dot 1 = .ok (.iconst 0, 1) := by decide +kernel
theorem dX11_dot_2 : decode cX11_dot 2 = .ok (.sipush 400, 3) := by decide +kernel
theorem dX11_dot_5 : decode cX11_dot 5 = .ok (.invokestatic 78, 3) := by decide +kernel
theorem dX11_dot_8 : decode cX11_dot 8 = .ok (.ifCond .eq 40, 3) := by decide +kernel
theorem dX11_dot_11 : decode cX11_dot 11 = .ok (.iload_n 2, 1) := by decide +kernel
theorem dX11_dot_12 : decode cX11_dot 12 = .ok (.sipush (-9000), 3) := by decide +kernel
theorem dX11_dot_15 : decode cX11_dot 15 = .ok (.sipush 9000, 3) := by decide +kernel
theorem dX11_dot_18 : decode cX11_dot 18 = .ok (.invokestatic 78, 3) := by decide +kernel
theorem dX11_dot_21 : decode cX11_dot 21 = .ok (.ifCond .eq 27, 3) := by decide +kernel
theorem dX11_dot_24 : decode cX11_dot 24 = .ok (.iload_n 3, 1) := by decide +kernel
theorem dX11_dot_25 : decode cX11_dot 25 = .ok (.sipush (-9000), 3) := by decide +kernel
theorem dX11_dot_28 : decode cX11_dot 28 = .ok (.sipush 9000, 3) := by decide +kernel
theorem dX11_dot_31 : decode cX11_dot 31 = .ok (.invokestatic 78, 3) := by decide +kernel
theorem dX11_dot_34 : decode cX11_dot 34 = .ok (.ifCond .eq 14, 3) := by decide +kernel
theorem dX11_dot_37 : decode cX11_dot 37 = .ok (.iload 4, 2) := by decide +kernel
theorem dX11_dot_39 : decode cX11_dot 39 = .ok (.iconst 0, 1) := by decide +kernel
theorem dX11_dot_40 : decode cX11_dot 40 = .ok (.bipush 9, 2) := by decide +kernel
theorem dX11_dot_42 : decode cX11_dot 42 = .ok (.invokestatic 78, 3) := by decide +kernel
theorem dX11_dot_45 : decode cX11_dot 45 = .ok (.ifCond .ne 6, 3) := by decide +kernel
theorem dX11_dot_48 : decode cX11_dot 48 = .ok (.bipush (-2), 2) := by decide +kernel
theorem dX11_dot_50 : decode cX11_dot 50 = .ok (.ireturn, 1) := by decide +kernel
theorem dX11_dot_51 : decode cX11_dot 51 = .ok (.iconst 0, 1) := by decide +kernel
theorem dX11_dot_52 : decode cX11_dot 52 = .ok (.istore 5, 2) := by decide +kernel
theorem dX11_dot_54 : decode cX11_dot 54 = .ok (.iload 5, 2) := by decide +kernel
theorem dX11_dot_56 : decode cX11_dot 56 = .ok (.aload_n 0, 1) := by decide +kernel
theorem dX11_dot_57 : decode cX11_dot 57 = .ok (.getfield 75, 3) := by decide +kernel
theorem dX11_dot_60 : decode cX11_dot 60 = .ok (.if_icmp .ge 45, 3) := by decide +kernel
theorem dX11_dot_63 : decode cX11_dot 63 = .ok (.aload_n 0, 1) := by decide +kernel
theorem dX11_dot_64 : decode cX11_dot 64 = .ok (.getfield 19, 3) := by decide +kernel
theorem dX11_dot_67 : decode cX11_dot 67 = .ok (.iload 5, 2) := by decide +kernel
theorem dX11_dot_69 : decode cX11_dot 69 = .ok (.iaload, 1) := by decide +kernel
theorem dX11_dot_70 : decode cX11_dot 70 = .ok (.iload_n 1, 1) := by decide +kernel
theorem dX11_dot_71 : decode cX11_dot 71 = .ok (.if_icmp .ne 28, 3) := by decide +kernel
theorem dX11_dot_74 : decode cX11_dot 74 = .ok (.aload_n 0, 1) := by decide +kernel
theorem dX11_dot_75 : decode cX11_dot 75 = .ok (.getfield 23, 3) := by decide +kernel
theorem dX11_dot_78 : decode cX11_dot 78 = .ok (.iload 5, 2) := by decide +kernel
theorem dX11_dot_80 : decode cX11_dot 80 = .ok (.iaload, 1) := by decide +kernel
theorem dX11_dot_81 : decode cX11_dot 81 = .ok (.iload_n 2, 1) := by decide +kernel
theorem dX11_dot_82 : decode cX11_dot 82 = .ok (.if_icmp .ne 17, 3) := by decide +kernel
theorem dX11_dot_85 : decode cX11_dot 85 = .ok (.aload_n 0, 1) := by decide +kernel
theorem dX11_dot_86 : decode cX11_dot 86 = .ok (.getfield 26, 3) := by decide +kernel
theorem dX11_dot_89 : decode cX11_dot 89 = .ok (.iload 5, 2) := by decide +kernel
theorem dX11_dot_91 : decode cX11_dot 91 = .ok (.iaload, 1) := by decide +kernel
theorem dX11_dot_92 : decode cX11_dot 92 = .ok (.iload_n 3, 1) := by decide +kernel
theorem dX11_dot_93 : decode cX11_dot 93 = .ok (.if_icmp .ne 6, 3) := by decide +kernel
theorem dX11_dot_96 : decode cX11_dot 96 = .ok (.iload 5, 2) := by decide +kernel
theorem dX11_dot_98 : decode cX11_dot 98 = .ok (.ireturn, 1) := by decide +kernel
theorem dX11_dot_99 : decode cX11_dot 99 = .ok (.iinc 5 1, 3) := by decide +kernel
theorem dX11_dot_102 : decode cX11_dot 102 = .ok (.goto (-48), 3) := by decide +kernel
theorem dX11_dot_105 : decode cX11_dot 105 = .ok (.aload_n 0, 1) := by decide +kernel
theorem dX11_dot_106 : decode cX11_dot 106 = .ok (.getfield 75, 3) := by decide +kernel
theorem dX11_dot_109 : decode cX11_dot 109 = .ok (.bipush 60, 2) := by decide +kernel
theorem dX11_dot_111 : decode cX11_dot 111 = .ok (.if_icmp .ne 6, 3) := by decide +kernel
theorem dX11_dot_114 : decode cX11_dot 114 = .ok (.bipush (-4), 2) := by decide +kernel
theorem dX11_dot_116 : decode cX11_dot 116 = .ok (.ireturn, 1) := by decide +kernel
theorem dX11_dot_117 : decode cX11_dot 117 = .ok (.aload_n 0, 1) := by decide +kernel
theorem dX11_dot_118 : decode cX11_dot 118 = .ok (.getfield 19, 3) := by decide +kernel
theorem dX11_dot_121 : decode cX11_dot 121 = .ok (.aload_n 0, 1) := by decide +kernel
theorem dX11_dot_122 : decode cX11_dot 122 = .ok (.getfield 75, 3) := by decide +kernel
theorem dX11_dot_125 : decode cX11_dot 125 = .ok (.iload_n 1, 1) := by decide +kernel
theorem dX11_dot_126 : decode cX11_dot 126 = .ok (.iastore, 1) := by decide +kernel
theorem dX11_dot_127 : decode cX11_dot 127 = .ok (.aload_n 0, 1) := by decide +kernel
theorem dX11_dot_128 : decode cX11_dot 128 = .ok (.getfield 23, 3) := by decide +kernel
theorem dX11_dot_131 : decode cX11_dot 131 = .ok (.aload_n 0, 1) := by decide +kernel
theorem dX11_dot_132 : decode cX11_dot 132 = .ok (.getfield 75, 3) := by decide +kernel
theorem dX11_dot_135 : decode cX11_dot 135 = .ok (.iload_n 2, 1) := by decide +kernel
theorem dX11_dot_136 : decode cX11_dot 136 = .ok (.iastore, 1) := by decide +kernel
theorem dX11_dot_137 : decode cX11_dot 137 = .ok (.aload_n 0, 1) := by decide +kernel
theorem dX11_dot_138 : decode cX11_dot 138 = .ok (.getfield 26, 3) := by decide +kernel
theorem dX11_dot_141 : decode cX11_dot 141 = .ok (.aload_n 0, 1) := by decide +kernel
theorem dX11_dot_142 : decode cX11_dot 142 = .ok (.getfield 75, 3) := by decide +kernel
theorem dX11_dot_145 : decode cX11_dot 145 = .ok (.iload_n 3, 1) := by decide +kernel
theorem dX11_dot_146 : decode cX11_dot 146 = .ok (.iastore, 1) := by decide +kernel
theorem dX11_dot_147 : decode cX11_dot 147 = .ok (.aload_n 0, 1) := by decide +kernel
theorem dX11_dot_148 : decode cX11_dot 148 = .ok (.getfield 29, 3) := by decide +kernel
theorem dX11_dot_151 : decode cX11_dot 151 = .ok (.aload_n 0, 1) := by decide +kernel
theorem dX11_dot_152 : decode cX11_dot 152 = .ok (.getfield 75, 3) := by decide +kernel
theorem dX11_dot_155 : decode cX11_dot 155 = .ok (.iload 4, 2) := by decide +kernel
theorem dX11_dot_157 : decode cX11_dot 157 = .ok (.iastore, 1) := by decide +kernel
theorem dX11_dot_158 : decode cX11_dot 158 = .ok (.aload_n 0, 1) := by decide +kernel
theorem dX11_dot_159 : decode cX11_dot 159 = .ok (.getfield 32, 3) := by decide +kernel
theorem dX11_dot_162 : decode cX11_dot 162 = .ok (.aload_n 0, 1) := by decide +kernel
theorem dX11_dot_163 : decode cX11_dot 163 = .ok (.getfield 75, 3) := by decide +kernel
theorem dX11_dot_166 : decode cX11_dot 166 = .ok (.iconst (-1), 1) := by decide +kernel
theorem dX11_dot_167 : decode cX11_dot 167 = .ok (.iastore, 1) := by decide +kernel
theorem dX11_dot_168 : decode cX11_dot 168 = .ok (.aload_n 0, 1) := by decide +kernel
theorem dX11_dot_169 : decode cX11_dot 169 = .ok (.dup, 1) := by decide +kernel
theorem dX11_dot_170 : decode cX11_dot 170 = .ok (.getfield 75, 3) := by decide +kernel
theorem dX11_dot_173 : decode cX11_dot 173 = .ok (.iconst 1, 1) := by decide +kernel
theorem dX11_dot_174 : decode cX11_dot 174 = .ok (.iadd, 1) := by decide +kernel
theorem dX11_dot_175 : decode cX11_dot 175 = .ok (.putfield 75, 3) := by decide +kernel
theorem dX11_dot_178 : decode cX11_dot 178 = .ok (.aload_n 0, 1) := by decide +kernel
theorem dX11_dot_179 : decode cX11_dot 179 = .ok (.iconst 0, 1) := by decide +kernel
theorem dX11_dot_180 : decode cX11_dot 180 = .ok (.putfield 85, 3) := by decide +kernel
theorem dX11_dot_183 : decode cX11_dot 183 = .ok (.aload_n 0, 1) := by decide +kernel
theorem dX11_dot_184 : decode cX11_dot 184 = .ok (.getfield 75, 3) := by decide +kernel
theorem dX11_dot_187 : decode cX11_dot 187 = .ok (.iconst 1, 1) := by decide +kernel
theorem dX11_dot_188 : decode cX11_dot 188 = .ok (.isub, 1) := by decide +kernel
theorem dX11_dot_189 : decode cX11_dot 189 = .ok (.ireturn, 1) := by decide +kernel
theorem dX11_pace_0 : decode cX11_pace 0 = .ok (.iload_n 1, 1) := by decide +kernel
theorem dX11_pace_1 : decode cX11_pace 1 = .ok (.iconst 1, 1) := by decide +kernel
theorem dX11_pace_2 : decode cX11_pace 2 = .ok (.bipush 20, 2) := by decide +kernel
theorem dX11_pace_4 : decode cX11_pace 4 = .ok (.invokestatic 78, 3) := by decide +kernel
theorem dX11_pace_7 : decode cX11_pace 7 = .ok (.ifCond .ne 6, 3) := by decide +kernel
theorem dX11_pace_10 : decode cX11_pace 10 = .ok (.bipush (-2), 2) := by decide +kernel
theorem dX11_pace_12 : decode cX11_pace 12 = .ok (.ireturn, 1) := by decide +kernel
theorem dX11_pace_13 : decode cX11_pace 13 = .ok (.aload_n 0, 1) := by decide +kernel
theorem dX11_pace_14 : decode cX11_pace 14 = .ok (.getfield 7, 3) := by decide +kernel
theorem dX11_pace_17 : decode cX11_pace 17 = .ok (.istore_n 2, 1) := by decide +kernel
theorem dX11_pace_18 : decode cX11_pace 18 = .ok (.aload_n 0, 1) := by decide +kernel
theorem dX11_pace_19 : decode cX11_pace 19 = .ok (.iload_n 1, 1) := by decide +kernel
theorem dX11_pace_20 : decode cX11_pace 20 = .ok (.putfield 7, 3) := by decide +kernel
theorem dX11_pace_23 : decode cX11_pace 23 = .ok (.iload_n 2, 1) := by decide +kernel
theorem dX11_pace_24 : decode cX11_pace 24 = .ok (.ireturn, 1) := by decide +kernel
theorem dX11_net_0 : decode cX11_net 0 = .ok (.iload_n 1, 1) := by decide +kernel
theorem dX11_net_1 : decode cX11_net 1 = .ok (.iconst 1, 1) := by decide +kernel
theorem dX11_net_2 : decode cX11_net 2 = .ok (.bipush 50, 2) := by decide +kernel
theorem dX11_net_4 : decode cX11_net 4 = .ok (.invokestatic 78, 3) := by decide +kernel
theorem dX11_net_7 : decode cX11_net 7 = .ok (.ifCond .eq 14, 3) := by decide +kernel
theorem dX11_net_10 : decode cX11_net 10 = .ok (.iload_n 2, 1) := by decide +kernel
theorem dX11_net_11 : decode cX11_net 11 = .ok (.iconst 0, 1) := by decide +kernel
theorem dX11_net_12 : decode cX11_net 12 = .ok (.sipush 200, 3) := by decide +kernel
theorem dX11_net_15 : decode cX11_net 15 = .ok (.invokestatic 78, 3) := by decide +kernel
theorem dX11_net_18 : decode cX11_net 18 = .ok (.ifCond .ne 6, 3) := by decide +kernel
theorem dX11_net_21 : decode cX11_net 21 = .ok (.bipush (-2), 2) := by decide +kernel
theorem dX11_net_23 : decode cX11_net 23 = .ok (.ireturn, 1) := by decide +kernel
theorem dX11_net_24 : decode cX11_net 24 = .ok (.aload_n 0, 1) := by decide +kernel
theorem dX11_net_25 : decode cX11_net 25 = .ok (.iload_n 1, 1) := by decide +kernel
theorem dX11_net_26 : decode cX11_net 26 = .ok (.putfield 13, 3) := by decide +kernel
theorem dX11_net_29 : decode cX11_net 29 = .ok (.aload_n 0, 1) := by decide +kernel
theorem dX11_net_30 : decode cX11_net 30 = .ok (.iload_n 2, 1) := by decide +kernel
theorem dX11_net_31 : decode cX11_net 31 = .ok (.putfield 16, 3) := by decide +kernel
theorem dX11_net_34 : decode cX11_net 34 = .ok (.iconst 0, 1) := by decide +kernel
theorem dX11_net_35 : decode cX11_net 35 = .ok (.ireturn, 1) := by decide +kernel
theorem dX11_night_0 : decode cX11_night 0 = .ok (.aload_n 0, 1) := by decide +kernel
theorem dX11_night_1 : decode cX11_night 1 = .ok (.getfield 19, 3) := by decide +kernel
theorem dX11_night_4 : decode cX11_night 4 = .ok (.iload_n 1, 1) := by decide +kernel
theorem dX11_night_5 : decode cX11_night 5 = .ok (.iaload, 1) := by decide +kernel
theorem dX11_night_6 : decode cX11_night 6 = .ok (.bipush 24, 2) := by decide +kernel
theorem dX11_night_8 : decode cX11_night 8 = .ok (.idiv, 1) := by decide +kernel
theorem dX11_night_9 : decode cX11_night 9 = .ok (.ireturn, 1) := by decide +kernel
theorem dX11_about_0 : decode cX11_about 0 = .ok (.aload_n 0, 1) := by decide +kernel
theorem dX11_about_1 : decode cX11_about 1 = .ok (.iload_n 1, 1) := by decide +kernel
theorem dX11_about_2 : decode cX11_about 2 = .ok (.invokevirtual 88, 3) := by decide +kernel
theorem dX11_about_5 : decode cX11_about 5 = .ok (.ifCond .ne 5, 3) := by decide +kernel
theorem dX11_about_8 : decode cX11_about 8 = .ok (.iconst (-1), 1) := by decide +kernel
theorem dX11_about_9 : decode cX11_about 9 = .ok (.ireturn, 1) := by decide +kernel
theorem dX11_about_10 : decode cX11_about 10 = .ok (.iload_n 2, 1) := by decide +kernel
theorem dX11_about_11 : decode cX11_about 11 = .ok (.tableswitch 78 0 5 #[37, 44, 51, 58, 65, 71], 37) := by decide +kernel
theorem dX11_about_48 : decode cX11_about 48 = .ok (.aload_n 0, 1) := by decide +kernel
theorem dX11_about_49 : decode cX11_about 49 = .ok (.getfield 19, 3) := by decide +kernel
theorem dX11_about_52 : decode cX11_about 52 = .ok (.iload_n 1, 1) := by decide +kernel
theorem dX11_about_53 : decode cX11_about 53 = .ok (.iaload, 1) := by decide +kernel
theorem dX11_about_54 : decode cX11_about 54 = .ok (.ireturn, 1) := by decide +kernel
theorem dX11_about_55 : decode cX11_about 55 = .ok (.aload_n 0, 1) := by decide +kernel
theorem dX11_about_56 : decode cX11_about 56 = .ok (.getfield 23, 3) := by decide +kernel
theorem dX11_about_59 : decode cX11_about 59 = .ok (.iload_n 1, 1) := by decide +kernel
theorem dX11_about_60 : decode cX11_about 60 = .ok (.iaload, 1) := by decide +kernel
theorem dX11_about_61 : decode cX11_about 61 = .ok (.ireturn, 1) := by decide +kernel
theorem dX11_about_62 : decode cX11_about 62 = .ok (.aload_n 0, 1) := by decide +kernel
theorem dX11_about_63 : decode cX11_about 63 = .ok (.getfield 26, 3) := by decide +kernel
theorem dX11_about_66 : decode cX11_about 66 = .ok (.iload_n 1, 1) := by decide +kernel
theorem dX11_about_67 : decode cX11_about 67 = .ok (.iaload, 1) := by decide +kernel
theorem dX11_about_68 : decode cX11_about 68 = .ok (.ireturn, 1) := by decide +kernel
theorem dX11_about_69 : decode cX11_about 69 = .ok (.aload_n 0, 1) := by decide +kernel
theorem dX11_about_70 : decode cX11_about 70 = .ok (.getfield 29, 3) := by decide +kernel
theorem dX11_about_73 : decode cX11_about 73 = .ok (.iload_n 1, 1) := by decide +kernel
theorem dX11_about_74 : decode cX11_about 74 = .ok (.iaload, 1) := by decide +kernel
theorem dX11_about_75 : decode cX11_about 75 = .ok (.ireturn, 1) := by decide +kernel
theorem dX11_about_76 : decode cX11_about 76 = .ok (.aload_n 0, 1) := by decide +kernel
theorem dX11_about_77 : decode cX11_about 77 = .ok (.iload_n 1, 1) := by decide +kernel
theorem dX11_about_78 : decode cX11_about 78 = .ok (.invokevirtual 92, 3) := by decide +kernel
theorem dX11_about_81 : decode cX11_about 81 = .ok (.ireturn, 1) := by decide +kernel
theorem dX11_about_82 : decode cX11_about 82 = .ok (.aload_n 0, 1) := by decide +kernel
theorem dX11_about_83 : decode cX11_about 83 = .ok (.getfield 32, 3) := by decide +kernel
theorem dX11_about_86 : decode cX11_about 86 = .ok (.iload_n 1, 1) := by decide +kernel
theorem dX11_about_87 : decode cX11_about 87 = .ok (.iaload, 1) := by decide +kernel
theorem dX11_about_88 : decode cX11_about 88 = .ok (.ireturn, 1) := by decide +kernel
theorem dX11_about_89 : decode cX11_about 89 = .ok (.iconst (-1), 1) := by decide +kernel
theorem dX11_about_90 : decode cX11_about 90 = .ok (.ireturn, 1) := by decide +kernel
theorem dX11_take_0 : decode cX11_take 0 = .ok (.aload_n 0, 1) := by decide +kernel
theorem dX11_take_1 : decode cX11_take 1 = .ok (.aload_n 0, 1) := by decide +kernel
theorem dX11_take_2 : decode cX11_take 2 = .ok (.getfield 38, 3) := by decide +kernel
theorem dX11_take_5 : decode cX11_take 5 = .ok (.iload_n 1, 1) := by decide +kernel
theorem dX11_take_6 : decode cX11_take 6 = .ok (.iaload, 1) := by decide +kernel
theorem dX11_take_7 : decode cX11_take 7 = .ok (.putfield 96, 3) := by decide +kernel
theorem dX11_take_10 : decode cX11_take 10 = .ok (.iconst 0, 1) := by decide +kernel
theorem dX11_take_11 : decode cX11_take 11 = .ok (.istore_n 2, 1) := by decide +kernel
theorem dX11_take_12 : decode cX11_take 12 = .ok (.iload_n 2, 1) := by decide +kernel
theorem dX11_take_13 : decode cX11_take 13 = .ok (.aload_n 0, 1) := by decide +kernel
theorem dX11_take_14 : decode cX11_take 14 = .ok (.getfield 96, 3) := by decide +kernel
theorem dX11_take_17 : decode cX11_take 17 = .ok (.if_icmp .ge 26, 3) := by decide +kernel
theorem dX11_take_20 : decode cX11_take 20 = .ok (.aload_n 0, 1) := by decide +kernel
theorem dX11_take_21 : decode cX11_take 21 = .ok (.getfield 48, 3) := by decide +kernel
theorem dX11_take_24 : decode cX11_take 24 = .ok (.iload_n 2, 1) := by decide +kernel
theorem dX11_take_25 : decode cX11_take 25 = .ok (.aload_n 0, 1) := by decide +kernel
theorem dX11_take_26 : decode cX11_take 26 = .ok (.getfield 41, 3) := by decide +kernel
theorem dX11_take_29 : decode cX11_take 29 = .ok (.bipush 8, 2) := by decide +kernel
theorem dX11_take_31 : decode cX11_take 31 = .ok (.iload_n 1, 1) := by decide +kernel
theorem dX11_take_32 : decode cX11_take 32 = .ok (.imul, 1) := by decide +kernel
theorem dX11_take_33 : decode cX11_take 33 = .ok (.iload_n 2, 1) := by decide +kernel
theorem dX11_take_34 : decode cX11_take 34 = .ok (.iadd, 1) := by decide +kernel
theorem dX11_take_35 : decode cX11_take 35 = .ok (.iaload, 1) := by decide +kernel
theorem dX11_take_36 : decode cX11_take 36 = .ok (.iastore, 1) := by decide +kernel
theorem dX11_take_37 : decode cX11_take 37 = .ok (.iinc 2 1, 3) := by decide +kernel
theorem dX11_take_40 : decode cX11_take 40 = .ok (.goto (-28), 3) := by decide +kernel
theorem dX11_take_43 : decode cX11_take 43 = .ok (.return_, 1) := by decide +kernel
theorem dX11_adds_0 : decode cX11_adds 0 = .ok (.aload_n 0, 1) := by decide +kernel
theorem dX11_adds_1 : decode cX11_adds 1 = .ok (.getfield 48, 3) := by decide +kernel
theorem dX11_adds_4 : decode cX11_adds 4 = .ok (.aload_n 0, 1) := by decide +kernel
theorem dX11_adds_5 : decode cX11_adds 5 = .ok (.getfield 96, 3) := by decide +kernel
theorem dX11_adds_8 : decode cX11_adds 8 = .ok (.iload_n 1, 1) := by decide +kernel
theorem dX11_adds_9 : decode cX11_adds 9 = .ok (.iastore, 1) := by decide +kernel
theorem dX11_adds_10 : decode cX11_adds 10 = .ok (.aload_n 0, 1) := by decide +kernel
theorem dX11_adds_11 : decode cX11_adds 11 = .ok (.dup, 1) := by decide +kernel
theorem dX11_adds_12 : decode cX11_adds 12 = .ok (.getfield 96, 3) := by decide +kernel
theorem dX11_adds_15 : decode cX11_adds 15 = .ok (.iconst 1, 1) := by decide +kernel
theorem dX11_adds_16 : decode cX11_adds 16 = .ok (.iadd, 1) := by decide +kernel
theorem dX11_adds_17 : decode cX11_adds 17 = .ok (.putfield 96, 3) := by decide +kernel
theorem dX11_adds_20 : decode cX11_adds 20 = .ok (.return_, 1) := by decide +kernel
theorem dX11_placeOf_0 : decode cX11_placeOf 0 = .ok (.iload_n 2, 1) := by decide +kernel
theorem dX11_placeOf_1 : decode cX11_placeOf 1 = .ok (.ifCond .ne 12, 3) := by decide +kernel
theorem dX11_placeOf_4 : decode cX11_placeOf 4 = .ok (.aload_n 0, 1) := by decide +kernel
theorem dX11_placeOf_5 : decode cX11_placeOf 5 = .ok (.getfield 23, 3) := by decide +kernel
theorem dX11_placeOf_8 : decode cX11_placeOf 8 = .ok (.iload_n 1, 1) := by decide +kernel
theorem dX11_placeOf_9 : decode cX11_placeOf 9 = .ok (.iaload, 1) := by decide +kernel
theorem dX11_placeOf_10 : decode cX11_placeOf 10 = .ok (.goto 9, 3) := by decide +kernel
theorem dX11_placeOf_13 : decode cX11_placeOf 13 = .ok (.aload_n 0, 1) := by decide +kernel
theorem dX11_placeOf_14 : decode cX11_placeOf 14 = .ok (.getfield 26, 3) := by decide +kernel
theorem dX11_placeOf_17 : decode cX11_placeOf 17 = .ok (.iload_n 1, 1) := by decide +kernel
theorem dX11_placeOf_18 : decode cX11_placeOf 18 = .ok (.iaload, 1) := by decide +kernel
theorem dX11_placeOf_19 : decode cX11_placeOf 19 = .ok (.ireturn, 1) := by decide +kernel
theorem dX11_lines_0 : decode cX11_lines 0 = .ok (.sipush (-2000), 3) := by decide +kernel
theorem dX11_lines_3 : decode cX11_lines 3 = .ok (.istore_n 3, 1) := by decide +kernel
theorem dX11_lines_4 : decode cX11_lines 4 = .ok (.sipush 2000, 3) := by decide +kernel
theorem dX11_lines_7 : decode cX11_lines 7 = .ok (.istore 4, 2) := by decide +kernel
theorem dX11_lines_9 : decode cX11_lines 9 = .ok (.iconst 0, 1) := by decide +kernel
theorem dX11_lines_10 : decode cX11_lines 10 = .ok (.istore 5, 2) := by decide +kernel
theorem dX11_lines_12 : decode cX11_lines 12 = .ok (.iload 5, 2) := by decide +kernel
theorem dX11_lines_14 : decode cX11_lines 14 = .ok (.aload_n 0, 1) := by decide +kernel
theorem dX11_lines_15 : decode cX11_lines 15 = .ok (.getfield 96, 3) := by decide +kernel
theorem dX11_lines_18 : decode cX11_lines 18 = .ok (.if_icmp .ge 64, 3) := by decide +kernel
theorem dX11_lines_21 : decode cX11_lines 21 = .ok (.aload_n 0, 1) := by decide +kernel
theorem dX11_lines_22 : decode cX11_lines 22 = .ok (.aload_n 0, 1) := by decide +kernel
theorem dX11_lines_23 : decode cX11_lines 23 = .ok (.getfield 48, 3) := by decide +kernel
theorem dX11_lines_26 : decode cX11_lines 26 = .ok (.iload 5, 2) := by decide +kernel
theorem dX11_lines_28 : decode cX11_lines 28 = .ok (.iaload, 1) := by decide +kernel
theorem dX11_lines_29 : decode cX11_lines 29 = .ok (.iload_n 1, 1) := by decide +kernel
theorem dX11_lines_30 : decode cX11_lines 30 = .ok (.invokevirtual 99, 3) := by decide +kernel
theorem dX11_lines_33 : decode cX11_lines 33 = .ok (.iload_n 2, 1) := by decide +kernel
theorem dX11_lines_34 : decode cX11_lines 34 = .ok (.aload_n 0, 1) := by decide +kernel
theorem dX11_lines_35 : decode cX11_lines 35 = .ok (.getfield 19, 3) := by decide +kernel
theorem dX11_lines_38 : decode cX11_lines 38 = .ok (.aload_n 0, 1) := by decide +kernel
theorem dX11_lines_39 : decode cX11_lines 39 = .ok (.getfield 48, 3) := by decide +kernel
theorem dX11_lines_42 : decode cX11_lines 42 = .ok (.iload 5, 2) := by decide +kernel
theorem dX11_lines_44 : decode cX11_lines 44 = .ok (.iaload, 1) := by decide +kernel
theorem dX11_lines_45 : decode cX11_lines 45 = .ok (.iaload, 1) := by decide +kernel
theorem dX11_lines_46 : decode cX11_lines 46 = .ok (.imul, 1) := by decide +kernel
theorem dX11_lines_47 : decode cX11_lines 47 = .ok (.isub, 1) := by decide +kernel
theorem dX11_lines_48 : decode cX11_lines 48 = .ok (.istore 6, 2) := by decide +kernel
theorem dX11_lines_50 : decode cX11_lines 50 = .ok (.iload_n 3, 1) := by decide +kernel
theorem dX11_lines_51 : decode cX11_lines 51 = .ok (.iload 6, 2) := by decide +kernel
theorem dX11_lines_53 : decode cX11_lines 53 = .ok (.aload_n 0, 1) := by decide +kernel
theorem dX11_lines_54 : decode cX11_lines 54 = .ok (.getfield 16, 3) := by decide +kernel
theorem dX11_lines_57 : decode cX11_lines 57 = .ok (.isub, 1) := by decide +kernel
theorem dX11_lines_58 : decode cX11_lines 58 = .ok (.invokestatic 103, 3) := by decide +kernel
theorem dX11_lines_61 : decode cX11_lines 61 = .ok (.istore_n 3, 1) := by decide +kernel
theorem dX11_lines_62 : decode cX11_lines 62 = .ok (.iload 4, 2) := by decide +kernel
theorem dX11_lines_64 : decode cX11_lines 64 = .ok (.iload 6, 2) := by decide +kernel
theorem dX11_lines_66 : decode cX11_lines 66 = .ok (.aload_n 0, 1) := by decide +kernel
theorem dX11_lines_67 : decode cX11_lines 67 = .ok (.getfield 16, 3) := by decide +kernel
theorem dX11_lines_70 : decode cX11_lines 70 = .ok (.iadd, 1) := by decide +kernel
theorem dX11_lines_71 : decode cX11_lines 71 = .ok (.invokestatic 108, 3) := by decide +kernel
theorem dX11_lines_74 : decode cX11_lines 74 = .ok (.istore 4, 2) := by decide +kernel
theorem dX11_lines_76 : decode cX11_lines 76 = .ok (.iinc 5 1, 3) := by decide +kernel
theorem dX11_lines_79 : decode cX11_lines 79 = .ok (.goto (-67), 3) := by decide +kernel
theorem dX11_lines_82 : decode cX11_lines 82 = .ok (.aload_n 0, 1) := by decide +kernel
theorem dX11_lines_83 : decode cX11_lines 83 = .ok (.iload_n 3, 1) := by decide +kernel
theorem dX11_lines_84 : decode cX11_lines 84 = .ok (.ineg, 1) := by decide +kernel
theorem dX11_lines_85 : decode cX11_lines 85 = .ok (.aload_n 0, 1) := by decide +kernel
theorem dX11_lines_86 : decode cX11_lines 86 = .ok (.getfield 13, 3) := by decide +kernel
theorem dX11_lines_89 : decode cX11_lines 89 = .ok (.invokestatic 111, 3) := by decide +kernel
theorem dX11_lines_92 : decode cX11_lines 92 = .ok (.ineg, 1) := by decide +kernel
theorem dX11_lines_93 : decode cX11_lines 93 = .ok (.putfield 114, 3) := by decide +kernel
theorem dX11_lines_96 : decode cX11_lines 96 = .ok (.aload_n 0, 1) := by decide +kernel
theorem dX11_lines_97 : decode cX11_lines 97 = .ok (.iload 4, 2) := by decide +kernel
theorem dX11_lines_99 : decode cX11_lines 99 = .ok (.aload_n 0, 1) := by decide +kernel
theorem dX11_lines_100 : decode cX11_lines 100 = .ok (.getfield 13, 3) := by decide +kernel
theorem dX11_lines_103 : decode cX11_lines 103 = .ok (.invokestatic 111, 3) := by decide +kernel
theorem dX11_lines_106 : decode cX11_lines 106 = .ok (.putfield 117, 3) := by decide +kernel
theorem dX11_lines_109 : decode cX11_lines 109 = .ok (.aload_n 0, 1) := by decide +kernel
theorem dX11_lines_110 : decode cX11_lines 110 = .ok (.getfield 117, 3) := by decide +kernel
theorem dX11_lines_113 : decode cX11_lines 113 = .ok (.aload_n 0, 1) := by decide +kernel
theorem dX11_lines_114 : decode cX11_lines 114 = .ok (.getfield 114, 3) := by decide +kernel
theorem dX11_lines_117 : decode cX11_lines 117 = .ok (.if_icmp .ge 7, 3) := by decide +kernel
theorem dX11_lines_120 : decode cX11_lines 120 = .ok (.iconst 0, 1) := by decide +kernel
theorem dX11_lines_121 : decode cX11_lines 121 = .ok (.goto 14, 3) := by decide +kernel
theorem dX11_lines_124 : decode cX11_lines 124 = .ok (.aload_n 0, 1) := by decide +kernel
theorem dX11_lines_125 : decode cX11_lines 125 = .ok (.getfield 117, 3) := by decide +kernel
theorem dX11_lines_128 : decode cX11_lines 128 = .ok (.aload_n 0, 1) := by decide +kernel
theorem dX11_lines_129 : decode cX11_lines 129 = .ok (.getfield 114, 3) := by decide +kernel
theorem dX11_lines_132 : decode cX11_lines 132 = .ok (.isub, 1) := by decide +kernel
theorem dX11_lines_133 : decode cX11_lines 133 = .ok (.iconst 1, 1) := by decide +kernel
theorem dX11_lines_134 : decode cX11_lines 134 = .ok (.iadd, 1) := by decide +kernel
theorem dX11_lines_135 : decode cX11_lines 135 = .ok (.ireturn, 1) := by decide +kernel
theorem dX11_allLines_0 : decode cX11_allLines 0 = .ok (.lconst 0, 1) := by decide +kernel
theorem dX11_allLines_1 : decode cX11_allLines 1 = .ok (.lstore_n 2, 1) := by decide +kernel
theorem dX11_allLines_2 : decode cX11_allLines 2 = .ok (.bipush (-20), 2) := by decide +kernel
theorem dX11_allLines_4 : decode cX11_allLines 4 = .ok (.istore 4, 2) := by decide +kernel
theorem dX11_allLines_6 : decode cX11_allLines 6 = .ok (.iload 4, 2) := by decide +kernel
theorem dX11_allLines_8 : decode cX11_allLines 8 = .ok (.bipush 20, 2) := by decide +kernel
theorem dX11_allLines_10 : decode cX11_allLines 10 = .ok (.if_icmp .gt 20, 3) := by decide +kernel
theorem dX11_allLines_13 : decode cX11_allLines 13 = .ok (.lload_n 2, 1) := by decide +kernel
theorem dX11_allLines_14 : decode cX11_allLines 14 = .ok (.aload_n 0, 1) := by decide +kernel
theorem dX11_allLines_15 : decode cX11_allLines 15 = .ok (.iload_n 1, 1) := by decide +kernel
theorem dX11_allLines_16 : decode cX11_allLines 16 = .ok (.iload 4, 2) := by decide +kernel
theorem dX11_allLines_18 : decode cX11_allLines 18 = .ok (.invokevirtual 120, 3) := by decide +kernel
theorem dX11_allLines_21 : decode cX11_allLines 21 = .ok (.i2l, 1) := by decide +kernel
theorem dX11_allLines_22 : decode cX11_allLines 22 = .ok (.ladd, 1) := by decide +kernel
theorem dX11_allLines_23 : decode cX11_allLines 23 = .ok (.lstore_n 2, 1) := by decide +kernel
theorem dX11_allLines_24 : decode cX11_allLines 24 = .ok (.iinc 4 1, 3) := by decide +kernel
theorem dX11_allLines_27 : decode cX11_allLines 27 = .ok (.goto (-21), 3) := by decide +kernel
theorem dX11_allLines_30 : decode cX11_allLines 30 = .ok (.lload_n 2, 1) := by decide +kernel
theorem dX11_allLines_31 : decode cX11_allLines 31 = .ok (.lreturn, 1) := by decide +kernel
theorem dX11_isHeap_0 : decode cX11_isHeap 0 = .ok (.aload_n 0, 1) := by decide +kernel
theorem dX11_isHeap_1 : decode cX11_isHeap 1 = .ok (.iconst 0, 1) := by decide +kernel
theorem dX11_isHeap_2 : decode cX11_isHeap 2 = .ok (.invokevirtual 123, 3) := by decide +kernel
theorem dX11_isHeap_5 : decode cX11_isHeap 5 = .ok (.lconst 0, 1) := by decide +kernel
theorem dX11_isHeap_6 : decode cX11_isHeap 6 = .ok (.lcmp, 1) := by decide +kernel
theorem dX11_isHeap_7 : decode cX11_isHeap 7 = .ok (.ifCond .le 17, 3) := by decide +kernel
theorem dX11_isHeap_10 : decode cX11_isHeap 10 = .ok (.aload_n 0, 1) := by decide +kernel
theorem dX11_isHeap_11 : decode cX11_isHeap 11 = .ok (.iconst 1, 1) := by decide +kernel
theorem dX11_isHeap_12 : decode cX11_isHeap 12 = .ok (.invokevirtual 123, 3) := by decide +kernel
theorem dX11_isHeap_15 : decode cX11_isHeap 15 = .ok (.lconst 0, 1) := by decide +kernel
theorem dX11_isHeap_16 : decode cX11_isHeap 16 = .ok (.lcmp, 1) := by decide +kernel
theorem dX11_isHeap_17 : decode cX11_isHeap 17 = .ok (.ifCond .le 7, 3) := by decide +kernel
theorem dX11_isHeap_20 : decode cX11_isHeap 20 = .ok (.iconst 1, 1) := by decide +kernel
theorem dX11_isHeap_21 : decode cX11_isHeap 21 = .ok (.goto 4, 3) := by decide +kernel
theorem dX11_isHeap_24 : decode cX11_isHeap 24 = .ok (.iconst 0, 1) := by decide +kernel
theorem dX11_isHeap_25 : decode cX11_isHeap 25 = .ok (.ireturn, 1) := by decide +kernel
theorem dX11_isSound_0 : decode cX11_isSound 0 = .ok (.aload_n 0, 1) := by decide +kernel
theorem dX11_isSound_1 : decode cX11_isSound 1 = .ok (.iload_n 1, 1) := by decide +kernel
theorem dX11_isSound_2 : decode cX11_isSound 2 = .ok (.invokevirtual 127, 3) := by decide +kernel
theorem dX11_isSound_5 : decode cX11_isSound 5 = .ok (.aload_n 0, 1) := by decide +kernel
theorem dX11_isSound_6 : decode cX11_isSound 6 = .ok (.invokevirtual 131, 3) := by decide +kernel
theorem dX11_isSound_9 : decode cX11_isSound 9 = .ok (.ireturn, 1) := by decide +kernel
theorem dX11_ahead0_0 : decode cX11_ahead0 0 = .ok (.iconst 0, 1) := by decide +kernel
theorem dX11_ahead0_1 : decode cX11_ahead0 1 = .ok (.istore_n 3, 1) := by decide +kernel
theorem dX11_ahead0_2 : decode cX11_ahead0 2 = .ok (.bipush (-20), 2) := by decide +kernel
theorem dX11_ahead0_4 : decode cX11_ahead0 4 = .ok (.istore 4, 2) := by decide +kernel
theorem dX11_ahead0_6 : decode cX11_ahead0 6 = .ok (.iload 4, 2) := by decide +kernel
theorem dX11_ahead0_8 : decode cX11_ahead0 8 = .ok (.bipush 20, 2) := by decide +kernel
theorem dX11_ahead0_10 : decode cX11_ahead0 10 = .ok (.if_icmp .gt 106, 3) := by decide +kernel
theorem dX11_ahead0_13 : decode cX11_ahead0 13 = .ok (.aload_n 0, 1) := by decide +kernel
theorem dX11_ahead0_14 : decode cX11_ahead0 14 = .ok (.iload_n 1, 1) := by decide +kernel
theorem dX11_ahead0_15 : decode cX11_ahead0 15 = .ok (.iload 4, 2) := by decide +kernel
theorem dX11_ahead0_17 : decode cX11_ahead0 17 = .ok (.invokevirtual 120, 3) := by decide +kernel
theorem dX11_ahead0_20 : decode cX11_ahead0 20 = .ok (.ifCond .ne 6, 3) := by decide +kernel
theorem dX11_ahead0_23 : decode cX11_ahead0 23 = .ok (.goto 87, 3) := by decide +kernel
theorem dX11_ahead0_26 : decode cX11_ahead0 26 = .ok (.aload_n 0, 1) := by decide +kernel
theorem dX11_ahead0_27 : decode cX11_ahead0 27 = .ok (.getfield 114, 3) := by decide +kernel
theorem dX11_ahead0_30 : decode cX11_ahead0 30 = .ok (.i2l, 1) := by decide +kernel
theorem dX11_ahead0_31 : decode cX11_ahead0 31 = .ok (.aload_n 0, 1) := by decide +kernel
theorem dX11_ahead0_32 : decode cX11_ahead0 32 = .ok (.getfield 13, 3) := by decide +kernel
theorem dX11_ahead0_35 : decode cX11_ahead0 35 = .ok (.i2l, 1) := by decide +kernel
theorem dX11_ahead0_36 : decode cX11_ahead0 36 = .ok (.lmul, 1) := by decide +kernel
theorem dX11_ahead0_37 : decode cX11_ahead0 37 = .ok (.iload 4, 2) := by decide +kernel
theorem dX11_ahead0_39 : decode cX11_ahead0 39 = .ok (.iload_n 2, 1) := by decide +kernel
theorem dX11_ahead0_40 : decode cX11_ahead0 40 = .ok (.imul, 1) := by decide +kernel
theorem dX11_ahead0_41 : decode cX11_ahead0 41 = .ok (.i2l, 1) := by decide +kernel
theorem dX11_ahead0_42 : decode cX11_ahead0 42 = .ok (.ladd, 1) := by decide +kernel
theorem dX11_ahead0_43 : decode cX11_ahead0 43 = .ok (.lstore 5, 2) := by decide +kernel
theorem dX11_ahead0_45 : decode cX11_ahead0 45 = .ok (.aload_n 0, 1) := by decide +kernel
theorem dX11_ahead0_46 : decode cX11_ahead0 46 = .ok (.getfield 117, 3) := by decide +kernel
theorem dX11_ahead0_49 : decode cX11_ahead0 49 = .ok (.i2l, 1) := by decide +kernel
theorem dX11_ahead0_50 : decode cX11_ahead0 50 = .ok (.aload_n 0, 1) := by decide +kernel
theorem dX11_ahead0_51 : decode cX11_ahead0 51 = .ok (.getfield 13, 3) := by decide +kernel
theorem dX11_ahead0_54 : decode cX11_ahead0 54 = .ok (.i2l, 1) := by decide +kernel
theorem dX11_ahead0_55 : decode cX11_ahead0 55 = .ok (.lmul, 1) := by decide +kernel
theorem dX11_ahead0_56 : decode cX11_ahead0 56 = .ok (.iload 4, 2) := by decide +kernel
theorem dX11_ahead0_58 : decode cX11_ahead0 58 = .ok (.iload_n 2, 1) := by decide +kernel
theorem dX11_ahead0_59 : decode cX11_ahead0 59 = .ok (.imul, 1) := by decide +kernel
theorem dX11_ahead0_60 : decode cX11_ahead0 60 = .ok (.i2l, 1) := by decide +kernel
theorem dX11_ahead0_61 : decode cX11_ahead0 61 = .ok (.ladd, 1) := by decide +kernel
theorem dX11_ahead0_62 : decode cX11_ahead0 62 = .ok (.lstore 7, 2) := by decide +kernel
theorem dX11_ahead0_64 : decode cX11_ahead0 64 = .ok (.aload_n 0, 1) := by decide +kernel
theorem dX11_ahead0_65 : decode cX11_ahead0 65 = .ok (.iload_n 3, 1) := by decide +kernel
theorem dX11_ahead0_66 : decode cX11_ahead0 66 = .ok (.ifCond .eq 15, 3) := by decide +kernel
theorem dX11_ahead0_69 : decode cX11_ahead0 69 = .ok (.aload_n 0, 1) := by decide +kernel
theorem dX11_ahead0_70 : decode cX11_ahead0 70 = .ok (.getfield 135, 3) := by decide +kernel
theorem dX11_ahead0_73 : decode cX11_ahead0 73 = .ok (.lload 5, 2) := by decide +kernel
theorem dX11_ahead0_75 : decode cX11_ahead0 75 = .ok (.invokestatic 139, 3) := by decide +kernel
theorem dX11_ahead0_78 : decode cX11_ahead0 78 = .ok (.goto 5, 3) := by decide +kernel
theorem dX11_ahead0_81 : decode cX11_ahead0 81 = .ok (.lload 5, 2) := by decide +kernel
theorem dX11_ahead0_83 : decode cX11_ahead0 83 = .ok (.putfield 135, 3) := by decide +kernel
theorem dX11_ahead0_86 : decode cX11_ahead0 86 = .ok (.aload_n 0, 1) := by decide +kernel
theorem dX11_ahead0_87 : decode cX11_ahead0 87 = .ok (.iload_n 3, 1) := by decide +kernel
theorem dX11_ahead0_88 : decode cX11_ahead0 88 = .ok (.ifCond .eq 15, 3) := by decide +kernel
theorem dX11_ahead0_91 : decode cX11_ahead0 91 = .ok (.aload_n 0, 1) := by decide +kernel
theorem dX11_ahead0_92 : decode cX11_ahead0 92 = .ok (.getfield 142, 3) := by decide +kernel
theorem dX11_ahead0_95 : decode cX11_ahead0 95 = .ok (.lload 7, 2) := by decide +kernel
theorem dX11_ahead0_97 : decode cX11_ahead0 97 = .ok (.invokestatic 145, 3) := by decide +kernel
theorem dX11_ahead0_100 : decode cX11_ahead0 100 = .ok (.goto 5, 3) := by decide +kernel
theorem dX11_ahead0_103 : decode cX11_ahead0 103 = .ok (.lload 7, 2) := by decide +kernel
theorem dX11_ahead0_105 : decode cX11_ahead0 105 = .ok (.putfield 142, 3) := by decide +kernel
theorem dX11_ahead0_108 : decode cX11_ahead0 108 = .ok (.iconst 1, 1) := by decide +kernel
theorem dX11_ahead0_109 : decode cX11_ahead0 109 = .ok (.istore_n 3, 1) := by decide +kernel
theorem dX11_ahead0_110 : decode cX11_ahead0 110 = .ok (.iinc 4 1, 3) := by decide +kernel
theorem dX11_ahead0_113 : decode cX11_ahead0 113 = .ok (.goto (-107), 3) := by decide +kernel
theorem dX11_ahead0_116 : decode cX11_ahead0 116 = .ok (.return_, 1) := by decide +kernel
theorem dX11_isNear_0 : decode cX11_isNear 0 = .ok (.aload_n 0, 1) := by decide +kernel
theorem dX11_isNear_1 : decode cX11_isNear 1 = .ok (.getfield 19, 3) := by decide +kernel
theorem dX11_isNear_4 : decode cX11_isNear 4 = .ok (.iload_n 2, 1) := by decide +kernel
theorem dX11_isNear_5 : decode cX11_isNear 5 = .ok (.iaload, 1) := by decide +kernel
theorem dX11_isNear_6 : decode cX11_isNear 6 = .ok (.aload_n 0, 1) := by decide +kernel
theorem dX11_isNear_7 : decode cX11_isNear 7 = .ok (.getfield 19, 3) := by decide +kernel
theorem dX11_isNear_10 : decode cX11_isNear 10 = .ok (.iload_n 1, 1) := by decide +kernel
theorem dX11_isNear_11 : decode cX11_isNear 11 = .ok (.iaload, 1) := by decide +kernel
theorem dX11_isNear_12 : decode cX11_isNear 12 = .ok (.isub, 1) := by decide +kernel
theorem dX11_isNear_13 : decode cX11_isNear 13 = .ok (.istore_n 3, 1) := by decide +kernel
theorem dX11_isNear_14 : decode cX11_isNear 14 = .ok (.aload_n 0, 1) := by decide +kernel
theorem dX11_isNear_15 : decode cX11_isNear 15 = .ok (.getfield 23, 3) := by decide +kernel
theorem dX11_isNear_18 : decode cX11_isNear 18 = .ok (.iload_n 2, 1) := by decide +kernel
theorem dX11_isNear_19 : decode cX11_isNear 19 = .ok (.iaload, 1) := by decide +kernel
theorem dX11_isNear_20 : decode cX11_isNear 20 = .ok (.aload_n 0, 1) := by decide +kernel
theorem dX11_isNear_21 : decode cX11_isNear 21 = .ok (.getfield 23, 3) := by decide +kernel
theorem dX11_isNear_24 : decode cX11_isNear 24 = .ok (.iload_n 1, 1) := by decide +kernel
theorem dX11_isNear_25 : decode cX11_isNear 25 = .ok (.iaload, 1) := by decide +kernel
theorem dX11_isNear_26 : decode cX11_isNear 26 = .ok (.isub, 1) := by decide +kernel
theorem dX11_isNear_27 : decode cX11_isNear 27 = .ok (.invokestatic 147, 3) := by decide +kernel
theorem dX11_isNear_30 : decode cX11_isNear 30 = .ok (.aload_n 0, 1) := by decide +kernel
theorem dX11_isNear_31 : decode cX11_isNear 31 = .ok (.getfield 7, 3) := by decide +kernel
theorem dX11_isNear_34 : decode cX11_isNear 34 = .ok (.iload_n 3, 1) := by decide +kernel
theorem dX11_isNear_35 : decode cX11_isNear 35 = .ok (.imul, 1) := by decide +kernel
theorem dX11_isNear_36 : decode cX11_isNear 36 = .ok (.if_icmp .gt 32, 3) := by decide +kernel
theorem dX11_isNear_39 : decode cX11_isNear 39 = .ok (.aload_n 0, 1) := by decide +kernel
theorem dX11_isNear_40 : decode cX11_isNear 40 = .ok (.getfield 26, 3) := by decide +kernel
theorem dX11_isNear_43 : decode cX11_isNear 43 = .ok (.iload_n 2, 1) := by decide +kernel
theorem dX11_isNear_44 : decode cX11_isNear 44 = .ok (.iaload, 1) := by decide +kernel
theorem dX11_isNear_45 : decode cX11_isNear 45 = .ok (.aload_n 0, 1) := by decide +kernel
theorem dX11_isNear_46 : decode cX11_isNear 46 = .ok (.getfield 26, 3) := by decide +kernel
theorem dX11_isNear_49 : decode cX11_isNear 49 = .ok (.iload_n 1, 1) := by decide +kernel
theorem dX11_isNear_50 : decode cX11_isNear 50 = .ok (.iaload, 1) := by decide +kernel
theorem dX11_isNear_51 : decode cX11_isNear 51 = .ok (.isub, 1) := by decide +kernel
theorem dX11_isNear_52 : decode cX11_isNear 52 = .ok (.invokestatic 147, 3) := by decide +kernel
theorem dX11_isNear_55 : decode cX11_isNear 55 = .ok (.aload_n 0, 1) := by decide +kernel
theorem dX11_isNear_56 : decode cX11_isNear 56 = .ok (.getfield 7, 3) := by decide +kernel
theorem dX11_isNear_59 : decode cX11_isNear 59 = .ok (.iload_n 3, 1) := by decide +kernel
theorem dX11_isNear_60 : decode cX11_isNear 60 = .ok (.imul, 1) := by decide +kernel
theorem dX11_isNear_61 : decode cX11_isNear 61 = .ok (.if_icmp .gt 7, 3) := by decide +kernel
theorem dX11_isNear_64 : decode cX11_isNear 64 = .ok (.iconst 1, 1) := by decide +kernel
theorem dX11_isNear_65 : decode cX11_isNear 65 = .ok (.goto 4, 3) := by decide +kernel
theorem dX11_isNear_68 : decode cX11_isNear 68 = .ok (.iconst 0, 1) := by decide +kernel
theorem dX11_isNear_69 : decode cX11_isNear 69 = .ok (.ireturn, 1) := by decide +kernel
theorem dX11_findBits_0 : decode cX11_findBits 0 = .ok (.aload_n 0, 1) := by decide +kernel
theorem dX11_findBits_1 : decode cX11_findBits 1 = .ok (.iconst 0, 1) := by decide +kernel
theorem dX11_findBits_2 : decode cX11_findBits 2 = .ok (.putfield 150, 3) := by decide +kernel
theorem dX11_findBits_5 : decode cX11_findBits 5 = .ok (.iconst 0, 1) := by decide +kernel
theorem dX11_findBits_6 : decode cX11_findBits 6 = .ok (.istore_n 1, 1) := by decide +kernel
theorem dX11_findBits_7 : decode cX11_findBits 7 = .ok (.iload_n 1, 1) := by decide +kernel
theorem dX11_findBits_8 : decode cX11_findBits 8 = .ok (.aload_n 0, 1) := by decide +kernel
theorem dX11_findBits_9 : decode cX11_findBits 9 = .ok (.getfield 75, 3) := by decide +kernel
theorem dX11_findBits_12 : decode cX11_findBits 12 = .ok (.if_icmp .ge 115, 3) := by decide +kernel
theorem dX11_findBits_15 : decode cX11_findBits 15 = .ok (.iconst 0, 1) := by decide +kernel
theorem dX11_findBits_16 : decode cX11_findBits 16 = .ok (.istore_n 2, 1) := by decide +kernel
theorem dX11_findBits_17 : decode cX11_findBits 17 = .ok (.iload_n 2, 1) := by decide +kernel
theorem dX11_findBits_18 : decode cX11_findBits 18 = .ok (.aload_n 0, 1) := by decide +kernel
theorem dX11_findBits_19 : decode cX11_findBits 19 = .ok (.getfield 75, 3) := by decide +kernel
theorem dX11_findBits_22 : decode cX11_findBits 22 = .ok (.if_icmp .ge 99, 3) := by decide +kernel
theorem dX11_findBits_25 : decode cX11_findBits 25 = .ok (.aload_n 0, 1) := by decide +kernel
theorem dX11_findBits_26 : decode cX11_findBits 26 = .ok (.getfield 32, 3) := by decide +kernel
theorem dX11_findBits_29 : decode cX11_findBits 29 = .ok (.iload_n 1, 1) := by decide +kernel
theorem dX11_findBits_30 : decode cX11_findBits 30 = .ok (.iaload, 1) := by decide +kernel
theorem dX11_findBits_31 : decode cX11_findBits 31 = .ok (.iconst (-1), 1) := by decide +kernel
theorem dX11_findBits_32 : decode cX11_findBits 32 = .ok (.if_icmp .ne 83, 3) := by decide +kernel
theorem dX11_findBits_35 : decode cX11_findBits 35 = .ok (.aload_n 0, 1) := by decide +kernel
theorem dX11_findBits_36 : decode cX11_findBits 36 = .ok (.getfield 32, 3) := by decide +kernel
theorem dX11_findBits_39 : decode cX11_findBits 39 = .ok (.iload_n 2, 1) := by decide +kernel
theorem dX11_findBits_40 : decode cX11_findBits 40 = .ok (.iaload, 1) := by decide +kernel
theorem dX11_findBits_41 : decode cX11_findBits 41 = .ok (.iconst (-1), 1) := by decide +kernel
theorem dX11_findBits_42 : decode cX11_findBits 42 = .ok (.if_icmp .ne 73, 3) := by decide +kernel
theorem dX11_findBits_45 : decode cX11_findBits 45 = .ok (.aload_n 0, 1) := by decide +kernel
theorem dX11_findBits_46 : decode cX11_findBits 46 = .ok (.iload_n 1, 1) := by decide +kernel
theorem dX11_findBits_47 : decode cX11_findBits 47 = .ok (.invokevirtual 92, 3) := by decide +kernel
theorem dX11_findBits_50 : decode cX11_findBits 50 = .ok (.aload_n 0, 1) := by decide +kernel
theorem dX11_findBits_51 : decode cX11_findBits 51 = .ok (.iload_n 2, 1) := by decide +kernel
theorem dX11_findBits_52 : decode cX11_findBits 52 = .ok (.invokevirtual 92, 3) := by decide +kernel
theorem dX11_findBits_55 : decode cX11_findBits 55 = .ok (.if_icmp .ne 60, 3) := by decide +kernel
theorem dX11_findBits_58 : decode cX11_findBits 58 = .ok (.aload_n 0, 1) := by decide +kernel
theorem dX11_findBits_59 : decode cX11_findBits 59 = .ok (.getfield 19, 3) := by decide +kernel
theorem dX11_findBits_62 : decode cX11_findBits 62 = .ok (.iload_n 1, 1) := by decide +kernel
theorem dX11_findBits_63 : decode cX11_findBits 63 = .ok (.iaload, 1) := by decide +kernel
theorem dX11_findBits_64 : decode cX11_findBits 64 = .ok (.aload_n 0, 1) := by decide +kernel
theorem dX11_findBits_65 : decode cX11_findBits 65 = .ok (.getfield 19, 3) := by decide +kernel
theorem dX11_findBits_68 : decode cX11_findBits 68 = .ok (.iload_n 2, 1) := by decide +kernel
theorem dX11_findBits_69 : decode cX11_findBits 69 = .ok (.iaload, 1) := by decide +kernel
theorem dX11_findBits_70 : decode cX11_findBits 70 = .ok (.if_icmp .ge 45, 3) := by decide +kernel
theorem dX11_findBits_73 : decode cX11_findBits 73 = .ok (.aload_n 0, 1) := by decide +kernel
theorem dX11_findBits_74 : decode cX11_findBits 74 = .ok (.iload_n 1, 1) := by decide +kernel
theorem dX11_findBits_75 : decode cX11_findBits 75 = .ok (.iload_n 2, 1) := by decide +kernel
theorem dX11_findBits_76 : decode cX11_findBits 76 = .ok (.invokevirtual 153, 3) := by decide +kernel
theorem dX11_findBits_79 : decode cX11_findBits 79 = .ok (.ifCond .ne 6, 3) := by decide +kernel
theorem dX11_findBits_82 : decode cX11_findBits 82 = .ok (.goto 33, 3) := by decide +kernel
theorem dX11_findBits_85 : decode cX11_findBits 85 = .ok (.aload_n 0, 1) := by decide +kernel
theorem dX11_findBits_86 : decode cX11_findBits 86 = .ok (.getfield 51, 3) := by decide +kernel
theorem dX11_findBits_89 : decode cX11_findBits 89 = .ok (.aload_n 0, 1) := by decide +kernel
theorem dX11_findBits_90 : decode cX11_findBits 90 = .ok (.getfield 150, 3) := by decide +kernel
theorem dX11_findBits_93 : decode cX11_findBits 93 = .ok (.iload_n 1, 1) := by decide +kernel
theorem dX11_findBits_94 : decode cX11_findBits 94 = .ok (.iastore, 1) := by decide +kernel
theorem dX11_findBits_95 : decode cX11_findBits 95 = .ok (.aload_n 0, 1) := by decide +kernel
theorem dX11_findBits_96 : decode cX11_findBits 96 = .ok (.getfield 54, 3) := by decide +kernel
theorem dX11_findBits_99 : decode cX11_findBits 99 = .ok (.aload_n 0, 1) := by decide +kernel
theorem dX11_findBits_100 : decode cX11_findBits 100 = .ok (.getfield 150, 3) := by decide +kernel
theorem dX11_findBits_103 : decode cX11_findBits 103 = .ok (.iload_n 2, 1) := by decide +kernel
theorem dX11_findBits_104 : decode cX11_findBits 104 = .ok (.iastore, 1) := by decide +kernel
theorem dX11_findBits_105 : decode cX11_findBits 105 = .ok (.aload_n 0, 1) := by decide +kernel
theorem dX11_findBits_106 : decode cX11_findBits 106 = .ok (.dup, 1) := by decide +kernel
theorem dX11_findBits_107 : decode cX11_findBits 107 = .ok (.getfield 150, 3) := by decide +kernel
theorem dX11_findBits_110 : decode cX11_findBits 110 = .ok (.iconst 1, 1) := by decide +kernel
theorem dX11_findBits_111 : decode cX11_findBits 111 = .ok (.iadd, 1) := by decide +kernel
theorem dX11_findBits_112 : decode cX11_findBits 112 = .ok (.putfield 150, 3) := by decide +kernel
theorem dX11_findBits_115 : decode cX11_findBits 115 = .ok (.iinc 2 1, 3) := by decide +kernel
theorem dX11_findBits_118 : decode cX11_findBits 118 = .ok (.goto (-101), 3) := by decide +kernel
theorem dX11_findBits_121 : decode cX11_findBits 121 = .ok (.iinc 1 1, 3) := by decide +kernel
theorem dX11_findBits_124 : decode cX11_findBits 124 = .ok (.goto (-117), 3) := by decide +kernel
theorem dX11_findBits_127 : decode cX11_findBits 127 = .ok (.return_, 1) := by decide +kernel
theorem dX11_bits_0 : decode cX11_bits 0 = .ok (.aload_n 0, 1) := by decide +kernel
theorem dX11_bits_1 : decode cX11_bits 1 = .ok (.invokevirtual 157, 3) := by decide +kernel
theorem dX11_bits_4 : decode cX11_bits 4 = .ok (.aload_n 0, 1) := by decide +kernel
theorem dX11_bits_5 : decode cX11_bits 5 = .ok (.getfield 150, 3) := by decide +kernel
theorem dX11_bits_8 : decode cX11_bits 8 = .ok (.ireturn, 1) := by decide +kernel
theorem dX11_bit_0 : decode cX11_bit 0 = .ok (.aload_n 0, 1) := by decide +kernel
theorem dX11_bit_1 : decode cX11_bit 1 = .ok (.invokevirtual 157, 3) := by decide +kernel
theorem dX11_bit_4 : decode cX11_bit 4 = .ok (.iload_n 1, 1) := by decide +kernel
theorem dX11_bit_5 : decode cX11_bit 5 = .ok (.iconst 0, 1) := by decide +kernel
theorem dX11_bit_6 : decode cX11_bit 6 = .ok (.aload_n 0, 1) := by decide +kernel
theorem dX11_bit_7 : decode cX11_bit 7 = .ok (.getfield 150, 3) := by decide +kernel
theorem dX11_bit_10 : decode cX11_bit 10 = .ok (.iconst 1, 1) := by decide +kernel
theorem dX11_bit_11 : decode cX11_bit 11 = .ok (.isub, 1) := by decide +kernel
theorem dX11_bit_12 : decode cX11_bit 12 = .ok (.invokestatic 78, 3) := by decide +kernel
theorem dX11_bit_15 : decode cX11_bit 15 = .ok (.ifCond .ne 5, 3) := by decide +kernel
theorem dX11_bit_18 : decode cX11_bit 18 = .ok (.iconst (-1), 1) := by decide +kernel
theorem dX11_bit_19 : decode cX11_bit 19 = .ok (.ireturn, 1) := by decide +kernel
theorem dX11_bit_20 : decode cX11_bit 20 = .ok (.iload_n 2, 1) := by decide +kernel
theorem dX11_bit_21 : decode cX11_bit 21 = .ok (.ifCond .ne 12, 3) := by decide +kernel
theorem dX11_bit_24 : decode cX11_bit 24 = .ok (.aload_n 0, 1) := by decide +kernel
theorem dX11_bit_25 : decode cX11_bit 25 = .ok (.getfield 51, 3) := by decide +kernel
theorem dX11_bit_28 : decode cX11_bit 28 = .ok (.iload_n 1, 1) := by decide +kernel
theorem dX11_bit_29 : decode cX11_bit 29 = .ok (.iaload, 1) := by decide +kernel
theorem dX11_bit_30 : decode cX11_bit 30 = .ok (.goto 18, 3) := by decide +kernel
theorem dX11_bit_33 : decode cX11_bit 33 = .ok (.iload_n 2, 1) := by decide +kernel
theorem dX11_bit_34 : decode cX11_bit 34 = .ok (.iconst 1, 1) := by decide +kernel
theorem dX11_bit_35 : decode cX11_bit 35 = .ok (.if_icmp .ne 12, 3) := by decide +kernel
theorem dX11_bit_38 : decode cX11_bit 38 = .ok (.aload_n 0, 1) := by decide +kernel
theorem dX11_bit_39 : decode cX11_bit 39 = .ok (.getfield 54, 3) := by decide +kernel
theorem dX11_bit_42 : decode cX11_bit 42 = .ok (.iload_n 1, 1) := by decide +kernel
theorem dX11_bit_43 : decode cX11_bit 43 = .ok (.iaload, 1) := by decide +kernel
theorem dX11_bit_44 : decode cX11_bit 44 = .ok (.goto 4, 3) := by decide +kernel
theorem dX11_bit_47 : decode cX11_bit 47 = .ok (.iconst (-1), 1) := by decide +kernel
theorem dX11_bit_48 : decode cX11_bit 48 = .ok (.ireturn, 1) := by decide +kernel
theorem dX11_findPairs_0 : decode cX11_findPairs 0 = .ok (.aload_n 0, 1) := by decide +kernel
theorem dX11_findPairs_1 : decode cX11_findPairs 1 = .ok (.invokevirtual 157, 3) := by decide +kernel
theorem dX11_findPairs_4 : decode cX11_findPairs 4 = .ok (.aload_n 0, 1) := by decide +kernel
theorem dX11_findPairs_5 : decode cX11_findPairs 5 = .ok (.iconst 0, 1) := by decide +kernel
theorem dX11_findPairs_6 : decode cX11_findPairs 6 = .ok (.putfield 160, 3) := by decide +kernel
theorem dX11_findPairs_9 : decode cX11_findPairs 9 = .ok (.aload_n 0, 1) := by decide +kernel
theorem dX11_findPairs_10 : decode cX11_findPairs 10 = .ok (.getfield 150, 3) := by decide +kernel
theorem dX11_findPairs_13 : decode cX11_findPairs 13 = .ok (.bipush 40, 2) := by decide +kernel
theorem dX11_findPairs_15 : decode cX11_findPairs 15 = .ok (.if_icmp .le 5, 3) := by decide +kernel
theorem dX11_findPairs_18 : decode cX11_findPairs 18 = .ok (.iconst 0, 1) := by decide +kernel
theorem dX11_findPairs_19 : decode cX11_findPairs 19 = .ok (.ireturn, 1) := by decide +kernel
theorem dX11_findPairs_20 : decode cX11_findPairs 20 = .ok (.iconst 0, 1) := by decide +kernel
theorem dX11_findPairs_21 : decode cX11_findPairs 21 = .ok (.istore_n 1, 1) := by decide +kernel
theorem dX11_findPairs_22 : decode cX11_findPairs 22 = .ok (.iload_n 1, 1) := by decide +kernel
theorem dX11_findPairs_23 : decode cX11_findPairs 23 = .ok (.aload_n 0, 1) := by decide +kernel
theorem dX11_findPairs_24 : decode cX11_findPairs 24 = .ok (.getfield 150, 3) := by decide +kernel
theorem dX11_findPairs_27 : decode cX11_findPairs 27 = .ok (.if_icmp .ge 138, 3) := by decide +kernel
theorem dX11_findPairs_30 : decode cX11_findPairs 30 = .ok (.iload_n 1, 1) := by decide +kernel
theorem dX11_findPairs_31 : decode cX11_findPairs 31 = .ok (.iconst 1, 1) := by decide +kernel
theorem dX11_findPairs_32 : decode cX11_findPairs 32 = .ok (.iadd, 1) := by decide +kernel
theorem dX11_findPairs_33 : decode cX11_findPairs 33 = .ok (.istore_n 2, 1) := by decide +kernel
theorem dX11_findPairs_34 : decode cX11_findPairs 34 = .ok (.iload_n 2, 1) := by decide +kernel
theorem dX11_findPairs_35 : decode cX11_findPairs 35 = .ok (.aload_n 0, 1) := by decide +kernel
theorem dX11_findPairs_36 : decode cX11_findPairs 36 = .ok (.getfield 150, 3) := by decide +kernel
theorem dX11_findPairs_39 : decode cX11_findPairs 39 = .ok (.if_icmp .ge 120, 3) := by decide +kernel
theorem dX11_findPairs_42 : decode cX11_findPairs 42 = .ok (.aload_n 0, 1) := by decide +kernel
theorem dX11_findPairs_43 : decode cX11_findPairs 43 = .ok (.aload_n 0, 1) := by decide +kernel
theorem dX11_findPairs_44 : decode cX11_findPairs 44 = .ok (.getfield 51, 3) := by decide +kernel
theorem dX11_findPairs_47 : decode cX11_findPairs 47 = .ok (.iload_n 1, 1) := by decide +kernel
theorem dX11_findPairs_48 : decode cX11_findPairs 48 = .ok (.iaload, 1) := by decide +kernel
theorem dX11_findPairs_49 : decode cX11_findPairs 49 = .ok (.invokevirtual 92, 3) := by decide +kernel
theorem dX11_findPairs_52 : decode cX11_findPairs 52 = .ok (.aload_n 0, 1) := by decide +kernel
theorem dX11_findPairs_53 : decode cX11_findPairs 53 = .ok (.aload_n 0, 1) := by decide +kernel
theorem dX11_findPairs_54 : decode cX11_findPairs 54 = .ok (.getfield 51, 3) := by decide +kernel
theorem dX11_findPairs_57 : decode cX11_findPairs 57 = .ok (.iload_n 2, 1) := by decide +kernel
theorem dX11_findPairs_58 : decode cX11_findPairs 58 = .ok (.iaload, 1) := by decide +kernel
theorem dX11_findPairs_59 : decode cX11_findPairs 59 = .ok (.invokevirtual 92, 3) := by decide +kernel
theorem dX11_findPairs_62 : decode cX11_findPairs 62 = .ok (.if_icmp .ne 6, 3) := by decide +kernel
theorem dX11_findPairs_65 : decode cX11_findPairs 65 = .ok (.goto 88, 3) := by decide +kernel
theorem dX11_findPairs_68 : decode cX11_findPairs 68 = .ok (.aload_n 0, 1) := by decide +kernel
theorem dX11_findPairs_69 : decode cX11_findPairs 69 = .ok (.iconst 0, 1) := by decide +kernel
theorem dX11_findPairs_70 : decode cX11_findPairs 70 = .ok (.putfield 96, 3) := by decide +kernel
theorem dX11_findPairs_73 : decode cX11_findPairs 73 = .ok (.aload_n 0, 1) := by decide +kernel
theorem dX11_findPairs_74 : decode cX11_findPairs 74 = .ok (.aload_n 0, 1) := by decide +kernel
theorem dX11_findPairs_75 : decode cX11_findPairs 75 = .ok (.getfield 51, 3) := by decide +kernel
theorem dX11_findPairs_78 : decode cX11_findPairs 78 = .ok (.iload_n 1, 1) := by decide +kernel
theorem dX11_findPairs_79 : decode cX11_findPairs 79 = .ok (.iaload, 1) := by decide +kernel
theorem dX11_findPairs_80 : decode cX11_findPairs 80 = .ok (.invokevirtual 163, 3) := by decide +kernel
theorem dX11_findPairs_83 : decode cX11_findPairs 83 = .ok (.aload_n 0, 1) := by decide +kernel
theorem dX11_findPairs_84 : decode cX11_findPairs 84 = .ok (.aload_n 0, 1) := by decide +kernel
theorem dX11_findPairs_85 : decode cX11_findPairs 85 = .ok (.getfield 54, 3) := by decide +kernel
theorem dX11_findPairs_88 : decode cX11_findPairs 88 = .ok (.iload_n 1, 1) := by decide +kernel
theorem dX11_findPairs_89 : decode cX11_findPairs 89 = .ok (.iaload, 1) := by decide +kernel
theorem dX11_findPairs_90 : decode cX11_findPairs 90 = .ok (.invokevirtual 163, 3) := by decide +kernel
theorem dX11_findPairs_93 : decode cX11_findPairs 93 = .ok (.aload_n 0, 1) := by decide +kernel
theorem dX11_findPairs_94 : decode cX11_findPairs 94 = .ok (.aload_n 0, 1) := by decide +kernel
theorem dX11_findPairs_95 : decode cX11_findPairs 95 = .ok (.getfield 51, 3) := by decide +kernel
theorem dX11_findPairs_98 : decode cX11_findPairs 98 = .ok (.iload_n 2, 1) := by decide +kernel
theorem dX11_findPairs_99 : decode cX11_findPairs 99 = .ok (.iaload, 1) := by decide +kernel
theorem dX11_findPairs_100 : decode cX11_findPairs 100 = .ok (.invokevirtual 163, 3) := by decide +kernel
theorem dX11_findPairs_103 : decode cX11_findPairs 103 = .ok (.aload_n 0, 1) := by decide +kernel
theorem dX11_findPairs_104 : decode cX11_findPairs 104 = .ok (.aload_n 0, 1) := by decide +kernel
theorem dX11_findPairs_105 : decode cX11_findPairs 105 = .ok (.getfield 54, 3) := by decide +kernel
theorem dX11_findPairs_108 : decode cX11_findPairs 108 = .ok (.iload_n 2, 1) := by decide +kernel
theorem dX11_findPairs_109 : decode cX11_findPairs 109 = .ok (.iaload, 1) := by decide +kernel
theorem dX11_findPairs_110 : decode cX11_findPairs 110 = .ok (.invokevirtual 163, 3) := by decide +kernel
theorem dX11_findPairs_113 : decode cX11_findPairs 113 = .ok (.aload_n 0, 1) := by decide +kernel
theorem dX11_findPairs_114 : decode cX11_findPairs 114 = .ok (.invokevirtual 131, 3) := by decide +kernel
theorem dX11_findPairs_117 : decode cX11_findPairs 117 = .ok (.ifCond .ne 6, 3) := by decide +kernel
theorem dX11_findPairs_120 : decode cX11_findPairs 120 = .ok (.goto 33, 3) := by decide +kernel
theorem dX11_findPairs_123 : decode cX11_findPairs 123 = .ok (.aload_n 0, 1) := by decide +kernel
theorem dX11_findPairs_124 : decode cX11_findPairs 124 = .ok (.getfield 57, 3) := by decide +kernel
theorem dX11_findPairs_127 : decode cX11_findPairs 127 = .ok (.aload_n 0, 1) := by decide +kernel
theorem dX11_findPairs_128 : decode cX11_findPairs 128 = .ok (.getfield 160, 3) := by decide +kernel
theorem dX11_findPairs_131 : decode cX11_findPairs 131 = .ok (.iload_n 1, 1) := by decide +kernel
theorem dX11_findPairs_132 : decode cX11_findPairs 132 = .ok (.iastore, 1) := by decide +kernel
theorem dX11_findPairs_133 : decode cX11_findPairs 133 = .ok (.aload_n 0, 1) := by decide +kernel
theorem dX11_findPairs_134 : decode cX11_findPairs 134 = .ok (.getfield 60, 3) := by decide +kernel
theorem dX11_findPairs_137 : decode cX11_findPairs 137 = .ok (.aload_n 0, 1) := by decide +kernel
theorem dX11_findPairs_138 : decode cX11_findPairs 138 = .ok (.getfield 160, 3) := by decide +kernel
theorem dX11_findPairs_141 : decode cX11_findPairs 141 = .ok (.iload_n 2, 1) := by decide +kernel
theorem dX11_findPairs_142 : decode cX11_findPairs 142 = .ok (.iastore, 1) := by decide +kernel
theorem dX11_findPairs_143 : decode cX11_findPairs 143 = .ok (.aload_n 0, 1) := by decide +kernel
theorem dX11_findPairs_144 : decode cX11_findPairs 144 = .ok (.dup, 1) := by decide +kernel
theorem dX11_findPairs_145 : decode cX11_findPairs 145 = .ok (.getfield 160, 3) := by decide +kernel
theorem dX11_findPairs_148 : decode cX11_findPairs 148 = .ok (.iconst 1, 1) := by decide +kernel
theorem dX11_findPairs_149 : decode cX11_findPairs 149 = .ok (.iadd, 1) := by decide +kernel
theorem dX11_findPairs_150 : decode cX11_findPairs 150 = .ok (.putfield 160, 3) := by decide +kernel
theorem dX11_findPairs_153 : decode cX11_findPairs 153 = .ok (.iinc 2 1, 3) := by decide +kernel
theorem dX11_findPairs_156 : decode cX11_findPairs 156 = .ok (.goto (-122), 3) := by decide +kernel
theorem dX11_findPairs_159 : decode cX11_findPairs 159 = .ok (.iinc 1 1, 3) := by decide +kernel
theorem dX11_findPairs_162 : decode cX11_findPairs 162 = .ok (.goto (-140), 3) := by decide +kernel
theorem dX11_findPairs_165 : decode cX11_findPairs 165 = .ok (.iconst 1, 1) := by decide +kernel
theorem dX11_findPairs_166 : decode cX11_findPairs 166 = .ok (.ireturn, 1) := by decide +kernel
theorem dX11_pairs_0 : decode cX11_pairs 0 = .ok (.aload_n 0, 1) := by decide +kernel
theorem dX11_pairs_1 : decode cX11_pairs 1 = .ok (.invokevirtual 166, 3) := by decide +kernel
theorem dX11_pairs_4 : decode cX11_pairs 4 = .ok (.ifCond .eq 10, 3) := by decide +kernel
theorem dX11_pairs_7 : decode cX11_pairs 7 = .ok (.aload_n 0, 1) := by decide +kernel
theorem dX11_pairs_8 : decode cX11_pairs 8 = .ok (.getfield 160, 3) := by decide +kernel
theorem dX11_pairs_11 : decode cX11_pairs 11 = .ok (.goto 4, 3) := by decide +kernel
theorem dX11_pairs_14 : decode cX11_pairs 14 = .ok (.iconst (-1), 1) := by decide +kernel
theorem dX11_pairs_15 : decode cX11_pairs 15 = .ok (.ireturn, 1) := by decide +kernel
theorem dX11_pair_0 : decode cX11_pair 0 = .ok (.aload_n 0, 1) := by decide +kernel
theorem dX11_pair_1 : decode cX11_pair 1 = .ok (.invokevirtual 166, 3) := by decide +kernel
theorem dX11_pair_4 : decode cX11_pair 4 = .ok (.ifCond .eq 17, 3) := by decide +kernel
theorem dX11_pair_7 : decode cX11_pair 7 = .ok (.iload_n 1, 1) := by decide +kernel
theorem dX11_pair_8 : decode cX11_pair 8 = .ok (.iconst 0, 1) := by decide +kernel
theorem dX11_pair_9 : decode cX11_pair 9 = .ok (.aload_n 0, 1) := by decide +kernel
theorem dX11_pair_10 : decode cX11_pair 10 = .ok (.getfield 160, 3) := by decide +kernel
theorem dX11_pair_13 : decode cX11_pair 13 = .ok (.iconst 1, 1) := by decide +kernel
theorem dX11_pair_14 : decode cX11_pair 14 = .ok (.isub, 1) := by decide +kernel
theorem dX11_pair_15 : decode cX11_pair 15 = .ok (.invokestatic 78, 3) := by decide +kernel
theorem dX11_pair_18 : decode cX11_pair 18 = .ok (.ifCond .ne 5, 3) := by decide +kernel
theorem dX11_pair_21 : decode cX11_pair 21 = .ok (.iconst (-1), 1) := by decide +kernel
theorem dX11_pair_22 : decode cX11_pair 22 = .ok (.ireturn, 1) := by decide +kernel
theorem dX11_pair_23 : decode cX11_pair 23 = .ok (.iload_n 2, 1) := by decide +kernel
theorem dX11_pair_24 : decode cX11_pair 24 = .ok (.ifCond .ne 12, 3) := by decide +kernel
theorem dX11_pair_27 : decode cX11_pair 27 = .ok (.aload_n 0, 1) := by decide +kernel
theorem dX11_pair_28 : decode cX11_pair 28 = .ok (.getfield 57, 3) := by decide +kernel
theorem dX11_pair_31 : decode cX11_pair 31 = .ok (.iload_n 1, 1) := by decide +kernel
theorem dX11_pair_32 : decode cX11_pair 32 = .ok (.iaload, 1) := by decide +kernel
theorem dX11_pair_33 : decode cX11_pair 33 = .ok (.goto 18, 3) := by decide +kernel
theorem dX11_pair_36 : decode cX11_pair 36 = .ok (.iload_n 2, 1) := by decide +kernel
theorem dX11_pair_37 : decode cX11_pair 37 = .ok (.iconst 1, 1) := by decide +kernel
theorem dX11_pair_38 : decode cX11_pair 38 = .ok (.if_icmp .ne 12, 3) := by decide +kernel
theorem dX11_pair_41 : decode cX11_pair 41 = .ok (.aload_n 0, 1) := by decide +kernel
theorem dX11_pair_42 : decode cX11_pair 42 = .ok (.getfield 60, 3) := by decide +kernel
theorem dX11_pair_45 : decode cX11_pair 45 = .ok (.iload_n 1, 1) := by decide +kernel
theorem dX11_pair_46 : decode cX11_pair 46 = .ok (.iaload, 1) := by decide +kernel
theorem dX11_pair_47 : decode cX11_pair 47 = .ok (.goto 4, 3) := by decide +kernel
theorem dX11_pair_50 : decode cX11_pair 50 = .ok (.iconst (-1), 1) := by decide +kernel
theorem dX11_pair_51 : decode cX11_pair 51 = .ok (.ireturn, 1) := by decide +kernel
theorem dX11_keep_0 : decode cX11_keep 0 = .ok (.aload_n 0, 1) := by decide +kernel
theorem dX11_keep_1 : decode cX11_keep 1 = .ok (.getfield 85, 3) := by decide +kernel
theorem dX11_keep_4 : decode cX11_keep 4 = .ok (.bipush 30, 2) := by decide +kernel
theorem dX11_keep_6 : decode cX11_keep 6 = .ok (.if_icmp .ne 26, 3) := by decide +kernel
theorem dX11_keep_9 : decode cX11_keep 9 = .ok (.aload_n 0, 1) := by decide +kernel
theorem dX11_keep_10 : decode cX11_keep 10 = .ok (.aload_n 0, 1) := by decide +kernel
theorem dX11_keep_11 : decode cX11_keep 11 = .ok (.getfield 169, 3) := by decide +kernel
theorem dX11_keep_14 : decode cX11_keep 14 = .ok (.iconst 1, 1) := by decide +kernel
theorem dX11_keep_15 : decode cX11_keep 15 = .ok (.iadd, 1) := by decide +kernel
theorem dX11_keep_16 : decode cX11_keep 16 = .ok (.bipush 30, 2) := by decide +kernel
theorem dX11_keep_18 : decode cX11_keep 18 = .ok (.irem, 1) := by decide +kernel
theorem dX11_keep_19 : decode cX11_keep 19 = .ok (.putfield 169, 3) := by decide +kernel
theorem dX11_keep_22 : decode cX11_keep 22 = .ok (.aload_n 0, 1) := by decide +kernel
theorem dX11_keep_23 : decode cX11_keep 23 = .ok (.dup, 1) := by decide +kernel
theorem dX11_keep_24 : decode cX11_keep 24 = .ok (.getfield 85, 3) := by decide +kernel
theorem dX11_keep_27 : decode cX11_keep 27 = .ok (.iconst 1, 1) := by decide +kernel
theorem dX11_keep_28 : decode cX11_keep 28 = .ok (.isub, 1) := by decide +kernel
theorem dX11_keep_29 : decode cX11_keep 29 = .ok (.putfield 85, 3) := by decide +kernel
theorem dX11_keep_32 : decode cX11_keep 32 = .ok (.aload_n 0, 1) := by decide +kernel
theorem dX11_keep_33 : decode cX11_keep 33 = .ok (.getfield 169, 3) := by decide +kernel
theorem dX11_keep_36 : decode cX11_keep 36 = .ok (.aload_n 0, 1) := by decide +kernel
theorem dX11_keep_37 : decode cX11_keep 37 = .ok (.getfield 85, 3) := by decide +kernel
theorem dX11_keep_40 : decode cX11_keep 40 = .ok (.iadd, 1) := by decide +kernel
theorem dX11_keep_41 : decode cX11_keep 41 = .ok (.bipush 30, 2) := by decide +kernel
theorem dX11_keep_43 : decode cX11_keep 43 = .ok (.irem, 1) := by decide +kernel
theorem dX11_keep_44 : decode cX11_keep 44 = .ok (.istore_n 1, 1) := by decide +kernel
theorem dX11_keep_45 : decode cX11_keep 45 = .ok (.aload_n 0, 1) := by decide +kernel
theorem dX11_keep_46 : decode cX11_keep 46 = .ok (.dup, 1) := by decide +kernel
theorem dX11_keep_47 : decode cX11_keep 47 = .ok (.getfield 85, 3) := by decide +kernel
theorem dX11_keep_50 : decode cX11_keep 50 = .ok (.iconst 1, 1) := by decide +kernel
theorem dX11_keep_51 : decode cX11_keep 51 = .ok (.iadd, 1) := by decide +kernel
theorem dX11_keep_52 : decode cX11_keep 52 = .ok (.putfield 85, 3) := by decide +kernel
theorem dX11_keep_55 : decode cX11_keep 55 = .ok (.aload_n 0, 1) := by decide +kernel
theorem dX11_keep_56 : decode cX11_keep 56 = .ok (.getfield 63, 3) := by decide +kernel
theorem dX11_keep_59 : decode cX11_keep 59 = .ok (.iload_n 1, 1) := by decide +kernel
theorem dX11_keep_60 : decode cX11_keep 60 = .ok (.aload_n 0, 1) := by decide +kernel
theorem dX11_keep_61 : decode cX11_keep 61 = .ok (.getfield 82, 3) := by decide +kernel
theorem dX11_keep_64 : decode cX11_keep 64 = .ok (.iastore, 1) := by decide +kernel
theorem dX11_keep_65 : decode cX11_keep 65 = .ok (.iconst 0, 1) := by decide +kernel
theorem dX11_keep_66 : decode cX11_keep 66 = .ok (.istore_n 2, 1) := by decide +kernel
theorem dX11_keep_67 : decode cX11_keep 67 = .ok (.iload_n 2, 1) := by decide +kernel
theorem dX11_keep_68 : decode cX11_keep 68 = .ok (.bipush 12, 2) := by decide +kernel
theorem dX11_keep_70 : decode cX11_keep 70 = .ok (.if_icmp .ge 84, 3) := by decide +kernel
theorem dX11_keep_73 : decode cX11_keep 73 = .ok (.aload_n 0, 1) := by decide +kernel
theorem dX11_keep_74 : decode cX11_keep 74 = .ok (.getfield 66, 3) := by decide +kernel
theorem dX11_keep_77 : decode cX11_keep 77 = .ok (.bipush 12, 2) := by decide +kernel
theorem dX11_keep_79 : decode cX11_keep 79 = .ok (.iload_n 1, 1) := by decide +kernel
theorem dX11_keep_80 : decode cX11_keep 80 = .ok (.imul, 1) := by decide +kernel
theorem dX11_keep_81 : decode cX11_keep 81 = .ok (.iload_n 2, 1) := by decide +kernel
theorem dX11_keep_82 : decode cX11_keep 82 = .ok (.iadd, 1) := by decide +kernel
theorem dX11_keep_83 : decode cX11_keep 83 = .ok (.aload_n 0, 1) := by decide +kernel
theorem dX11_keep_84 : decode cX11_keep 84 = .ok (.getfield 38, 3) := by decide +kernel
theorem dX11_keep_87 : decode cX11_keep 87 = .ok (.iload_n 2, 1) := by decide +kernel
theorem dX11_keep_88 : decode cX11_keep 88 = .ok (.iaload, 1) := by decide +kernel
theorem dX11_keep_89 : decode cX11_keep 89 = .ok (.iastore, 1) := by decide +kernel
theorem dX11_keep_90 : decode cX11_keep 90 = .ok (.aload_n 0, 1) := by decide +kernel
theorem dX11_keep_91 : decode cX11_keep 91 = .ok (.getfield 72, 3) := by decide +kernel
theorem dX11_keep_94 : decode cX11_keep 94 = .ok (.bipush 12, 2) := by decide +kernel
theorem dX11_keep_96 : decode cX11_keep 96 = .ok (.iload_n 1, 1) := by decide +kernel
theorem dX11_keep_97 : decode cX11_keep 97 = .ok (.imul, 1) := by decide +kernel
theorem dX11_keep_98 : decode cX11_keep 98 = .ok (.iload_n 2, 1) := by decide +kernel
theorem dX11_keep_99 : decode cX11_keep 99 = .ok (.iadd, 1) := by decide +kernel
theorem dX11_keep_100 : decode cX11_keep 100 = .ok (.aload_n 0, 1) := by decide +kernel
theorem dX11_keep_101 : decode cX11_keep 101 = .ok (.getfield 44, 3) := by decide +kernel
theorem dX11_keep_104 : decode cX11_keep 104 = .ok (.iload_n 2, 1) := by decide +kernel
theorem dX11_keep_105 : decode cX11_keep 105 = .ok (.baload, 1) := by decide +kernel
theorem dX11_keep_106 : decode cX11_keep 106 = .ok (.bastore, 1) := by decide +kernel
theorem dX11_keep_107 : decode cX11_keep 107 = .ok (.iconst 0, 1) := by decide +kernel
theorem dX11_keep_108 : decode cX11_keep 108 = .ok (.istore_n 3, 1) := by decide +kernel
theorem dX11_keep_109 : decode cX11_keep 109 = .ok (.iload_n 3, 1) := by decide +kernel
theorem dX11_keep_110 : decode cX11_keep 110 = .ok (.bipush 8, 2) := by decide +kernel
theorem dX11_keep_112 : decode cX11_keep 112 = .ok (.if_icmp .ge 36, 3) := by decide +kernel
theorem dX11_keep_115 : decode cX11_keep 115 = .ok (.aload_n 0, 1) := by decide +kernel
theorem dX11_keep_116 : decode cX11_keep 116 = .ok (.getfield 69, 3) := by decide +kernel
theorem dX11_keep_119 : decode cX11_keep 119 = .ok (.bipush 12, 2) := by decide +kernel
theorem dX11_keep_121 : decode cX11_keep 121 = .ok (.iload_n 1, 1) := by decide +kernel
theorem dX11_keep_122 : decode cX11_keep 122 = .ok (.imul, 1) := by decide +kernel
theorem dX11_keep_123 : decode cX11_keep 123 = .ok (.iload_n 2, 1) := by decide +kernel
theorem dX11_keep_124 : decode cX11_keep 124 = .ok (.iadd, 1) := by decide +kernel
theorem dX11_keep_125 : decode cX11_keep 125 = .ok (.bipush 8, 2) := by decide +kernel
theorem dX11_keep_127 : decode cX11_keep 127 = .ok (.imul, 1) := by decide +kernel
theorem dX11_keep_128 : decode cX11_keep 128 = .ok (.iload_n 3, 1) := by decide +kernel
theorem dX11_keep_129 : decode cX11_keep 129 = .ok (.iadd, 1) := by decide +kernel
theorem dX11_keep_130 : decode cX11_keep 130 = .ok (.aload_n 0, 1) := by decide +kernel
theorem dX11_keep_131 : decode cX11_keep 131 = .ok (.getfield 41, 3) := by decide +kernel
theorem dX11_keep_134 : decode cX11_keep 134 = .ok (.bipush 8, 2) := by decide +kernel
theorem dX11_keep_136 : decode cX11_keep 136 = .ok (.iload_n 2, 1) := by decide +kernel
theorem dX11_keep_137 : decode cX11_keep 137 = .ok (.imul, 1) := by decide +kernel
theorem dX11_keep_138 : decode cX11_keep 138 = .ok (.iload_n 3, 1) := by decide +kernel
theorem dX11_keep_139 : decode cX11_keep 139 = .ok (.iadd, 1) := by decide +kernel
theorem dX11_keep_140 : decode cX11_keep 140 = .ok (.iaload, 1) := by decide +kernel
theorem dX11_keep_141 : decode cX11_keep 141 = .ok (.iastore, 1) := by decide +kernel
theorem dX11_keep_142 : decode cX11_keep 142 = .ok (.iinc 3 1, 3) := by decide +kernel
theorem dX11_keep_145 : decode cX11_keep 145 = .ok (.goto (-36), 3) := by decide +kernel
theorem dX11_keep_148 : decode cX11_keep 148 = .ok (.iinc 2 1, 3) := by decide +kernel
theorem dX11_keep_151 : decode cX11_keep 151 = .ok (.goto (-84), 3) := by decide +kernel
theorem dX11_keep_154 : decode cX11_keep 154 = .ok (.return_, 1) := by decide +kernel
theorem dX11_own_0 : decode cX11_own 0 = .ok (.iconst 0, 1) := by decide +kernel
theorem dX11_own_1 : decode cX11_own 1 = .ok (.istore_n 1, 1) := by decide +kernel
theorem dX11_own_2 : decode cX11_own 2 = .ok (.iload_n 1, 1) := by decide +kernel
theorem dX11_own_3 : decode cX11_own 3 = .ok (.aload_n 0, 1) := by decide +kernel
theorem dX11_own_4 : decode cX11_own 4 = .ok (.getfield 75, 3) := by decide +kernel
theorem dX11_own_7 : decode cX11_own 7 = .ok (.if_icmp .ge 16, 3) := by decide +kernel
theorem dX11_own_10 : decode cX11_own 10 = .ok (.aload_n 0, 1) := by decide +kernel
theorem dX11_own_11 : decode cX11_own 11 = .ok (.getfield 32, 3) := by decide +kernel
theorem dX11_own_14 : decode cX11_own 14 = .ok (.iload_n 1, 1) := by decide +kernel
theorem dX11_own_15 : decode cX11_own 15 = .ok (.iconst (-1), 1) := by decide +kernel
theorem dX11_own_16 : decode cX11_own 16 = .ok (.iastore, 1) := by decide +kernel
theorem dX11_own_17 : decode cX11_own 17 = .ok (.iinc 1 1, 3) := by decide +kernel
theorem dX11_own_20 : decode cX11_own 20 = .ok (.goto (-18), 3) := by decide +kernel
theorem dX11_own_23 : decode cX11_own 23 = .ok (.iconst 0, 1) := by decide +kernel
theorem dX11_own_24 : decode cX11_own 24 = .ok (.istore_n 1, 1) := by decide +kernel
theorem dX11_own_25 : decode cX11_own 25 = .ok (.iload_n 1, 1) := by decide +kernel
theorem dX11_own_26 : decode cX11_own 26 = .ok (.aload_n 0, 1) := by decide +kernel
theorem dX11_own_27 : decode cX11_own 27 = .ok (.getfield 82, 3) := by decide +kernel
theorem dX11_own_30 : decode cX11_own 30 = .ok (.if_icmp .ge 44, 3) := by decide +kernel
theorem dX11_own_33 : decode cX11_own 33 = .ok (.iconst 0, 1) := by decide +kernel
theorem dX11_own_34 : decode cX11_own 34 = .ok (.istore_n 2, 1) := by decide +kernel
theorem dX11_own_35 : decode cX11_own 35 = .ok (.iload_n 2, 1) := by decide +kernel
theorem dX11_own_36 : decode cX11_own 36 = .ok (.aload_n 0, 1) := by decide +kernel
theorem dX11_own_37 : decode cX11_own 37 = .ok (.getfield 38, 3) := by decide +kernel
theorem dX11_own_40 : decode cX11_own 40 = .ok (.iload_n 1, 1) := by decide +kernel
theorem dX11_own_41 : decode cX11_own 41 = .ok (.iaload, 1) := by decide +kernel
theorem dX11_own_42 : decode cX11_own 42 = .ok (.if_icmp .ge 26, 3) := by decide +kernel
theorem dX11_own_45 : decode cX11_own 45 = .ok (.aload_n 0, 1) := by decide +kernel
theorem dX11_own_46 : decode cX11_own 46 = .ok (.getfield 32, 3) := by decide +kernel
theorem dX11_own_49 : decode cX11_own 49 = .ok (.aload_n 0, 1) := by decide +kernel
theorem dX11_own_50 : decode cX11_own 50 = .ok (.getfield 41, 3) := by decide +kernel
theorem dX11_own_53 : decode cX11_own 53 = .ok (.bipush 8, 2) := by decide +kernel
theorem dX11_own_55 : decode cX11_own 55 = .ok (.iload_n 1, 1) := by decide +kernel
theorem dX11_own_56 : decode cX11_own 56 = .ok (.imul, 1) := by decide +kernel
theorem dX11_own_57 : decode cX11_own 57 = .ok (.iload_n 2, 1) := by decide +kernel
theorem dX11_own_58 : decode cX11_own 58 = .ok (.iadd, 1) := by decide +kernel
theorem dX11_own_59 : decode cX11_own 59 = .ok (.iaload, 1) := by decide +kernel
theorem dX11_own_60 : decode cX11_own 60 = .ok (.iload_n 1, 1) := by decide +kernel
theorem dX11_own_61 : decode cX11_own 61 = .ok (.iastore, 1) := by decide +kernel
theorem dX11_own_62 : decode cX11_own 62 = .ok (.iinc 2 1, 3) := by decide +kernel
theorem dX11_own_65 : decode cX11_own 65 = .ok (.goto (-30), 3) := by decide +kernel
theorem dX11_own_68 : decode cX11_own 68 = .ok (.iinc 1 1, 3) := by decide +kernel
theorem dX11_own_71 : decode cX11_own 71 = .ok (.goto (-46), 3) := by decide +kernel
theorem dX11_own_74 : decode cX11_own 74 = .ok (.return_, 1) := by decide +kernel
theorem dX11_undo_0 : decode cX11_undo 0 = .ok (.aload_n 0, 1) := by decide +kernel
theorem dX11_undo_1 : decode cX11_undo 1 = .ok (.getfield 85, 3) := by decide +kernel
theorem dX11_undo_4 : decode cX11_undo 4 = .ok (.ifCond .ne 6, 3) := by decide +kernel
theorem dX11_undo_7 : decode cX11_undo 7 = .ok (.bipush (-3), 2) := by decide +kernel
theorem dX11_undo_9 : decode cX11_undo 9 = .ok (.ireturn, 1) := by decide +kernel
theorem dX11_undo_10 : decode cX11_undo 10 = .ok (.aload_n 0, 1) := by decide +kernel
theorem dX11_undo_11 : decode cX11_undo 11 = .ok (.dup, 1) := by decide +kernel
theorem dX11_undo_12 : decode cX11_undo 12 = .ok (.getfield 85, 3) := by decide +kernel
theorem dX11_undo_15 : decode cX11_undo 15 = .ok (.iconst 1, 1) := by decide +kernel
theorem dX11_undo_16 : decode cX11_undo 16 = .ok (.isub, 1) := by decide +kernel
theorem dX11_undo_17 : decode cX11_undo 17 = .ok (.putfield 85, 3) := by decide +kernel
theorem dX11_undo_20 : decode cX11_undo 20 = .ok (.aload_n 0, 1) := by decide +kernel
theorem dX11_undo_21 : decode cX11_undo 21 = .ok (.getfield 169, 3) := by decide +kernel
theorem dX11_undo_24 : decode cX11_undo 24 = .ok (.aload_n 0, 1) := by decide +kernel
theorem dX11_undo_25 : decode cX11_undo 25 = .ok (.getfield 85, 3) := by decide +kernel
theorem dX11_undo_28 : decode cX11_undo 28 = .ok (.iadd, 1) := by decide +kernel
theorem dX11_undo_29 : decode cX11_undo 29 = .ok (.bipush 30, 2) := by decide +kernel
theorem dX11_undo_31 : decode cX11_undo 31 = .ok (.irem, 1) := by decide +kernel
theorem dX11_undo_32 : decode cX11_undo 32 = .ok (.istore_n 1, 1) := by decide +kernel
theorem dX11_undo_33 : decode cX11_undo 33 = .ok (.iconst 0, 1) := by decide +kernel
theorem dX11_undo_34 : decode cX11_undo 34 = .ok (.istore_n 2, 1) := by decide +kernel
theorem dX11_undo_35 : decode cX11_undo 35 = .ok (.iload_n 2, 1) := by decide +kernel
theorem dX11_undo_36 : decode cX11_undo 36 = .ok (.aload_n 0, 1) := by decide +kernel
theorem dX11_undo_37 : decode cX11_undo 37 = .ok (.getfield 82, 3) := by decide +kernel
theorem dX11_undo_40 : decode cX11_undo 40 = .ok (.if_icmp .ge 124, 3) := by decide +kernel
theorem dX11_undo_43 : decode cX11_undo 43 = .ok (.iload_n 2, 1) := by decide +kernel
theorem dX11_undo_44 : decode cX11_undo 44 = .ok (.aload_n 0, 1) := by decide +kernel
theorem dX11_undo_45 : decode cX11_undo 45 = .ok (.getfield 63, 3) := by decide +kernel
theorem dX11_undo_48 : decode cX11_undo 48 = .ok (.iload_n 1, 1) := by decide +kernel
theorem dX11_undo_49 : decode cX11_undo 49 = .ok (.iaload, 1) := by decide +kernel
theorem dX11_undo_50 : decode cX11_undo 50 = .ok (.if_icmp .ge 7, 3) := by decide +kernel
theorem dX11_undo_53 : decode cX11_undo 53 = .ok (.iconst 1, 1) := by decide +kernel
theorem dX11_undo_54 : decode cX11_undo 54 = .ok (.goto 4, 3) := by decide +kernel
theorem dX11_undo_57 : decode cX11_undo 57 = .ok (.iconst 0, 1) := by decide +kernel
theorem dX11_undo_58 : decode cX11_undo 58 = .ok (.istore_n 3, 1) := by decide +kernel
theorem dX11_undo_59 : decode cX11_undo 59 = .ok (.aload_n 0, 1) := by decide +kernel
theorem dX11_undo_60 : decode cX11_undo 60 = .ok (.getfield 38, 3) := by decide +kernel
theorem dX11_undo_63 : decode cX11_undo 63 = .ok (.iload_n 2, 1) := by decide +kernel
theorem dX11_undo_64 : decode cX11_undo 64 = .ok (.iload_n 3, 1) := by decide +kernel
theorem dX11_undo_65 : decode cX11_undo 65 = .ok (.ifCond .eq 17, 3) := by decide +kernel
theorem dX11_undo_68 : decode cX11_undo 68 = .ok (.aload_n 0, 1) := by decide +kernel
theorem dX11_undo_69 : decode cX11_undo 69 = .ok (.getfield 66, 3) := by decide +kernel
theorem dX11_undo_72 : decode cX11_undo 72 = .ok (.bipush 12, 2) := by decide +kernel
theorem dX11_undo_74 : decode cX11_undo 74 = .ok (.iload_n 1, 1) := by decide +kernel
theorem dX11_undo_75 : decode cX11_undo 75 = .ok (.imul, 1) := by decide +kernel
theorem dX11_undo_76 : decode cX11_undo 76 = .ok (.iload_n 2, 1) := by decide +kernel
theorem dX11_undo_77 : decode cX11_undo 77 = .ok (.iadd, 1) := by decide +kernel
theorem dX11_undo_78 : decode cX11_undo 78 = .ok (.iaload, 1) := by decide +kernel
theorem dX11_undo_79 : decode cX11_undo 79 = .ok (.goto 4, 3) := by decide +kernel
theorem dX11_undo_82 : decode cX11_undo 82 = .ok (.iconst 0, 1) := by decide +kernel
theorem dX11_undo_83 : decode cX11_undo 83 = .ok (.iastore, 1) := by decide +kernel
theorem dX11_undo_84 : decode cX11_undo 84 = .ok (.aload_n 0, 1) := by decide +kernel
theorem dX11_undo_85 : decode cX11_undo 85 = .ok (.getfield 44, 3) := by decide +kernel
theorem dX11_undo_88 : decode cX11_undo 88 = .ok (.iload_n 2, 1) := by decide +kernel
theorem dX11_undo_89 : decode cX11_undo 89 = .ok (.iload_n 3, 1) := by decide +kernel
theorem dX11_undo_90 : decode cX11_undo 90 = .ok (.ifCond .eq 17, 3) := by decide +kernel
theorem dX11_undo_93 : decode cX11_undo 93 = .ok (.aload_n 0, 1) := by decide +kernel
theorem dX11_undo_94 : decode cX11_undo 94 = .ok (.getfield 72, 3) := by decide +kernel
theorem dX11_undo_97 : decode cX11_undo 97 = .ok (.bipush 12, 2) := by decide +kernel
theorem dX11_undo_99 : decode cX11_undo 99 = .ok (.iload_n 1, 1) := by decide +kernel
theorem dX11_undo_100 : decode cX11_undo 100 = .ok (.imul, 1) := by decide +kernel
theorem dX11_undo_101 : decode cX11_undo 101 = .ok (.iload_n 2, 1) := by decide +kernel
theorem dX11_undo_102 : decode cX11_undo 102 = .ok (.iadd, 1) := by decide +kernel
theorem dX11_undo_103 : decode cX11_undo 103 = .ok (.baload, 1) := by decide +kernel
theorem dX11_undo_104 : decode cX11_undo 104 = .ok (.ifCond .eq 7, 3) := by decide +kernel
theorem dX11_undo_107 : decode cX11_undo 107 = .ok (.iconst 1, 1) := by decide +kernel
theorem dX11_undo_108 : decode cX11_undo 108 = .ok (.goto 4, 3) := by decide +kernel
theorem dX11_undo_111 : decode cX11_undo 111 = .ok (.iconst 0, 1) := by decide +kernel
theorem dX11_undo_112 : decode cX11_undo 112 = .ok (.bastore, 1) := by decide +kernel
theorem dX11_undo_113 : decode cX11_undo 113 = .ok (.iconst 0, 1) := by decide +kernel
theorem dX11_undo_114 : decode cX11_undo 114 = .ok (.istore 4, 2) := by decide +kernel
theorem dX11_undo_116 : decode cX11_undo 116 = .ok (.iload 4, 2) := by decide +kernel
theorem dX11_undo_118 : decode cX11_undo 118 = .ok (.bipush 8, 2) := by decide +kernel
theorem dX11_undo_120 : decode cX11_undo 120 = .ok (.if_icmp .ge 38, 3) := by decide +kernel
theorem dX11_undo_123 : decode cX11_undo 123 = .ok (.aload_n 0, 1) := by decide +kernel
theorem dX11_undo_124 : decode cX11_undo 124 = .ok (.getfield 41, 3) := by decide +kernel
theorem dX11_undo_127 : decode cX11_undo 127 = .ok (.bipush 8, 2) := by decide +kernel
theorem dX11_undo_129 : decode cX11_undo 129 = .ok (.iload_n 2, 1) := by decide +kernel
theorem dX11_undo_130 : decode cX11_undo 130 = .ok (.imul, 1) := by decide +kernel
theorem dX11_undo_131 : decode cX11_undo 131 = .ok (.iload 4, 2) := by decide +kernel
theorem dX11_undo_133 : decode cX11_undo 133 = .ok (.iadd, 1) := by decide +kernel
theorem dX11_undo_134 : decode cX11_undo 134 = .ok (.aload_n 0, 1) := by decide +kernel
theorem dX11_undo_135 : decode cX11_undo 135 = .ok (.getfield 69, 3) := by decide +kernel
theorem dX11_undo_138 : decode cX11_undo 138 = .ok (.bipush 12, 2) := by decide +kernel
theorem dX11_undo_140 : decode cX11_undo 140 = .ok (.iload_n 1, 1) := by decide +kernel
theorem dX11_undo_141 : decode cX11_undo 141 = .ok (.imul, 1) := by decide +kernel
theorem dX11_undo_142 : decode cX11_undo 142 = .ok (.iload_n 2, 1) := by decide +kernel
theorem dX11_undo_143 : decode cX11_undo 143 = .ok (.iadd, 1) := by decide +kernel
theorem dX11_undo_144 : decode cX11_undo 144 = .ok (.bipush 8, 2) := by decide +kernel
theorem dX11_undo_146 : decode cX11_undo 146 = .ok (.imul, 1) := by decide +kernel
theorem dX11_undo_147 : decode cX11_undo 147 = .ok (.iload 4, 2) := by decide +kernel
theorem dX11_undo_149 : decode cX11_undo 149 = .ok (.iadd, 1) := by decide +kernel
theorem dX11_undo_150 : decode cX11_undo 150 = .ok (.iaload, 1) := by decide +kernel
theorem dX11_undo_151 : decode cX11_undo 151 = .ok (.iastore, 1) := by decide +kernel
theorem dX11_undo_152 : decode cX11_undo 152 = .ok (.iinc 4 1, 3) := by decide +kernel
theorem dX11_undo_155 : decode cX11_undo 155 = .ok (.goto (-39), 3) := by decide +kernel
theorem dX11_undo_158 : decode cX11_undo 158 = .ok (.iinc 2 1, 3) := by decide +kernel
theorem dX11_undo_161 : decode cX11_undo 161 = .ok (.goto (-126), 3) := by decide +kernel
theorem dX11_undo_164 : decode cX11_undo 164 = .ok (.aload_n 0, 1) := by decide +kernel
theorem dX11_undo_165 : decode cX11_undo 165 = .ok (.invokevirtual 172, 3) := by decide +kernel
theorem dX11_undo_168 : decode cX11_undo 168 = .ok (.aload_n 0, 1) := by decide +kernel
theorem dX11_undo_169 : decode cX11_undo 169 = .ok (.getfield 85, 3) := by decide +kernel
theorem dX11_undo_172 : decode cX11_undo 172 = .ok (.ireturn, 1) := by decide +kernel
theorem dX11_comes_0 : decode cX11_comes 0 = .ok (.aload_n 0, 1) := by decide +kernel
theorem dX11_comes_1 : decode cX11_comes 1 = .ok (.getfield 41, 3) := by decide +kernel
theorem dX11_comes_4 : decode cX11_comes 4 = .ok (.bipush 8, 2) := by decide +kernel
theorem dX11_comes_6 : decode cX11_comes 6 = .ok (.iload_n 1, 1) := by decide +kernel
theorem dX11_comes_7 : decode cX11_comes 7 = .ok (.imul, 1) := by decide +kernel
theorem dX11_comes_8 : decode cX11_comes 8 = .ok (.aload_n 0, 1) := by decide +kernel
theorem dX11_comes_9 : decode cX11_comes 9 = .ok (.getfield 38, 3) := by decide +kernel
theorem dX11_comes_12 : decode cX11_comes 12 = .ok (.iload_n 1, 1) := by decide +kernel
theorem dX11_comes_13 : decode cX11_comes 13 = .ok (.iaload, 1) := by decide +kernel
theorem dX11_comes_14 : decode cX11_comes 14 = .ok (.iadd, 1) := by decide +kernel
theorem dX11_comes_15 : decode cX11_comes 15 = .ok (.iload_n 2, 1) := by decide +kernel
theorem dX11_comes_16 : decode cX11_comes 16 = .ok (.iastore, 1) := by decide +kernel
theorem dX11_comes_17 : decode cX11_comes 17 = .ok (.aload_n 0, 1) := by decide +kernel
theorem dX11_comes_18 : decode cX11_comes 18 = .ok (.getfield 38, 3) := by decide +kernel
theorem dX11_comes_21 : decode cX11_comes 21 = .ok (.iload_n 1, 1) := by decide +kernel
theorem dX11_comes_22 : decode cX11_comes 22 = .ok (.dup2, 1) := by decide +kernel
theorem dX11_comes_23 : decode cX11_comes 23 = .ok (.iaload, 1) := by decide +kernel
theorem dX11_comes_24 : decode cX11_comes 24 = .ok (.iconst 1, 1) := by decide +kernel
theorem dX11_comes_25 : decode cX11_comes 25 = .ok (.iadd, 1) := by decide +kernel
theorem dX11_comes_26 : decode cX11_comes 26 = .ok (.iastore, 1) := by decide +kernel
theorem dX11_comes_27 : decode cX11_comes 27 = .ok (.aload_n 0, 1) := by decide +kernel
theorem dX11_comes_28 : decode cX11_comes 28 = .ok (.getfield 32, 3) := by decide +kernel
theorem dX11_comes_31 : decode cX11_comes 31 = .ok (.iload_n 2, 1) := by decide +kernel
theorem dX11_comes_32 : decode cX11_comes 32 = .ok (.iload_n 1, 1) := by decide +kernel
theorem dX11_comes_33 : decode cX11_comes 33 = .ok (.iastore, 1) := by decide +kernel
theorem dX11_comes_34 : decode cX11_comes 34 = .ok (.return_, 1) := by decide +kernel
theorem dX11_begins_0 : decode cX11_begins 0 = .ok (.aload_n 0, 1) := by decide +kernel
theorem dX11_begins_1 : decode cX11_begins 1 = .ok (.invokevirtual 175, 3) := by decide +kernel
theorem dX11_begins_4 : decode cX11_begins 4 = .ok (.aload_n 0, 1) := by decide +kernel
theorem dX11_begins_5 : decode cX11_begins 5 = .ok (.getfield 82, 3) := by decide +kernel
theorem dX11_begins_8 : decode cX11_begins 8 = .ok (.istore_n 2, 1) := by decide +kernel
theorem dX11_begins_9 : decode cX11_begins 9 = .ok (.aload_n 0, 1) := by decide +kernel
theorem dX11_begins_10 : decode cX11_begins 10 = .ok (.dup, 1) := by decide +kernel
theorem dX11_begins_11 : decode cX11_begins 11 = .ok (.getfield 82, 3) := by decide +kernel
theorem dX11_begins_14 : decode cX11_begins 14 = .ok (.iconst 1, 1) := by decide +kernel
theorem dX11_begins_15 : decode cX11_begins 15 = .ok (.iadd, 1) := by decide +kernel
theorem dX11_begins_16 : decode cX11_begins 16 = .ok (.putfield 82, 3) := by decide +kernel
theorem dX11_begins_19 : decode cX11_begins 19 = .ok (.aload_n 0, 1) := by decide +kernel
theorem dX11_begins_20 : decode cX11_begins 20 = .ok (.getfield 35, 3) := by decide +kernel
theorem dX11_begins_23 : decode cX11_begins 23 = .ok (.iload_n 2, 1) := by decide +kernel
theorem dX11_begins_24 : decode cX11_begins 24 = .ok (.iload_n 1, 1) := by decide +kernel
theorem dX11_begins_25 : decode cX11_begins 25 = .ok (.iastore, 1) := by decide +kernel
theorem dX11_begins_26 : decode cX11_begins 26 = .ok (.aload_n 0, 1) := by decide +kernel
theorem dX11_begins_27 : decode cX11_begins 27 = .ok (.getfield 38, 3) := by decide +kernel
theorem dX11_begins_30 : decode cX11_begins 30 = .ok (.iload_n 2, 1) := by decide +kernel
theorem dX11_begins_31 : decode cX11_begins 31 = .ok (.iconst 0, 1) := by decide +kernel
theorem dX11_begins_32 : decode cX11_begins 32 = .ok (.iastore, 1) := by decide +kernel
theorem dX11_begins_33 : decode cX11_begins 33 = .ok (.aload_n 0, 1) := by decide +kernel
theorem dX11_begins_34 : decode cX11_begins 34 = .ok (.getfield 44, 3) := by decide +kernel
theorem dX11_begins_37 : decode cX11_begins 37 = .ok (.iload_n 2, 1) := by decide +kernel
theorem dX11_begins_38 : decode cX11_begins 38 = .ok (.iconst 0, 1) := by decide +kernel
theorem dX11_begins_39 : decode cX11_begins 39 = .ok (.bastore, 1) := by decide +kernel
theorem dX11_begins_40 : decode cX11_begins 40 = .ok (.iload_n 2, 1) := by decide +kernel
theorem dX11_begins_41 : decode cX11_begins 41 = .ok (.ireturn, 1) := by decide +kernel
theorem dX11_start_0 : decode cX11_start 0 = .ok (.aload_n 0, 1) := by decide +kernel
theorem dX11_start_1 : decode cX11_start 1 = .ok (.invokevirtual 166, 3) := by decide +kernel
theorem dX11_start_4 : decode cX11_start 4 = .ok (.ifCond .eq 17, 3) := by decide +kernel
theorem dX11_start_7 : decode cX11_start 7 = .ok (.iload_n 1, 1) := by decide +kernel
theorem dX11_start_8 : decode cX11_start 8 = .ok (.iconst 0, 1) := by decide +kernel
theorem dX11_start_9 : decode cX11_start 9 = .ok (.aload_n 0, 1) := by decide +kernel
theorem dX11_start_10 : decode cX11_start 10 = .ok (.getfield 160, 3) := by decide +kernel
theorem dX11_start_13 : decode cX11_start 13 = .ok (.iconst 1, 1) := by decide +kernel
theorem dX11_start_14 : decode cX11_start 14 = .ok (.isub, 1) := by decide +kernel
theorem dX11_start_15 : decode cX11_start 15 = .ok (.invokestatic 78, 3) := by decide +kernel
theorem dX11_start_18 : decode cX11_start 18 = .ok (.ifCond .ne 5, 3) := by decide +kernel
theorem dX11_start_21 : decode cX11_start 21 = .ok (.iconst (-1), 1) := by decide +kernel
theorem dX11_start_22 : decode cX11_start 22 = .ok (.ireturn, 1) := by decide +kernel
theorem dX11_start_23 : decode cX11_start 23 = .ok (.iload_n 2, 1) := by decide +kernel
theorem dX11_start_24 : decode cX11_start 24 = .ok (.iconst 0, 1) := by decide +kernel
theorem dX11_start_25 : decode cX11_start 25 = .ok (.sipush 999, 3) := by decide +kernel
theorem dX11_start_28 : decode cX11_start 28 = .ok (.invokestatic 78, 3) := by decide +kernel
theorem dX11_start_31 : decode cX11_start 31 = .ok (.ifCond .ne 6, 3) := by decide +kernel
theorem dX11_start_34 : decode cX11_start 34 = .ok (.bipush (-2), 2) := by decide +kernel
theorem dX11_start_36 : decode cX11_start 36 = .ok (.ireturn, 1) := by decide +kernel
theorem dX11_start_37 : decode cX11_start 37 = .ok (.aload_n 0, 1) := by decide +kernel
theorem dX11_start_38 : decode cX11_start 38 = .ok (.getfield 82, 3) := by decide +kernel
theorem dX11_start_41 : decode cX11_start 41 = .ok (.bipush 12, 2) := by decide +kernel
theorem dX11_start_43 : decode cX11_start 43 = .ok (.if_icmp .ne 6, 3) := by decide +kernel
theorem dX11_start_46 : decode cX11_start 46 = .ok (.bipush (-4), 2) := by decide +kernel
theorem dX11_start_48 : decode cX11_start 48 = .ok (.ireturn, 1) := by decide +kernel
theorem dX11_start_49 : decode cX11_start 49 = .ok (.aload_n 0, 1) := by decide +kernel
theorem dX11_start_50 : decode cX11_start 50 = .ok (.iload_n 2, 1) := by decide +kernel
theorem dX11_start_51 : decode cX11_start 51 = .ok (.invokevirtual 178, 3) := by decide +kernel
theorem dX11_start_54 : decode cX11_start 54 = .ok (.istore_n 3, 1) := by decide +kernel
theorem dX11_start_55 : decode cX11_start 55 = .ok (.aload_n 0, 1) := by decide +kernel
theorem dX11_start_56 : decode cX11_start 56 = .ok (.iload_n 3, 1) := by decide +kernel
theorem dX11_start_57 : decode cX11_start 57 = .ok (.aload_n 0, 1) := by decide +kernel
theorem dX11_start_58 : decode cX11_start 58 = .ok (.getfield 51, 3) := by decide +kernel
theorem dX11_start_61 : decode cX11_start 61 = .ok (.aload_n 0, 1) := by decide +kernel
theorem dX11_start_62 : decode cX11_start 62 = .ok (.getfield 57, 3) := by decide +kernel
theorem dX11_start_65 : decode cX11_start 65 = .ok (.iload_n 1, 1) := by decide +kernel
theorem dX11_start_66 : decode cX11_start 66 = .ok (.iaload, 1) := by decide +kernel
theorem dX11_start_67 : decode cX11_start 67 = .ok (.iaload, 1) := by decide +kernel
theorem dX11_start_68 : decode cX11_start 68 = .ok (.invokevirtual 181, 3) := by decide +kernel
theorem dX11_start_71 : decode cX11_start 71 = .ok (.aload_n 0, 1) := by decide +kernel
theorem dX11_start_72 : decode cX11_start 72 = .ok (.iload_n 3, 1) := by decide +kernel
theorem dX11_start_73 : decode cX11_start 73 = .ok (.aload_n 0, 1) := by decide +kernel
theorem dX11_start_74 : decode cX11_start 74 = .ok (.getfield 54, 3) := by decide +kernel
theorem dX11_start_77 : decode cX11_start 77 = .ok (.aload_n 0, 1) := by decide +kernel
theorem dX11_start_78 : decode cX11_start 78 = .ok (.getfield 57, 3) := by decide +kernel
theorem dX11_start_81 : decode cX11_start 81 = .ok (.iload_n 1, 1) := by decide +kernel
theorem dX11_start_82 : decode cX11_start 82 = .ok (.iaload, 1) := by decide +kernel
theorem dX11_start_83 : decode cX11_start 83 = .ok (.iaload, 1) := by decide +kernel
theorem dX11_start_84 : decode cX11_start 84 = .ok (.invokevirtual 181, 3) := by decide +kernel
theorem dX11_start_87 : decode cX11_start 87 = .ok (.aload_n 0, 1) := by decide +kernel
theorem dX11_start_88 : decode cX11_start 88 = .ok (.iload_n 3, 1) := by decide +kernel
theorem dX11_start_89 : decode cX11_start 89 = .ok (.aload_n 0, 1) := by decide +kernel
theorem dX11_start_90 : decode cX11_start 90 = .ok (.getfield 51, 3) := by decide +kernel
theorem dX11_start_93 : decode cX11_start 93 = .ok (.aload_n 0, 1) := by decide +kernel
theorem dX11_start_94 : decode cX11_start 94 = .ok (.getfield 60, 3) := by decide +kernel
theorem dX11_start_97 : decode cX11_start 97 = .ok (.iload_n 1, 1) := by decide +kernel
theorem dX11_start_98 : decode cX11_start 98 = .ok (.iaload, 1) := by decide +kernel
theorem dX11_start_99 : decode cX11_start 99 = .ok (.iaload, 1) := by decide +kernel
theorem dX11_start_100 : decode cX11_start 100 = .ok (.invokevirtual 181, 3) := by decide +kernel
theorem dX11_start_103 : decode cX11_start 103 = .ok (.aload_n 0, 1) := by decide +kernel
theorem dX11_start_104 : decode cX11_start 104 = .ok (.iload_n 3, 1) := by decide +kernel
theorem dX11_start_105 : decode cX11_start 105 = .ok (.aload_n 0, 1) := by decide +kernel
theorem dX11_start_106 : decode cX11_start 106 = .ok (.getfield 54, 3) := by decide +kernel
theorem dX11_start_109 : decode cX11_start 109 = .ok (.aload_n 0, 1) := by decide +kernel
theorem dX11_start_110 : decode cX11_start 110 = .ok (.getfield 60, 3) := by decide +kernel
theorem dX11_start_113 : decode cX11_start 113 = .ok (.iload_n 1, 1) := by decide +kernel
theorem dX11_start_114 : decode cX11_start 114 = .ok (.iaload, 1) := by decide +kernel
theorem dX11_start_115 : decode cX11_start 115 = .ok (.iaload, 1) := by decide +kernel
theorem dX11_start_116 : decode cX11_start 116 = .ok (.invokevirtual 181, 3) := by decide +kernel
theorem dX11_start_119 : decode cX11_start 119 = .ok (.iload_n 3, 1) := by decide +kernel
theorem dX11_start_120 : decode cX11_start 120 = .ok (.ireturn, 1) := by decide +kernel
theorem dX11_single_0 : decode cX11_single 0 = .ok (.aload_n 0, 1) := by decide +kernel
theorem dX11_single_1 : decode cX11_single 1 = .ok (.iload_n 1, 1) := by decide +kernel
theorem dX11_single_2 : decode cX11_single 2 = .ok (.invokevirtual 88, 3) := by decide +kernel
theorem dX11_single_5 : decode cX11_single 5 = .ok (.ifCond .ne 5, 3) := by decide +kernel
theorem dX11_single_8 : decode cX11_single 8 = .ok (.iconst (-1), 1) := by decide +kernel
theorem dX11_single_9 : decode cX11_single 9 = .ok (.ireturn, 1) := by decide +kernel
theorem dX11_single_10 : decode cX11_single 10 = .ok (.iload_n 2, 1) := by decide +kernel
theorem dX11_single_11 : decode cX11_single 11 = .ok (.iconst 0, 1) := by decide +kernel
theorem dX11_single_12 : decode cX11_single 12 = .ok (.sipush 999, 3) := by decide +kernel
theorem dX11_single_15 : decode cX11_single 15 = .ok (.invokestatic 78, 3) := by decide +kernel
theorem dX11_single_18 : decode cX11_single 18 = .ok (.ifCond .ne 6, 3) := by decide +kernel
theorem dX11_single_21 : decode cX11_single 21 = .ok (.bipush (-2), 2) := by decide +kernel
theorem dX11_single_23 : decode cX11_single 23 = .ok (.ireturn, 1) := by decide +kernel
theorem dX11_single_24 : decode cX11_single 24 = .ok (.aload_n 0, 1) := by decide +kernel
theorem dX11_single_25 : decode cX11_single 25 = .ok (.iconst 0, 1) := by decide +kernel
theorem dX11_single_26 : decode cX11_single 26 = .ok (.putfield 96, 3) := by decide +kernel
theorem dX11_single_29 : decode cX11_single 29 = .ok (.aload_n 0, 1) := by decide +kernel
theorem dX11_single_30 : decode cX11_single 30 = .ok (.iload_n 1, 1) := by decide +kernel
theorem dX11_single_31 : decode cX11_single 31 = .ok (.invokevirtual 163, 3) := by decide +kernel
theorem dX11_single_34 : decode cX11_single 34 = .ok (.aload_n 0, 1) := by decide +kernel
theorem dX11_single_35 : decode cX11_single 35 = .ok (.getfield 32, 3) := by decide +kernel
theorem dX11_single_38 : decode cX11_single 38 = .ok (.iload_n 1, 1) := by decide +kernel
theorem dX11_single_39 : decode cX11_single 39 = .ok (.iaload, 1) := by decide +kernel
theorem dX11_single_40 : decode cX11_single 40 = .ok (.iconst (-1), 1) := by decide +kernel
theorem dX11_single_41 : decode cX11_single 41 = .ok (.if_icmp .ne 10, 3) := by decide +kernel
theorem dX11_single_44 : decode cX11_single 44 = .ok (.aload_n 0, 1) := by decide +kernel
theorem dX11_single_45 : decode cX11_single 45 = .ok (.invokevirtual 131, 3) := by decide +kernel
theorem dX11_single_48 : decode cX11_single 48 = .ok (.ifCond .ne 6, 3) := by decide +kernel
theorem dX11_single_51 : decode cX11_single 51 = .ok (.bipush (-3), 2) := by decide +kernel
theorem dX11_single_53 : decode cX11_single 53 = .ok (.ireturn, 1) := by decide +kernel
theorem dX11_single_54 : decode cX11_single 54 = .ok (.aload_n 0, 1) := by decide +kernel
theorem dX11_single_55 : decode cX11_single 55 = .ok (.getfield 82, 3) := by decide +kernel
theorem dX11_single_58 : decode cX11_single 58 = .ok (.bipush 12, 2) := by decide +kernel
theorem dX11_single_60 : decode cX11_single 60 = .ok (.if_icmp .ne 6, 3) := by decide +kernel
theorem dX11_single_63 : decode cX11_single 63 = .ok (.bipush (-4), 2) := by decide +kernel
theorem dX11_single_65 : decode cX11_single 65 = .ok (.ireturn, 1) := by decide +kernel
theorem dX11_single_66 : decode cX11_single 66 = .ok (.aload_n 0, 1) := by decide +kernel
theorem dX11_single_67 : decode cX11_single 67 = .ok (.iload_n 2, 1) := by decide +kernel
theorem dX11_single_68 : decode cX11_single 68 = .ok (.invokevirtual 178, 3) := by decide +kernel
theorem dX11_single_71 : decode cX11_single 71 = .ok (.istore_n 3, 1) := by decide +kernel
theorem dX11_single_72 : decode cX11_single 72 = .ok (.aload_n 0, 1) := by decide +kernel
theorem dX11_single_73 : decode cX11_single 73 = .ok (.iload_n 3, 1) := by decide +kernel
theorem dX11_single_74 : decode cX11_single 74 = .ok (.iload_n 1, 1) := by decide +kernel
theorem dX11_single_75 : decode cX11_single 75 = .ok (.invokevirtual 181, 3) := by decide +kernel
theorem dX11_single_78 : decode cX11_single 78 = .ok (.iload_n 3, 1) := by decide +kernel
theorem dX11_single_79 : decode cX11_single 79 = .ok (.ireturn, 1) := by decide +kernel
theorem dX11_join_0 : decode cX11_join 0 = .ok (.aload_n 0, 1) := by decide +kernel
theorem dX11_join_1 : decode cX11_join 1 = .ok (.iload_n 1, 1) := by decide +kernel
theorem dX11_join_2 : decode cX11_join 2 = .ok (.invokevirtual 185, 3) := by decide +kernel
theorem dX11_join_5 : decode cX11_join 5 = .ok (.ifCond .eq 11, 3) := by decide +kernel
theorem dX11_join_8 : decode cX11_join 8 = .ok (.aload_n 0, 1) := by decide +kernel
theorem dX11_join_9 : decode cX11_join 9 = .ok (.iload_n 2, 1) := by decide +kernel
theorem dX11_join_10 : decode cX11_join 10 = .ok (.invokevirtual 88, 3) := by decide +kernel
theorem dX11_join_13 : decode cX11_join 13 = .ok (.ifCond .ne 5, 3) := by decide +kernel
theorem dX11_join_16 : decode cX11_join 16 = .ok (.iconst (-1), 1) := by decide +kernel
theorem dX11_join_17 : decode cX11_join 17 = .ok (.ireturn, 1) := by decide +kernel
theorem dX11_join_18 : decode cX11_join 18 = .ok (.aload_n 0, 1) := by decide +kernel
theorem dX11_join_19 : decode cX11_join 19 = .ok (.getfield 32, 3) := by decide +kernel
theorem dX11_join_22 : decode cX11_join 22 = .ok (.iload_n 2, 1) := by decide +kernel
theorem dX11_join_23 : decode cX11_join 23 = .ok (.iaload, 1) := by decide +kernel
theorem dX11_join_24 : decode cX11_join 24 = .ok (.iconst (-1), 1) := by decide +kernel
theorem dX11_join_25 : decode cX11_join 25 = .ok (.if_icmp .eq 6, 3) := by decide +kernel
theorem dX11_join_28 : decode cX11_join 28 = .ok (.bipush (-3), 2) := by decide +kernel
theorem dX11_join_30 : decode cX11_join 30 = .ok (.ireturn, 1) := by decide +kernel
theorem dX11_join_31 : decode cX11_join 31 = .ok (.aload_n 0, 1) := by decide +kernel
theorem dX11_join_32 : decode cX11_join 32 = .ok (.iload_n 1, 1) := by decide +kernel
theorem dX11_join_33 : decode cX11_join 33 = .ok (.invokevirtual 127, 3) := by decide +kernel
theorem dX11_join_36 : decode cX11_join 36 = .ok (.aload_n 0, 1) := by decide +kernel
theorem dX11_join_37 : decode cX11_join 37 = .ok (.iload_n 2, 1) := by decide +kernel
theorem dX11_join_38 : decode cX11_join 38 = .ok (.invokevirtual 163, 3) := by decide +kernel
theorem dX11_join_41 : decode cX11_join 41 = .ok (.aload_n 0, 1) := by decide +kernel
theorem dX11_join_42 : decode cX11_join 42 = .ok (.invokevirtual 131, 3) := by decide +kernel
theorem dX11_join_45 : decode cX11_join 45 = .ok (.ifCond .ne 6, 3) := by decide +kernel
theorem dX11_join_48 : decode cX11_join 48 = .ok (.bipush (-3), 2) := by decide +kernel
theorem dX11_join_50 : decode cX11_join 50 = .ok (.ireturn, 1) := by decide +kernel
theorem dX11_join_51 : decode cX11_join 51 = .ok (.aload_n 0, 1) := by decide +kernel
theorem dX11_join_52 : decode cX11_join 52 = .ok (.getfield 38, 3) := by decide +kernel
theorem dX11_join_55 : decode cX11_join 55 = .ok (.iload_n 1, 1) := by decide +kernel
theorem dX11_join_56 : decode cX11_join 56 = .ok (.iaload, 1) := by decide +kernel
theorem dX11_join_57 : decode cX11_join 57 = .ok (.bipush 8, 2) := by decide +kernel
theorem dX11_join_59 : decode cX11_join 59 = .ok (.if_icmp .ne 6, 3) := by decide +kernel
theorem dX11_join_62 : decode cX11_join 62 = .ok (.bipush (-4), 2) := by decide +kernel
theorem dX11_join_64 : decode cX11_join 64 = .ok (.ireturn, 1) := by decide +kernel
theorem dX11_join_65 : decode cX11_join 65 = .ok (.aload_n 0, 1) := by decide +kernel
theorem dX11_join_66 : decode cX11_join 66 = .ok (.invokevirtual 175, 3) := by decide +kernel
theorem dX11_join_69 : decode cX11_join 69 = .ok (.aload_n 0, 1) := by decide +kernel
theorem dX11_join_70 : decode cX11_join 70 = .ok (.iload_n 1, 1) := by decide +kernel
theorem dX11_join_71 : decode cX11_join 71 = .ok (.iload_n 2, 1) := by decide +kernel
theorem dX11_join_72 : decode cX11_join 72 = .ok (.invokevirtual 181, 3) := by decide +kernel
theorem dX11_join_75 : decode cX11_join 75 = .ok (.aload_n 0, 1) := by decide +kernel
theorem dX11_join_76 : decode cX11_join 76 = .ok (.getfield 38, 3) := by decide +kernel
theorem dX11_join_79 : decode cX11_join 79 = .ok (.iload_n 1, 1) := by decide +kernel
theorem dX11_join_80 : decode cX11_join 80 = .ok (.iaload, 1) := by decide +kernel
theorem dX11_join_81 : decode cX11_join 81 = .ok (.ireturn, 1) := by decide +kernel
theorem dX11_joinBit_0 : decode cX11_joinBit 0 = .ok (.aload_n 0, 1) := by decide +kernel
theorem dX11_joinBit_1 : decode cX11_joinBit 1 = .ok (.invokevirtual 157, 3) := by decide +kernel
theorem dX11_joinBit_4 : decode cX11_joinBit 4 = .ok (.aload_n 0, 1) := by decide +kernel
theorem dX11_joinBit_5 : decode cX11_joinBit 5 = .ok (.iload_n 1, 1) := by decide +kernel
theorem dX11_joinBit_6 : decode cX11_joinBit 6 = .ok (.invokevirtual 185, 3) := by decide +kernel
theorem dX11_joinBit_9 : decode cX11_joinBit 9 = .ok (.ifCond .eq 17, 3) := by decide +kernel
theorem dX11_joinBit_12 : decode cX11_joinBit 12 = .ok (.iload_n 2, 1) := by decide +kernel
theorem dX11_joinBit_13 : decode cX11_joinBit 13 = .ok (.iconst 0, 1) := by decide +kernel
theorem dX11_joinBit_14 : decode cX11_joinBit 14 = .ok (.aload_n 0, 1) := by decide +kernel
theorem dX11_joinBit_15 : decode cX11_joinBit 15 = .ok (.getfield 150, 3) := by decide +kernel
theorem dX11_joinBit_18 : decode cX11_joinBit 18 = .ok (.iconst 1, 1) := by decide +kernel
theorem dX11_joinBit_19 : decode cX11_joinBit 19 = .ok (.isub, 1) := by decide +kernel
theorem dX11_joinBit_20 : decode cX11_joinBit 20 = .ok (.invokestatic 78, 3) := by decide +kernel
theorem dX11_joinBit_23 : decode cX11_joinBit 23 = .ok (.ifCond .ne 5, 3) := by decide +kernel
theorem dX11_joinBit_26 : decode cX11_joinBit 26 = .ok (.iconst (-1), 1) := by decide +kernel
theorem dX11_joinBit_27 : decode cX11_joinBit 27 = .ok (.ireturn, 1) := by decide +kernel
theorem dX11_joinBit_28 : decode cX11_joinBit 28 = .ok (.aload_n 0, 1) := by decide +kernel
theorem dX11_joinBit_29 : decode cX11_joinBit 29 = .ok (.iload_n 1, 1) := by decide +kernel
theorem dX11_joinBit_30 : decode cX11_joinBit 30 = .ok (.invokevirtual 127, 3) := by decide +kernel
theorem dX11_joinBit_33 : decode cX11_joinBit 33 = .ok (.aload_n 0, 1) := by decide +kernel
theorem dX11_joinBit_34 : decode cX11_joinBit 34 = .ok (.aload_n 0, 1) := by decide +kernel
theorem dX11_joinBit_35 : decode cX11_joinBit 35 = .ok (.getfield 51, 3) := by decide +kernel
theorem dX11_joinBit_38 : decode cX11_joinBit 38 = .ok (.iload_n 2, 1) := by decide +kernel
theorem dX11_joinBit_39 : decode cX11_joinBit 39 = .ok (.iaload, 1) := by decide +kernel
theorem dX11_joinBit_40 : decode cX11_joinBit 40 = .ok (.invokevirtual 163, 3) := by decide +kernel
theorem dX11_joinBit_43 : decode cX11_joinBit 43 = .ok (.aload_n 0, 1) := by decide +kernel
theorem dX11_joinBit_44 : decode cX11_joinBit 44 = .ok (.aload_n 0, 1) := by decide +kernel
theorem dX11_joinBit_45 : decode cX11_joinBit 45 = .ok (.getfield 54, 3) := by decide +kernel
theorem dX11_joinBit_48 : decode cX11_joinBit 48 = .ok (.iload_n 2, 1) := by decide +kernel
theorem dX11_joinBit_49 : decode cX11_joinBit 49 = .ok (.iaload, 1) := by decide +kernel
theorem dX11_joinBit_50 : decode cX11_joinBit 50 = .ok (.invokevirtual 163, 3) := by decide +kernel
theorem dX11_joinBit_53 : decode cX11_joinBit 53 = .ok (.aload_n 0, 1) := by decide +kernel
theorem dX11_joinBit_54 : decode cX11_joinBit 54 = .ok (.invokevirtual 131, 3) := by decide +kernel
theorem dX11_joinBit_57 : decode cX11_joinBit 57 = .ok (.ifCond .ne 6, 3) := by decide +kernel
theorem dX11_joinBit_60 : decode cX11_joinBit 60 = .ok (.bipush (-3), 2) := by decide +kernel
theorem dX11_joinBit_62 : decode cX11_joinBit 62 = .ok (.ireturn, 1) := by decide +kernel
theorem dX11_joinBit_63 : decode cX11_joinBit 63 = .ok (.aload_n 0, 1) := by decide +kernel
theorem dX11_joinBit_64 : decode cX11_joinBit 64 = .ok (.getfield 38, 3) := by decide +kernel
theorem dX11_joinBit_67 : decode cX11_joinBit 67 = .ok (.iload_n 1, 1) := by decide +kernel
theorem dX11_joinBit_68 : decode cX11_joinBit 68 = .ok (.iaload, 1) := by decide +kernel
theorem dX11_joinBit_69 : decode cX11_joinBit 69 = .ok (.iconst 2, 1) := by decide +kernel
theorem dX11_joinBit_70 : decode cX11_joinBit 70 = .ok (.iadd, 1) := by decide +kernel
theorem dX11_joinBit_71 : decode cX11_joinBit 71 = .ok (.bipush 8, 2) := by decide +kernel
theorem dX11_joinBit_73 : decode cX11_joinBit 73 = .ok (.if_icmp .le 6, 3) := by decide +kernel
theorem dX11_joinBit_76 : decode cX11_joinBit 76 = .ok (.bipush (-4), 2) := by decide +kernel
theorem dX11_joinBit_78 : decode cX11_joinBit 78 = .ok (.ireturn, 1) := by decide +kernel
theorem dX11_joinBit_79 : decode cX11_joinBit 79 = .ok (.aload_n 0, 1) := by decide +kernel
theorem dX11_joinBit_80 : decode cX11_joinBit 80 = .ok (.invokevirtual 175, 3) := by decide +kernel
theorem dX11_joinBit_83 : decode cX11_joinBit 83 = .ok (.aload_n 0, 1) := by decide +kernel
theorem dX11_joinBit_84 : decode cX11_joinBit 84 = .ok (.getfield 54, 3) := by decide +kernel
theorem dX11_joinBit_87 : decode cX11_joinBit 87 = .ok (.iload_n 2, 1) := by decide +kernel
theorem dX11_joinBit_88 : decode cX11_joinBit 88 = .ok (.iaload, 1) := by decide +kernel
theorem dX11_joinBit_89 : decode cX11_joinBit 89 = .ok (.istore_n 3, 1) := by decide +kernel
theorem dX11_joinBit_90 : decode cX11_joinBit 90 = .ok (.aload_n 0, 1) := by decide +kernel
theorem dX11_joinBit_91 : decode cX11_joinBit 91 = .ok (.iload_n 1, 1) := by decide +kernel
theorem dX11_joinBit_92 : decode cX11_joinBit 92 = .ok (.aload_n 0, 1) := by decide +kernel
theorem dX11_joinBit_93 : decode cX11_joinBit 93 = .ok (.getfield 51, 3) := by decide +kernel
theorem dX11_joinBit_96 : decode cX11_joinBit 96 = .ok (.iload_n 2, 1) := by decide +kernel
theorem dX11_joinBit_97 : decode cX11_joinBit 97 = .ok (.iaload, 1) := by decide +kernel
theorem dX11_joinBit_98 : decode cX11_joinBit 98 = .ok (.invokevirtual 181, 3) := by decide +kernel
theorem dX11_joinBit_101 : decode cX11_joinBit 101 = .ok (.aload_n 0, 1) := by decide +kernel
theorem dX11_joinBit_102 : decode cX11_joinBit 102 = .ok (.iload_n 1, 1) := by decide +kernel
theorem dX11_joinBit_103 : decode cX11_joinBit 103 = .ok (.iload_n 3, 1) := by decide +kernel
theorem dX11_joinBit_104 : decode cX11_joinBit 104 = .ok (.invokevirtual 181, 3) := by decide +kernel
theorem dX11_joinBit_107 : decode cX11_joinBit 107 = .ok (.aload_n 0, 1) := by decide +kernel
theorem dX11_joinBit_108 : decode cX11_joinBit 108 = .ok (.getfield 38, 3) := by decide +kernel
theorem dX11_joinBit_111 : decode cX11_joinBit 111 = .ok (.iload_n 1, 1) := by decide +kernel
theorem dX11_joinBit_112 : decode cX11_joinBit 112 = .ok (.iaload, 1) := by decide +kernel
theorem dX11_joinBit_113 : decode cX11_joinBit 113 = .ok (.ireturn, 1) := by decide +kernel
theorem dX11_force_0 : decode cX11_force 0 = .ok (.aload_n 0, 1) := by decide +kernel
theorem dX11_force_1 : decode cX11_force 1 = .ok (.iload_n 1, 1) := by decide +kernel
theorem dX11_force_2 : decode cX11_force 2 = .ok (.invokevirtual 185, 3) := by decide +kernel
theorem dX11_force_5 : decode cX11_force 5 = .ok (.ifCond .eq 11, 3) := by decide +kernel
theorem dX11_force_8 : decode cX11_force 8 = .ok (.aload_n 0, 1) := by decide +kernel
theorem dX11_force_9 : decode cX11_force 9 = .ok (.iload_n 2, 1) := by decide +kernel
theorem dX11_force_10 : decode cX11_force 10 = .ok (.invokevirtual 88, 3) := by decide +kernel
theorem dX11_force_13 : decode cX11_force 13 = .ok (.ifCond .ne 5, 3) := by decide +kernel
theorem dX11_force_16 : decode cX11_force 16 = .ok (.iconst (-1), 1) := by decide +kernel
theorem dX11_force_17 : decode cX11_force 17 = .ok (.ireturn, 1) := by decide +kernel
theorem dX11_force_18 : decode cX11_force 18 = .ok (.aload_n 0, 1) := by decide +kernel
theorem dX11_force_19 : decode cX11_force 19 = .ok (.getfield 32, 3) := by decide +kernel
theorem dX11_force_22 : decode cX11_force 22 = .ok (.iload_n 2, 1) := by decide +kernel
theorem dX11_force_23 : decode cX11_force 23 = .ok (.iaload, 1) := by decide +kernel
theorem dX11_force_24 : decode cX11_force 24 = .ok (.iconst (-1), 1) := by decide +kernel
theorem dX11_force_25 : decode cX11_force 25 = .ok (.if_icmp .eq 6, 3) := by decide +kernel
theorem dX11_force_28 : decode cX11_force 28 = .ok (.bipush (-3), 2) := by decide +kernel
theorem dX11_force_30 : decode cX11_force 30 = .ok (.ireturn, 1) := by decide +kernel
theorem dX11_force_31 : decode cX11_force 31 = .ok (.aload_n 0, 1) := by decide +kernel
theorem dX11_force_32 : decode cX11_force 32 = .ok (.getfield 38, 3) := by decide +kernel
theorem dX11_force_35 : decode cX11_force 35 = .ok (.iload_n 1, 1) := by decide +kernel
theorem dX11_force_36 : decode cX11_force 36 = .ok (.iaload, 1) := by decide +kernel
theorem dX11_force_37 : decode cX11_force 37 = .ok (.bipush 8, 2) := by decide +kernel
theorem dX11_force_39 : decode cX11_force 39 = .ok (.if_icmp .ne 6, 3) := by decide +kernel
theorem dX11_force_42 : decode cX11_force 42 = .ok (.bipush (-4), 2) := by decide +kernel
theorem dX11_force_44 : decode cX11_force 44 = .ok (.ireturn, 1) := by decide +kernel
theorem dX11_force_45 : decode cX11_force 45 = .ok (.aload_n 0, 1) := by decide +kernel
theorem dX11_force_46 : decode cX11_force 46 = .ok (.invokevirtual 175, 3) := by decide +kernel
theorem dX11_force_49 : decode cX11_force 49 = .ok (.aload_n 0, 1) := by decide +kernel
theorem dX11_force_50 : decode cX11_force 50 = .ok (.iload_n 1, 1) := by decide +kernel
theorem dX11_force_51 : decode cX11_force 51 = .ok (.iload_n 2, 1) := by decide +kernel
theorem dX11_force_52 : decode cX11_force 52 = .ok (.invokevirtual 181, 3) := by decide +kernel
theorem dX11_force_55 : decode cX11_force 55 = .ok (.aload_n 0, 1) := by decide +kernel
theorem dX11_force_56 : decode cX11_force 56 = .ok (.getfield 38, 3) := by decide +kernel
theorem dX11_force_59 : decode cX11_force 59 = .ok (.iload_n 1, 1) := by decide +kernel
theorem dX11_force_60 : decode cX11_force 60 = .ok (.iaload, 1) := by decide +kernel
theorem dX11_force_61 : decode cX11_force 61 = .ok (.ireturn, 1) := by decide +kernel
theorem dX11_path_0 : decode cX11_path 0 = .ok (.iload_n 1, 1) := by decide +kernel
theorem dX11_path_1 : decode cX11_path 1 = .ok (.iconst 0, 1) := by decide +kernel
theorem dX11_path_2 : decode cX11_path 2 = .ok (.aload_n 0, 1) := by decide +kernel
theorem dX11_path_3 : decode cX11_path 3 = .ok (.getfield 82, 3) := by decide +kernel
theorem dX11_path_6 : decode cX11_path 6 = .ok (.iconst 1, 1) := by decide +kernel
theorem dX11_path_7 : decode cX11_path 7 = .ok (.isub, 1) := by decide +kernel
theorem dX11_path_8 : decode cX11_path 8 = .ok (.invokestatic 78, 3) := by decide +kernel
theorem dX11_path_11 : decode cX11_path 11 = .ok (.ifCond .ne 5, 3) := by decide +kernel
theorem dX11_path_14 : decode cX11_path 14 = .ok (.iconst (-1), 1) := by decide +kernel
theorem dX11_path_15 : decode cX11_path 15 = .ok (.ireturn, 1) := by decide +kernel
theorem dX11_path_16 : decode cX11_path 16 = .ok (.iload_n 2, 1) := by decide +kernel
theorem dX11_path_17 : decode cX11_path 17 = .ok (.tableswitch 83 0 3 #[31, 38, 45, 68], 31) := by decide +kernel
theorem dX11_path_48 : decode cX11_path 48 = .ok (.aload_n 0, 1) := by decide +kernel
theorem dX11_path_49 : decode cX11_path 49 = .ok (.getfield 35, 3) := by decide +kernel
theorem dX11_path_52 : decode cX11_path 52 = .ok (.iload_n 1, 1) := by decide +kernel
theorem dX11_path_53 : decode cX11_path 53 = .ok (.iaload, 1) := by decide +kernel
theorem dX11_path_54 : decode cX11_path 54 = .ok (.ireturn, 1) := by decide +kernel
theorem dX11_path_55 : decode cX11_path 55 = .ok (.aload_n 0, 1) := by decide +kernel
theorem dX11_path_56 : decode cX11_path 56 = .ok (.getfield 38, 3) := by decide +kernel
theorem dX11_path_59 : decode cX11_path 59 = .ok (.iload_n 1, 1) := by decide +kernel
theorem dX11_path_60 : decode cX11_path 60 = .ok (.iaload, 1) := by decide +kernel
theorem dX11_path_61 : decode cX11_path 61 = .ok (.ireturn, 1) := by decide +kernel
theorem dX11_path_62 : decode cX11_path 62 = .ok (.aload_n 0, 1) := by decide +kernel
theorem dX11_path_63 : decode cX11_path 63 = .ok (.getfield 44, 3) := by decide +kernel
theorem dX11_path_66 : decode cX11_path 66 = .ok (.iload_n 1, 1) := by decide +kernel
theorem dX11_path_67 : decode cX11_path 67 = .ok (.baload, 1) := by decide +kernel
theorem dX11_path_68 : decode cX11_path 68 = .ok (.ifCond .ne 15, 3) := by decide +kernel
theorem dX11_path_71 : decode cX11_path 71 = .ok (.aload_n 0, 1) := by decide +kernel
theorem dX11_path_72 : decode cX11_path 72 = .ok (.iload_n 1, 1) := by decide +kernel
theorem dX11_path_73 : decode cX11_path 73 = .ok (.invokevirtual 188, 3) := by decide +kernel
theorem dX11_path_76 : decode cX11_path 76 = .ok (.ifCond .eq 7, 3) := by decide +kernel
theorem dX11_path_79 : decode cX11_path 79 = .ok (.iconst 1, 1) := by decide +kernel
theorem dX11_path_80 : decode cX11_path 80 = .ok (.goto 4, 3) := by decide +kernel
theorem dX11_path_83 : decode cX11_path 83 = .ok (.iconst 0, 1) := by decide +kernel
theorem dX11_path_84 : decode cX11_path 84 = .ok (.ireturn, 1) := by decide +kernel
theorem dX11_path_85 : decode cX11_path 85 = .ok (.aload_n 0, 1) := by decide +kernel
theorem dX11_path_86 : decode cX11_path 86 = .ok (.getfield 44, 3) := by decide +kernel
theorem dX11_path_89 : decode cX11_path 89 = .ok (.iload_n 1, 1) := by decide +kernel
theorem dX11_path_90 : decode cX11_path 90 = .ok (.baload, 1) := by decide +kernel
theorem dX11_path_91 : decode cX11_path 91 = .ok (.ifCond .eq 7, 3) := by decide +kernel
theorem dX11_path_94 : decode cX11_path 94 = .ok (.iconst 1, 1) := by decide +kernel
theorem dX11_path_95 : decode cX11_path 95 = .ok (.goto 4, 3) := by decide +kernel
theorem dX11_path_98 : decode cX11_path 98 = .ok (.iconst 0, 1) := by decide +kernel
theorem dX11_path_99 : decode cX11_path 99 = .ok (.ireturn, 1) := by decide +kernel
theorem dX11_path_100 : decode cX11_path 100 = .ok (.iload_n 2, 1) := by decide +kernel
theorem dX11_path_101 : decode cX11_path 101 = .ok (.bipush 9, 2) := by decide +kernel
theorem dX11_path_103 : decode cX11_path 103 = .ok (.if_icmp .le 33, 3) := by decide +kernel
theorem dX11_path_106 : decode cX11_path 106 = .ok (.iload_n 2, 1) := by decide +kernel
theorem dX11_path_107 : decode cX11_path 107 = .ok (.bipush 10, 2) := by decide +kernel
theorem dX11_path_109 : decode cX11_path 109 = .ok (.isub, 1) := by decide +kernel
theorem dX11_path_110 : decode cX11_path 110 = .ok (.aload_n 0, 1) := by decide +kernel
theorem dX11_path_111 : decode cX11_path 111 = .ok (.getfield 38, 3) := by decide +kernel
theorem dX11_path_114 : decode cX11_path 114 = .ok (.iload_n 1, 1) := by decide +kernel
theorem dX11_path_115 : decode cX11_path 115 = .ok (.iaload, 1) := by decide +kernel
theorem dX11_path_116 : decode cX11_path 116 = .ok (.if_icmp .ge 20, 3) := by decide +kernel
theorem dX11_path_119 : decode cX11_path 119 = .ok (.aload_n 0, 1) := by decide +kernel
theorem dX11_path_120 : decode cX11_path 120 = .ok (.getfield 41, 3) := by decide +kernel
theorem dX11_path_123 : decode cX11_path 123 = .ok (.bipush 8, 2) := by decide +kernel
theorem dX11_path_125 : decode cX11_path 125 = .ok (.iload_n 1, 1) := by decide +kernel
theorem dX11_path_126 : decode cX11_path 126 = .ok (.imul, 1) := by decide +kernel
theorem dX11_path_127 : decode cX11_path 127 = .ok (.iload_n 2, 1) := by decide +kernel
theorem dX11_path_128 : decode cX11_path 128 = .ok (.iadd, 1) := by decide +kernel
theorem dX11_path_129 : decode cX11_path 129 = .ok (.bipush 10, 2) := by decide +kernel
theorem dX11_path_131 : decode cX11_path 131 = .ok (.isub, 1) := by decide +kernel
theorem dX11_path_132 : decode cX11_path 132 = .ok (.iaload, 1) := by decide +kernel
theorem dX11_path_133 : decode cX11_path 133 = .ok (.goto 4, 3) := by decide +kernel
theorem dX11_path_136 : decode cX11_path 136 = .ok (.iconst (-1), 1) := by decide +kernel
theorem dX11_path_137 : decode cX11_path 137 = .ok (.ireturn, 1) := by decide +kernel
theorem dX11_heap_0 : decode cX11_heap 0 = .ok (.aload_n 0, 1) := by decide +kernel
theorem dX11_heap_1 : decode cX11_heap 1 = .ok (.iload_n 1, 1) := by decide +kernel
theorem dX11_heap_2 : decode cX11_heap 2 = .ok (.invokevirtual 185, 3) := by decide +kernel
theorem dX11_heap_5 : decode cX11_heap 5 = .ok (.ifCond .ne 7, 3) := by decide +kernel
theorem dX11_heap_8 : decode cX11_heap 8 = .ok (.ldc2_w 191, 3) := by decide +kernel
theorem dX11_heap_11 : decode cX11_heap 11 = .ok (.lreturn, 1) := by decide +kernel
theorem dX11_heap_12 : decode cX11_heap 12 = .ok (.aload_n 0, 1) := by decide +kernel
theorem dX11_heap_13 : decode cX11_heap 13 = .ok (.iload_n 1, 1) := by decide +kernel
theorem dX11_heap_14 : decode cX11_heap 14 = .ok (.invokevirtual 127, 3) := by decide +kernel
theorem dX11_heap_17 : decode cX11_heap 17 = .ok (.aload_n 0, 1) := by decide +kernel
theorem dX11_heap_18 : decode cX11_heap 18 = .ok (.iconst 0, 1) := by decide +kernel
theorem dX11_heap_19 : decode cX11_heap 19 = .ok (.invokevirtual 123, 3) := by decide +kernel
theorem dX11_heap_22 : decode cX11_heap 22 = .ok (.aload_n 0, 1) := by decide +kernel
theorem dX11_heap_23 : decode cX11_heap 23 = .ok (.iconst 1, 1) := by decide +kernel
theorem dX11_heap_24 : decode cX11_heap 24 = .ok (.invokevirtual 123, 3) := by decide +kernel
theorem dX11_heap_27 : decode cX11_heap 27 = .ok (.lmul, 1) := by decide +kernel
theorem dX11_heap_28 : decode cX11_heap 28 = .ok (.lreturn, 1) := by decide +kernel
theorem dX11_ahead_0 : decode cX11_ahead 0 = .ok (.aload_n 0, 1) := by decide +kernel
theorem dX11_ahead_1 : decode cX11_ahead 1 = .ok (.iload_n 1, 1) := by decide +kernel
theorem dX11_ahead_2 : decode cX11_ahead 2 = .ok (.invokevirtual 185, 3) := by decide +kernel
theorem dX11_ahead_5 : decode cX11_ahead 5 = .ok (.ifCond .eq 31, 3) := by decide +kernel
theorem dX11_ahead_8 : decode cX11_ahead 8 = .ok (.iload_n 2, 1) := by decide +kernel
theorem dX11_ahead_9 : decode cX11_ahead 9 = .ok (.iconst 0, 1) := by decide +kernel
theorem dX11_ahead_10 : decode cX11_ahead 10 = .ok (.sipush 400, 3) := by decide +kernel
theorem dX11_ahead_13 : decode cX11_ahead 13 = .ok (.invokestatic 78, 3) := by decide +kernel
theorem dX11_ahead_16 : decode cX11_ahead 16 = .ok (.ifCond .eq 20, 3) := by decide +kernel
theorem dX11_ahead_19 : decode cX11_ahead 19 = .ok (.iload_n 3, 1) := by decide +kernel
theorem dX11_ahead_20 : decode cX11_ahead 20 = .ok (.iconst 0, 1) := by decide +kernel
theorem dX11_ahead_21 : decode cX11_ahead 21 = .ok (.iconst 3, 1) := by decide +kernel
theorem dX11_ahead_22 : decode cX11_ahead 22 = .ok (.invokestatic 78, 3) := by decide +kernel
theorem dX11_ahead_25 : decode cX11_ahead 25 = .ok (.ifCond .eq 11, 3) := by decide +kernel
theorem dX11_ahead_28 : decode cX11_ahead 28 = .ok (.aload_n 0, 1) := by decide +kernel
theorem dX11_ahead_29 : decode cX11_ahead 29 = .ok (.iload_n 1, 1) := by decide +kernel
theorem dX11_ahead_30 : decode cX11_ahead 30 = .ok (.invokevirtual 188, 3) := by decide +kernel
theorem dX11_ahead_33 : decode cX11_ahead 33 = .ok (.ifCond .ne 7, 3) := by decide +kernel
theorem dX11_ahead_36 : decode cX11_ahead 36 = .ok (.ldc2_w 193, 3) := by decide +kernel
theorem dX11_ahead_39 : decode cX11_ahead 39 = .ok (.lreturn, 1) := by decide +kernel
theorem dX11_ahead_40 : decode cX11_ahead 40 = .ok (.aload_n 0, 1) := by decide +kernel
theorem dX11_ahead_41 : decode cX11_ahead 41 = .ok (.iload_n 3, 1) := by decide +kernel
theorem dX11_ahead_42 : decode cX11_ahead 42 = .ok (.iconst 2, 1) := by decide +kernel
theorem dX11_ahead_43 : decode cX11_ahead 43 = .ok (.idiv, 1) := by decide +kernel
theorem dX11_ahead_44 : decode cX11_ahead 44 = .ok (.iload_n 2, 1) := by decide +kernel
theorem dX11_ahead_45 : decode cX11_ahead 45 = .ok (.invokevirtual 195, 3) := by decide +kernel
theorem dX11_ahead_48 : decode cX11_ahead 48 = .ok (.iload_n 3, 1) := by decide +kernel
theorem dX11_ahead_49 : decode cX11_ahead 49 = .ok (.iconst 2, 1) := by decide +kernel
theorem dX11_ahead_50 : decode cX11_ahead 50 = .ok (.irem, 1) := by decide +kernel
theorem dX11_ahead_51 : decode cX11_ahead 51 = .ok (.ifCond .ne 10, 3) := by decide +kernel
theorem dX11_ahead_54 : decode cX11_ahead 54 = .ok (.aload_n 0, 1) := by decide +kernel
theorem dX11_ahead_55 : decode cX11_ahead 55 = .ok (.getfield 135, 3) := by decide +kernel
theorem dX11_ahead_58 : decode cX11_ahead 58 = .ok (.goto 7, 3) := by decide +kernel
theorem dX11_ahead_61 : decode cX11_ahead 61 = .ok (.aload_n 0, 1) := by decide +kernel
theorem dX11_ahead_62 : decode cX11_ahead 62 = .ok (.getfield 142, 3) := by decide +kernel
theorem dX11_ahead_65 : decode cX11_ahead 65 = .ok (.lreturn, 1) := by decide +kernel
theorem dX11_isWithin_0 : decode cX11_isWithin 0 = .ok (.aload_n 0, 1) := by decide +kernel
theorem dX11_isWithin_1 : decode cX11_isWithin 1 = .ok (.iload_n 2, 1) := by decide +kernel
theorem dX11_isWithin_2 : decode cX11_isWithin 2 = .ok (.aload_n 0, 1) := by decide +kernel
theorem dX11_isWithin_3 : decode cX11_isWithin 3 = .ok (.getfield 19, 3) := by decide +kernel
theorem dX11_isWithin_6 : decode cX11_isWithin 6 = .ok (.iload_n 1, 1) := by decide +kernel
theorem dX11_isWithin_7 : decode cX11_isWithin 7 = .ok (.iaload, 1) := by decide +kernel
theorem dX11_isWithin_8 : decode cX11_isWithin 8 = .ok (.invokevirtual 195, 3) := by decide +kernel
theorem dX11_isWithin_11 : decode cX11_isWithin 11 = .ok (.aload_n 0, 1) := by decide +kernel
theorem dX11_isWithin_12 : decode cX11_isWithin 12 = .ok (.iload_n 1, 1) := by decide +kernel
theorem dX11_isWithin_13 : decode cX11_isWithin 13 = .ok (.iload_n 2, 1) := by decide +kernel
theorem dX11_isWithin_14 : decode cX11_isWithin 14 = .ok (.invokevirtual 99, 3) := by decide +kernel
theorem dX11_isWithin_17 : decode cX11_isWithin 17 = .ok (.istore_n 3, 1) := by decide +kernel
theorem dX11_isWithin_18 : decode cX11_isWithin 18 = .ok (.iload_n 3, 1) := by decide +kernel
theorem dX11_isWithin_19 : decode cX11_isWithin 19 = .ok (.i2l, 1) := by decide +kernel
theorem dX11_isWithin_20 : decode cX11_isWithin 20 = .ok (.aload_n 0, 1) := by decide +kernel
theorem dX11_isWithin_21 : decode cX11_isWithin 21 = .ok (.getfield 135, 3) := by decide +kernel
theorem dX11_isWithin_24 : decode cX11_isWithin 24 = .ok (.aload_n 0, 1) := by decide +kernel
theorem dX11_isWithin_25 : decode cX11_isWithin 25 = .ok (.getfield 16, 3) := by decide +kernel
theorem dX11_isWithin_28 : decode cX11_isWithin 28 = .ok (.i2l, 1) := by decide +kernel
theorem dX11_isWithin_29 : decode cX11_isWithin 29 = .ok (.lsub, 1) := by decide +kernel
theorem dX11_isWithin_30 : decode cX11_isWithin 30 = .ok (.lcmp, 1) := by decide +kernel
theorem dX11_isWithin_31 : decode cX11_isWithin 31 = .ok (.ifCond .lt 23, 3) := by decide +kernel
theorem dX11_isWithin_34 : decode cX11_isWithin 34 = .ok (.iload_n 3, 1) := by decide +kernel
theorem dX11_isWithin_35 : decode cX11_isWithin 35 = .ok (.i2l, 1) := by decide +kernel
theorem dX11_isWithin_36 : decode cX11_isWithin 36 = .ok (.aload_n 0, 1) := by decide +kernel
theorem dX11_isWithin_37 : decode cX11_isWithin 37 = .ok (.getfield 142, 3) := by decide +kernel
theorem dX11_isWithin_40 : decode cX11_isWithin 40 = .ok (.aload_n 0, 1) := by decide +kernel
theorem dX11_isWithin_41 : decode cX11_isWithin 41 = .ok (.getfield 16, 3) := by decide +kernel
theorem dX11_isWithin_44 : decode cX11_isWithin 44 = .ok (.i2l, 1) := by decide +kernel
theorem dX11_isWithin_45 : decode cX11_isWithin 45 = .ok (.ladd, 1) := by decide +kernel
theorem dX11_isWithin_46 : decode cX11_isWithin 46 = .ok (.lcmp, 1) := by decide +kernel
theorem dX11_isWithin_47 : decode cX11_isWithin 47 = .ok (.ifCond .gt 7, 3) := by decide +kernel
theorem dX11_isWithin_50 : decode cX11_isWithin 50 = .ok (.iconst 1, 1) := by decide +kernel
theorem dX11_isWithin_51 : decode cX11_isWithin 51 = .ok (.goto 4, 3) := by decide +kernel
theorem dX11_isWithin_54 : decode cX11_isWithin 54 = .ok (.iconst 0, 1) := by decide +kernel
theorem dX11_isWithin_55 : decode cX11_isWithin 55 = .ok (.ireturn, 1) := by decide +kernel
theorem dX11_tellOff_0 : decode cX11_tellOff 0 = .ok (.aload_n 0, 1) := by decide +kernel
theorem dX11_tellOff_1 : decode cX11_tellOff 1 = .ok (.iload_n 1, 1) := by decide +kernel
theorem dX11_tellOff_2 : decode cX11_tellOff 2 = .ok (.invokevirtual 88, 3) := by decide +kernel
theorem dX11_tellOff_5 : decode cX11_tellOff 5 = .ok (.ifCond .eq 13, 3) := by decide +kernel
theorem dX11_tellOff_8 : decode cX11_tellOff 8 = .ok (.aload_n 0, 1) := by decide +kernel
theorem dX11_tellOff_9 : decode cX11_tellOff 9 = .ok (.getfield 32, 3) := by decide +kernel
theorem dX11_tellOff_12 : decode cX11_tellOff 12 = .ok (.iload_n 1, 1) := by decide +kernel
theorem dX11_tellOff_13 : decode cX11_tellOff 13 = .ok (.iaload, 1) := by decide +kernel
theorem dX11_tellOff_14 : decode cX11_tellOff 14 = .ok (.iconst (-1), 1) := by decide +kernel
theorem dX11_tellOff_15 : decode cX11_tellOff 15 = .ok (.if_icmp .eq 5, 3) := by decide +kernel
theorem dX11_tellOff_18 : decode cX11_tellOff 18 = .ok (.iconst (-1), 1) := by decide +kernel
theorem dX11_tellOff_19 : decode cX11_tellOff 19 = .ok (.ireturn, 1) := by decide +kernel
theorem dX11_tellOff_20 : decode cX11_tellOff 20 = .ok (.iconst (-1), 1) := by decide +kernel
theorem dX11_tellOff_21 : decode cX11_tellOff 21 = .ok (.istore_n 2, 1) := by decide +kernel
theorem dX11_tellOff_22 : decode cX11_tellOff 22 = .ok (.iconst 0, 1) := by decide +kernel
theorem dX11_tellOff_23 : decode cX11_tellOff 23 = .ok (.istore_n 3, 1) := by decide +kernel
theorem dX11_tellOff_24 : decode cX11_tellOff 24 = .ok (.iload_n 3, 1) := by decide +kernel
theorem dX11_tellOff_25 : decode cX11_tellOff 25 = .ok (.aload_n 0, 1) := by decide +kernel
theorem dX11_tellOff_26 : decode cX11_tellOff 26 = .ok (.getfield 82, 3) := by decide +kernel
theorem dX11_tellOff_29 : decode cX11_tellOff 29 = .ok (.if_icmp .ge 55, 3) := by decide +kernel
theorem dX11_tellOff_32 : decode cX11_tellOff 32 = .ok (.aload_n 0, 1) := by decide +kernel
theorem dX11_tellOff_33 : decode cX11_tellOff 33 = .ok (.iload_n 3, 1) := by decide +kernel
theorem dX11_tellOff_34 : decode cX11_tellOff 34 = .ok (.invokevirtual 185, 3) := by decide +kernel
theorem dX11_tellOff_37 : decode cX11_tellOff 37 = .ok (.ifCond .eq 41, 3) := by decide +kernel
theorem dX11_tellOff_40 : decode cX11_tellOff 40 = .ok (.aload_n 0, 1) := by decide +kernel
theorem dX11_tellOff_41 : decode cX11_tellOff 41 = .ok (.iload_n 3, 1) := by decide +kernel
theorem dX11_tellOff_42 : decode cX11_tellOff 42 = .ok (.invokevirtual 188, 3) := by decide +kernel
theorem dX11_tellOff_45 : decode cX11_tellOff 45 = .ok (.ifCond .eq 33, 3) := by decide +kernel
theorem dX11_tellOff_48 : decode cX11_tellOff 48 = .ok (.aload_n 0, 1) := by decide +kernel
theorem dX11_tellOff_49 : decode cX11_tellOff 49 = .ok (.iload_n 1, 1) := by decide +kernel
theorem dX11_tellOff_50 : decode cX11_tellOff 50 = .ok (.iconst 0, 1) := by decide +kernel
theorem dX11_tellOff_51 : decode cX11_tellOff 51 = .ok (.invokevirtual 198, 3) := by decide +kernel
theorem dX11_tellOff_54 : decode cX11_tellOff 54 = .ok (.ifCond .eq 24, 3) := by decide +kernel
theorem dX11_tellOff_57 : decode cX11_tellOff 57 = .ok (.aload_n 0, 1) := by decide +kernel
theorem dX11_tellOff_58 : decode cX11_tellOff 58 = .ok (.iload_n 1, 1) := by decide +kernel
theorem dX11_tellOff_59 : decode cX11_tellOff 59 = .ok (.iconst 1, 1) := by decide +kernel
theorem dX11_tellOff_60 : decode cX11_tellOff 60 = .ok (.invokevirtual 198, 3) := by decide +kernel
theorem dX11_tellOff_63 : decode cX11_tellOff 63 = .ok (.ifCond .ne 6, 3) := by decide +kernel
theorem dX11_tellOff_66 : decode cX11_tellOff 66 = .ok (.goto 12, 3) := by decide +kernel
theorem dX11_tellOff_69 : decode cX11_tellOff 69 = .ok (.iload_n 2, 1) := by decide +kernel
theorem dX11_tellOff_70 : decode cX11_tellOff 70 = .ok (.iconst (-1), 1) := by decide +kernel
theorem dX11_tellOff_71 : decode cX11_tellOff 71 = .ok (.if_icmp .eq 5, 3) := by decide +kernel
theorem dX11_tellOff_74 : decode cX11_tellOff 74 = .ok (.iconst (-1), 1) := by decide +kernel
theorem dX11_tellOff_75 : decode cX11_tellOff 75 = .ok (.ireturn, 1) := by decide +kernel
theorem dX11_tellOff_76 : decode cX11_tellOff 76 = .ok (.iload_n 3, 1) := by decide +kernel
theorem dX11_tellOff_77 : decode cX11_tellOff 77 = .ok (.istore_n 2, 1) := by decide +kernel
theorem dX11_tellOff_78 : decode cX11_tellOff 78 = .ok (.iinc 3 1, 3) := by decide +kernel
theorem dX11_tellOff_81 : decode cX11_tellOff 81 = .ok (.goto (-57), 3) := by decide +kernel
theorem dX11_tellOff_84 : decode cX11_tellOff 84 = .ok (.iload_n 2, 1) := by decide +kernel
theorem dX11_tellOff_85 : decode cX11_tellOff 85 = .ok (.ireturn, 1) := by decide +kernel
theorem dX11_fits_0 : decode cX11_fits 0 = .ok (.aload_n 0, 1) := by decide +kernel
theorem dX11_fits_1 : decode cX11_fits 1 = .ok (.getfield 38, 3) := by decide +kernel
theorem dX11_fits_4 : decode cX11_fits 4 = .ok (.iload_n 1, 1) := by decide +kernel
theorem dX11_fits_5 : decode cX11_fits 5 = .ok (.iaload, 1) := by decide +kernel
theorem dX11_fits_6 : decode cX11_fits 6 = .ok (.i2l, 1) := by decide +kernel
theorem dX11_fits_7 : decode cX11_fits 7 = .ok (.lstore_n 3, 1) := by decide +kernel
theorem dX11_fits_8 : decode cX11_fits 8 = .ok (.lconst 0, 1) := by decide +kernel
theorem dX11_fits_9 : decode cX11_fits 9 = .ok (.lstore 5, 2) := by decide +kernel
theorem dX11_fits_11 : decode cX11_fits 11 = .ok (.lconst 0, 1) := by decide +kernel
theorem dX11_fits_12 : decode cX11_fits 12 = .ok (.lstore 7, 2) := by decide +kernel
theorem dX11_fits_14 : decode cX11_fits 14 = .ok (.lconst 0, 1) := by decide +kernel
theorem dX11_fits_15 : decode cX11_fits 15 = .ok (.lstore 9, 2) := by decide +kernel
theorem dX11_fits_17 : decode cX11_fits 17 = .ok (.lconst 0, 1) := by decide +kernel
theorem dX11_fits_18 : decode cX11_fits 18 = .ok (.lstore 11, 2) := by decide +kernel
theorem dX11_fits_20 : decode cX11_fits 20 = .ok (.iconst 0, 1) := by decide +kernel
theorem dX11_fits_21 : decode cX11_fits 21 = .ok (.istore 13, 2) := by decide +kernel
theorem dX11_fits_23 : decode cX11_fits 23 = .ok (.iload 13, 2) := by decide +kernel
theorem dX11_fits_25 : decode cX11_fits 25 = .ok (.aload_n 0, 1) := by decide +kernel
theorem dX11_fits_26 : decode cX11_fits 26 = .ok (.getfield 38, 3) := by decide +kernel
theorem dX11_fits_29 : decode cX11_fits 29 = .ok (.iload_n 1, 1) := by decide +kernel
theorem dX11_fits_30 : decode cX11_fits 30 = .ok (.iaload, 1) := by decide +kernel
theorem dX11_fits_31 : decode cX11_fits 31 = .ok (.if_icmp .ge 83, 3) := by decide +kernel
theorem dX11_fits_34 : decode cX11_fits 34 = .ok (.aload_n 0, 1) := by decide +kernel
theorem dX11_fits_35 : decode cX11_fits 35 = .ok (.getfield 19, 3) := by decide +kernel
theorem dX11_fits_38 : decode cX11_fits 38 = .ok (.aload_n 0, 1) := by decide +kernel
theorem dX11_fits_39 : decode cX11_fits 39 = .ok (.getfield 41, 3) := by decide +kernel
theorem dX11_fits_42 : decode cX11_fits 42 = .ok (.bipush 8, 2) := by decide +kernel
theorem dX11_fits_44 : decode cX11_fits 44 = .ok (.iload_n 1, 1) := by decide +kernel
theorem dX11_fits_45 : decode cX11_fits 45 = .ok (.imul, 1) := by decide +kernel
theorem dX11_fits_46 : decode cX11_fits 46 = .ok (.iload 13, 2) := by decide +kernel
theorem dX11_fits_48 : decode cX11_fits 48 = .ok (.iadd, 1) := by decide +kernel
theorem dX11_fits_49 : decode cX11_fits 49 = .ok (.iaload, 1) := by decide +kernel
theorem dX11_fits_50 : decode cX11_fits 50 = .ok (.iaload, 1) := by decide +kernel
theorem dX11_fits_51 : decode cX11_fits 51 = .ok (.i2l, 1) := by decide +kernel
theorem dX11_fits_52 : decode cX11_fits 52 = .ok (.lstore 14, 2) := by decide +kernel
theorem dX11_fits_54 : decode cX11_fits 54 = .ok (.aload_n 0, 1) := by decide +kernel
theorem dX11_fits_55 : decode cX11_fits 55 = .ok (.aload_n 0, 1) := by decide +kernel
theorem dX11_fits_56 : decode cX11_fits 56 = .ok (.getfield 41, 3) := by decide +kernel
theorem dX11_fits_59 : decode cX11_fits 59 = .ok (.bipush 8, 2) := by decide +kernel
theorem dX11_fits_61 : decode cX11_fits 61 = .ok (.iload_n 1, 1) := by decide +kernel
theorem dX11_fits_62 : decode cX11_fits 62 = .ok (.imul, 1) := by decide +kernel
theorem dX11_fits_63 : decode cX11_fits 63 = .ok (.iload 13, 2) := by decide +kernel
theorem dX11_fits_65 : decode cX11_fits 65 = .ok (.iadd, 1) := by decide +kernel
theorem dX11_fits_66 : decode cX11_fits 66 = .ok (.iaload, 1) := by decide +kernel
theorem dX11_fits_67 : decode cX11_fits 67 = .ok (.iload_n 2, 1) := by decide +kernel
theorem dX11_fits_68 : decode cX11_fits 68 = .ok (.invokevirtual 99, 3) := by decide +kernel
theorem dX11_fits_71 : decode cX11_fits 71 = .ok (.i2l, 1) := by decide +kernel
theorem dX11_fits_72 : decode cX11_fits 72 = .ok (.lstore 16, 2) := by decide +kernel
theorem dX11_fits_74 : decode cX11_fits 74 = .ok (.lload 5, 2) := by decide +kernel
theorem dX11_fits_76 : decode cX11_fits 76 = .ok (.lload 14, 2) := by decide +kernel
theorem dX11_fits_78 : decode cX11_fits 78 = .ok (.ladd, 1) := by decide +kernel
theorem dX11_fits_79 : decode cX11_fits 79 = .ok (.lstore 5, 2) := by decide +kernel
theorem dX11_fits_81 : decode cX11_fits 81 = .ok (.lload 7, 2) := by decide +kernel
theorem dX11_fits_83 : decode cX11_fits 83 = .ok (.lload 16, 2) := by decide +kernel
theorem dX11_fits_85 : decode cX11_fits 85 = .ok (.ladd, 1) := by decide +kernel
theorem dX11_fits_86 : decode cX11_fits 86 = .ok (.lstore 7, 2) := by decide +kernel
theorem dX11_fits_88 : decode cX11_fits 88 = .ok (.lload 9, 2) := by decide +kernel
theorem dX11_fits_90 : decode cX11_fits 90 = .ok (.lload 14, 2) := by decide +kernel
theorem dX11_fits_92 : decode cX11_fits 92 = .ok (.lload 14, 2) := by decide +kernel
theorem dX11_fits_94 : decode cX11_fits 94 = .ok (.lmul, 1) := by decide +kernel
theorem dX11_fits_95 : decode cX11_fits 95 = .ok (.ladd, 1) := by decide +kernel
theorem dX11_fits_96 : decode cX11_fits 96 = .ok (.lstore 9, 2) := by decide +kernel
theorem dX11_fits_98 : decode cX11_fits 98 = .ok (.lload 11, 2) := by decide +kernel
theorem dX11_fits_100 : decode cX11_fits 100 = .ok (.lload 14, 2) := by decide +kernel
theorem dX11_fits_102 : decode cX11_fits 102 = .ok (.lload 16, 2) := by decide +kernel
theorem dX11_fits_104 : decode cX11_fits 104 = .ok (.lmul, 1) := by decide +kernel
theorem dX11_fits_105 : decode cX11_fits 105 = .ok (.ladd, 1) := by decide +kernel
theorem dX11_fits_106 : decode cX11_fits 106 = .ok (.lstore 11, 2) := by decide +kernel
theorem dX11_fits_108 : decode cX11_fits 108 = .ok (.iinc 13 1, 3) := by decide +kernel
theorem dX11_fits_111 : decode cX11_fits 111 = .ok (.goto (-88), 3) := by decide +kernel
theorem dX11_fits_114 : decode cX11_fits 114 = .ok (.aload_n 0, 1) := by decide +kernel
theorem dX11_fits_115 : decode cX11_fits 115 = .ok (.lload_n 3, 1) := by decide +kernel
theorem dX11_fits_116 : decode cX11_fits 116 = .ok (.lload 9, 2) := by decide +kernel
theorem dX11_fits_118 : decode cX11_fits 118 = .ok (.lmul, 1) := by decide +kernel
theorem dX11_fits_119 : decode cX11_fits 119 = .ok (.lload 5, 2) := by decide +kernel
theorem dX11_fits_121 : decode cX11_fits 121 = .ok (.lload 5, 2) := by decide +kernel
theorem dX11_fits_123 : decode cX11_fits 123 = .ok (.lmul, 1) := by decide +kernel
theorem dX11_fits_124 : decode cX11_fits 124 = .ok (.lsub, 1) := by decide +kernel
theorem dX11_fits_125 : decode cX11_fits 125 = .ok (.putfield 201, 3) := by decide +kernel
theorem dX11_fits_128 : decode cX11_fits 128 = .ok (.aload_n 0, 1) := by decide +kernel
theorem dX11_fits_129 : decode cX11_fits 129 = .ok (.lload_n 3, 1) := by decide +kernel
theorem dX11_fits_130 : decode cX11_fits 130 = .ok (.lload 11, 2) := by decide +kernel
theorem dX11_fits_132 : decode cX11_fits 132 = .ok (.lmul, 1) := by decide +kernel
theorem dX11_fits_133 : decode cX11_fits 133 = .ok (.lload 5, 2) := by decide +kernel
theorem dX11_fits_135 : decode cX11_fits 135 = .ok (.lload 7, 2) := by decide +kernel
theorem dX11_fits_137 : decode cX11_fits 137 = .ok (.lmul, 1) := by decide +kernel
theorem dX11_fits_138 : decode cX11_fits 138 = .ok (.lsub, 1) := by decide +kernel
theorem dX11_fits_139 : decode cX11_fits 139 = .ok (.putfield 204, 3) := by decide +kernel
theorem dX11_fits_142 : decode cX11_fits 142 = .ok (.aload_n 0, 1) := by decide +kernel
theorem dX11_fits_143 : decode cX11_fits 143 = .ok (.lload_n 3, 1) := by decide +kernel
theorem dX11_fits_144 : decode cX11_fits 144 = .ok (.aload_n 0, 1) := by decide +kernel
theorem dX11_fits_145 : decode cX11_fits 145 = .ok (.getfield 201, 3) := by decide +kernel
theorem dX11_fits_148 : decode cX11_fits 148 = .ok (.lmul, 1) := by decide +kernel
theorem dX11_fits_149 : decode cX11_fits 149 = .ok (.putfield 207, 3) := by decide +kernel
theorem dX11_fits_152 : decode cX11_fits 152 = .ok (.aload_n 0, 1) := by decide +kernel
theorem dX11_fits_153 : decode cX11_fits 153 = .ok (.lload 7, 2) := by decide +kernel
theorem dX11_fits_155 : decode cX11_fits 155 = .ok (.aload_n 0, 1) := by decide +kernel
theorem dX11_fits_156 : decode cX11_fits 156 = .ok (.getfield 201, 3) := by decide +kernel
theorem dX11_fits_159 : decode cX11_fits 159 = .ok (.lmul, 1) := by decide +kernel
theorem dX11_fits_160 : decode cX11_fits 160 = .ok (.aload_n 0, 1) := by decide +kernel
theorem dX11_fits_161 : decode cX11_fits 161 = .ok (.getfield 204, 3) := by decide +kernel
theorem dX11_fits_164 : decode cX11_fits 164 = .ok (.lload 5, 2) := by decide +kernel
theorem dX11_fits_166 : decode cX11_fits 166 = .ok (.lmul, 1) := by decide +kernel
theorem dX11_fits_167 : decode cX11_fits 167 = .ok (.lsub, 1) := by decide +kernel
theorem dX11_fits_168 : decode cX11_fits 168 = .ok (.putfield 210, 3) := by decide +kernel
theorem dX11_fits_171 : decode cX11_fits 171 = .ok (.aload_n 0, 1) := by decide +kernel
theorem dX11_fits_172 : decode cX11_fits 172 = .ok (.getfield 201, 3) := by decide +kernel
theorem dX11_fits_175 : decode cX11_fits 175 = .ok (.lconst 0, 1) := by decide +kernel
theorem dX11_fits_176 : decode cX11_fits 176 = .ok (.lcmp, 1) := by decide +kernel
theorem dX11_fits_177 : decode cX11_fits 177 = .ok (.ifCond .le 7, 3) := by decide +kernel
theorem dX11_fits_180 : decode cX11_fits 180 = .ok (.iconst 1, 1) := by decide +kernel
theorem dX11_fits_181 : decode cX11_fits 181 = .ok (.goto 4, 3) := by decide +kernel
theorem dX11_fits_184 : decode cX11_fits 184 = .ok (.iconst 0, 1) := by decide +kernel
theorem dX11_fits_185 : decode cX11_fits 185 = .ok (.ireturn, 1) := by decide +kernel
theorem dX11_divisor_0 : decode cX11_divisor 0 = .ok (.lload_n 0, 1) := by decide +kernel
theorem dX11_divisor_1 : decode cX11_divisor 1 = .ok (.lconst 0, 1) := by decide +kernel
theorem dX11_divisor_2 : decode cX11_divisor 2 = .ok (.lcmp, 1) := by decide +kernel
theorem dX11_divisor_3 : decode cX11_divisor 3 = .ok (.ifCond .ge 8, 3) := by decide +kernel
theorem dX11_divisor_6 : decode cX11_divisor 6 = .ok (.lload_n 0, 1) := by decide +kernel
theorem dX11_divisor_7 : decode cX11_divisor 7 = .ok (.lneg, 1) := by decide +kernel
theorem dX11_divisor_8 : decode cX11_divisor 8 = .ok (.goto 4, 3) := by decide +kernel
theorem dX11_divisor_11 : decode cX11_divisor 11 = .ok (.lload_n 0, 1) := by decide +kernel
theorem dX11_divisor_12 : decode cX11_divisor 12 = .ok (.lstore 4, 2) := by decide +kernel
theorem dX11_divisor_14 : decode cX11_divisor 14 = .ok (.lload_n 2, 1) := by decide +kernel
theorem dX11_divisor_15 : decode cX11_divisor 15 = .ok (.lstore 6, 2) := by decide +kernel
theorem dX11_divisor_17 : decode cX11_divisor 17 = .ok (.lload 6, 2) := by decide +kernel
theorem dX11_divisor_19 : decode cX11_divisor 19 = .ok (.lconst 0, 1) := by decide +kernel
theorem dX11_divisor_20 : decode cX11_divisor 20 = .ok (.lcmp, 1) := by decide +kernel
theorem dX11_divisor_21 : decode cX11_divisor 21 = .ok (.ifCond .eq 21, 3) := by decide +kernel
theorem dX11_divisor_24 : decode cX11_divisor 24 = .ok (.lload 4, 2) := by decide +kernel
theorem dX11_divisor_26 : decode cX11_divisor 26 = .ok (.lload 6, 2) := by decide +kernel
theorem dX11_divisor_28 : decode cX11_divisor 28 = .ok (.lrem, 1) := by decide +kernel
theorem dX11_divisor_29 : decode cX11_divisor 29 = .ok (.lstore 8, 2) := by decide +kernel
theorem dX11_divisor_31 : decode cX11_divisor 31 = .ok (.lload 6, 2) := by decide +kernel
theorem dX11_divisor_33 : decode cX11_divisor 33 = .ok (.lstore 4, 2) := by decide +kernel
theorem dX11_divisor_35 : decode cX11_divisor 35 = .ok (.lload 8, 2) := by decide +kernel
theorem dX11_divisor_37 : decode cX11_divisor 37 = .ok (.lstore 6, 2) := by decide +kernel
theorem dX11_divisor_39 : decode cX11_divisor 39 = .ok (.goto (-22), 3) := by decide +kernel
theorem dX11_divisor_42 : decode cX11_divisor 42 = .ok (.lload 4, 2) := by decide +kernel
theorem dX11_divisor_44 : decode cX11_divisor 44 = .ok (.lreturn, 1) := by decide +kernel
theorem dX11_told_0 : decode cX11_told 0 = .ok (.lload_n 0, 1) := by decide +kernel
theorem dX11_told_1 : decode cX11_told 1 = .ok (.lload_n 2, 1) := by decide +kernel
theorem dX11_told_2 : decode cX11_told 2 = .ok (.invokestatic 213, 3) := by decide +kernel
theorem dX11_told_5 : decode cX11_told 5 = .ok (.lstore 5, 2) := by decide +kernel
theorem dX11_told_7 : decode cX11_told 7 = .ok (.iload 4, 2) := by decide +kernel
theorem dX11_told_9 : decode cX11_told 9 = .ok (.ifCond .ne 10, 3) := by decide +kernel
theorem dX11_told_12 : decode cX11_told 12 = .ok (.lload_n 0, 1) := by decide +kernel
theorem dX11_told_13 : decode cX11_told 13 = .ok (.lload 5, 2) := by decide +kernel
theorem dX11_told_15 : decode cX11_told 15 = .ok (.ldiv, 1) := by decide +kernel
theorem dX11_told_16 : decode cX11_told 16 = .ok (.goto 7, 3) := by decide +kernel
theorem dX11_told_19 : decode cX11_told 19 = .ok (.lload_n 2, 1) := by decide +kernel
theorem dX11_told_20 : decode cX11_told 20 = .ok (.lload 5, 2) := by decide +kernel
theorem dX11_told_22 : decode cX11_told 22 = .ok (.ldiv, 1) := by decide +kernel
theorem dX11_told_23 : decode cX11_told 23 = .ok (.lreturn, 1) := by decide +kernel
theorem dX11_fit_0 : decode cX11_fit 0 = .ok (.aload_n 0, 1) := by decide +kernel
theorem dX11_fit_1 : decode cX11_fit 1 = .ok (.iload_n 1, 1) := by decide +kernel
theorem dX11_fit_2 : decode cX11_fit 2 = .ok (.invokevirtual 185, 3) := by decide +kernel
theorem dX11_fit_5 : decode cX11_fit 5 = .ok (.ifCond .eq 40, 3) := by decide +kernel
theorem dX11_fit_8 : decode cX11_fit 8 = .ok (.iload_n 2, 1) := by decide +kernel
theorem dX11_fit_9 : decode cX11_fit 9 = .ok (.iconst 0, 1) := by decide +kernel
theorem dX11_fit_10 : decode cX11_fit 10 = .ok (.iconst 1, 1) := by decide +kernel
theorem dX11_fit_11 : decode cX11_fit 11 = .ok (.invokestatic 78, 3) := by decide +kernel
theorem dX11_fit_14 : decode cX11_fit 14 = .ok (.ifCond .eq 31, 3) := by decide +kernel
theorem dX11_fit_17 : decode cX11_fit 17 = .ok (.iload_n 3, 1) := by decide +kernel
theorem dX11_fit_18 : decode cX11_fit 18 = .ok (.iconst 0, 1) := by decide +kernel
theorem dX11_fit_19 : decode cX11_fit 19 = .ok (.iconst 1, 1) := by decide +kernel
theorem dX11_fit_20 : decode cX11_fit 20 = .ok (.invokestatic 78, 3) := by decide +kernel
theorem dX11_fit_23 : decode cX11_fit 23 = .ok (.ifCond .eq 22, 3) := by decide +kernel
theorem dX11_fit_26 : decode cX11_fit 26 = .ok (.iload 4, 2) := by decide +kernel
theorem dX11_fit_28 : decode cX11_fit 28 = .ok (.iconst 0, 1) := by decide +kernel
theorem dX11_fit_29 : decode cX11_fit 29 = .ok (.iconst 1, 1) := by decide +kernel
theorem dX11_fit_30 : decode cX11_fit 30 = .ok (.invokestatic 78, 3) := by decide +kernel
theorem dX11_fit_33 : decode cX11_fit 33 = .ok (.ifCond .eq 12, 3) := by decide +kernel
theorem dX11_fit_36 : decode cX11_fit 36 = .ok (.aload_n 0, 1) := by decide +kernel
theorem dX11_fit_37 : decode cX11_fit 37 = .ok (.iload_n 1, 1) := by decide +kernel
theorem dX11_fit_38 : decode cX11_fit 38 = .ok (.iload_n 2, 1) := by decide +kernel
theorem dX11_fit_39 : decode cX11_fit 39 = .ok (.invokevirtual 216, 3) := by decide +kernel
theorem dX11_fit_42 : decode cX11_fit 42 = .ok (.ifCond .ne 7, 3) := by decide +kernel
theorem dX11_fit_45 : decode cX11_fit 45 = .ok (.ldc2_w 193, 3) := by decide +kernel
theorem dX11_fit_48 : decode cX11_fit 48 = .ok (.lreturn, 1) := by decide +kernel
theorem dX11_fit_49 : decode cX11_fit 49 = .ok (.iload_n 3, 1) := by decide +kernel
theorem dX11_fit_50 : decode cX11_fit 50 = .ok (.ifCond .ne 19, 3) := by decide +kernel
theorem dX11_fit_53 : decode cX11_fit 53 = .ok (.aload_n 0, 1) := by decide +kernel
theorem dX11_fit_54 : decode cX11_fit 54 = .ok (.getfield 210, 3) := by decide +kernel
theorem dX11_fit_57 : decode cX11_fit 57 = .ok (.aload_n 0, 1) := by decide +kernel
theorem dX11_fit_58 : decode cX11_fit 58 = .ok (.getfield 207, 3) := by decide +kernel
theorem dX11_fit_61 : decode cX11_fit 61 = .ok (.iload 4, 2) := by decide +kernel
theorem dX11_fit_63 : decode cX11_fit 63 = .ok (.invokestatic 219, 3) := by decide +kernel
theorem dX11_fit_66 : decode cX11_fit 66 = .ok (.goto 16, 3) := by decide +kernel
theorem dX11_fit_69 : decode cX11_fit 69 = .ok (.aload_n 0, 1) := by decide +kernel
theorem dX11_fit_70 : decode cX11_fit 70 = .ok (.getfield 204, 3) := by decide +kernel
theorem dX11_fit_73 : decode cX11_fit 73 = .ok (.aload_n 0, 1) := by decide +kernel
theorem dX11_fit_74 : decode cX11_fit 74 = .ok (.getfield 201, 3) := by decide +kernel
theorem dX11_fit_77 : decode cX11_fit 77 = .ok (.iload 4, 2) := by decide +kernel
theorem dX11_fit_79 : decode cX11_fit 79 = .ok (.invokestatic 219, 3) := by decide +kernel
theorem dX11_fit_82 : decode cX11_fit 82 = .ok (.lreturn, 1) := by decide +kernel
theorem dX11_miss_0 : decode cX11_miss 0 = .ok (.aload_n 0, 1) := by decide +kernel
theorem dX11_miss_1 : decode cX11_miss 1 = .ok (.iload_n 1, 1) := by decide +kernel
theorem dX11_miss_2 : decode cX11_miss 2 = .ok (.invokevirtual 185, 3) := by decide +kernel
theorem dX11_miss_5 : decode cX11_miss 5 = .ok (.ifCond .eq 47, 3) := by decide +kernel
theorem dX11_miss_8 : decode cX11_miss 8 = .ok (.iload_n 2, 1) := by decide +kernel
theorem dX11_miss_9 : decode cX11_miss 9 = .ok (.iconst 0, 1) := by decide +kernel
theorem dX11_miss_10 : decode cX11_miss 10 = .ok (.aload_n 0, 1) := by decide +kernel
theorem dX11_miss_11 : decode cX11_miss 11 = .ok (.getfield 38, 3) := by decide +kernel
theorem dX11_miss_14 : decode cX11_miss 14 = .ok (.iload_n 1, 1) := by decide +kernel
theorem dX11_miss_15 : decode cX11_miss 15 = .ok (.iaload, 1) := by decide +kernel
theorem dX11_miss_16 : decode cX11_miss 16 = .ok (.iconst 1, 1) := by decide +kernel
theorem dX11_miss_17 : decode cX11_miss 17 = .ok (.isub, 1) := by decide +kernel
theorem dX11_miss_18 : decode cX11_miss 18 = .ok (.invokestatic 78, 3) := by decide +kernel
theorem dX11_miss_21 : decode cX11_miss 21 = .ok (.ifCond .eq 31, 3) := by decide +kernel
theorem dX11_miss_24 : decode cX11_miss 24 = .ok (.iload_n 3, 1) := by decide +kernel
theorem dX11_miss_25 : decode cX11_miss 25 = .ok (.iconst 0, 1) := by decide +kernel
theorem dX11_miss_26 : decode cX11_miss 26 = .ok (.iconst 1, 1) := by decide +kernel
theorem dX11_miss_27 : decode cX11_miss 27 = .ok (.invokestatic 78, 3) := by decide +kernel
theorem dX11_miss_30 : decode cX11_miss 30 = .ok (.ifCond .eq 22, 3) := by decide +kernel
theorem dX11_miss_33 : decode cX11_miss 33 = .ok (.iload 4, 2) := by decide +kernel
theorem dX11_miss_35 : decode cX11_miss 35 = .ok (.iconst 0, 1) := by decide +kernel
theorem dX11_miss_36 : decode cX11_miss 36 = .ok (.iconst 1, 1) := by decide +kernel
theorem dX11_miss_37 : decode cX11_miss 37 = .ok (.invokestatic 78, 3) := by decide +kernel
theorem dX11_miss_40 : decode cX11_miss 40 = .ok (.ifCond .eq 12, 3) := by decide +kernel
theorem dX11_miss_43 : decode cX11_miss 43 = .ok (.aload_n 0, 1) := by decide +kernel
theorem dX11_miss_44 : decode cX11_miss 44 = .ok (.iload_n 1, 1) := by decide +kernel
theorem dX11_miss_45 : decode cX11_miss 45 = .ok (.iload_n 3, 1) := by decide +kernel
theorem dX11_miss_46 : decode cX11_miss 46 = .ok (.invokevirtual 216, 3) := by decide +kernel
theorem dX11_miss_49 : decode cX11_miss 49 = .ok (.ifCond .ne 7, 3) := by decide +kernel
theorem dX11_miss_52 : decode cX11_miss 52 = .ok (.ldc2_w 193, 3) := by decide +kernel
theorem dX11_miss_55 : decode cX11_miss 55 = .ok (.lreturn, 1) := by decide +kernel
theorem dX11_miss_56 : decode cX11_miss 56 = .ok (.aload_n 0, 1) := by decide +kernel
theorem dX11_miss_57 : decode cX11_miss 57 = .ok (.getfield 41, 3) := by decide +kernel
theorem dX11_miss_60 : decode cX11_miss 60 = .ok (.bipush 8, 2) := by decide +kernel
theorem dX11_miss_62 : decode cX11_miss 62 = .ok (.iload_n 1, 1) := by decide +kernel
theorem dX11_miss_63 : decode cX11_miss 63 = .ok (.imul, 1) := by decide +kernel
theorem dX11_miss_64 : decode cX11_miss 64 = .ok (.iload_n 2, 1) := by decide +kernel
theorem dX11_miss_65 : decode cX11_miss 65 = .ok (.iadd, 1) := by decide +kernel
theorem dX11_miss_66 : decode cX11_miss 66 = .ok (.iaload, 1) := by decide +kernel
theorem dX11_miss_67 : decode cX11_miss 67 = .ok (.istore 5, 2) := by decide +kernel
theorem dX11_miss_69 : decode cX11_miss 69 = .ok (.aload_n 0, 1) := by decide +kernel
theorem dX11_miss_70 : decode cX11_miss 70 = .ok (.iload 5, 2) := by decide +kernel
theorem dX11_miss_72 : decode cX11_miss 72 = .ok (.iload_n 3, 1) := by decide +kernel
theorem dX11_miss_73 : decode cX11_miss 73 = .ok (.invokevirtual 99, 3) := by decide +kernel
theorem dX11_miss_76 : decode cX11_miss 76 = .ok (.i2l, 1) := by decide +kernel
theorem dX11_miss_77 : decode cX11_miss 77 = .ok (.aload_n 0, 1) := by decide +kernel
theorem dX11_miss_78 : decode cX11_miss 78 = .ok (.getfield 207, 3) := by decide +kernel
theorem dX11_miss_81 : decode cX11_miss 81 = .ok (.lmul, 1) := by decide +kernel
theorem dX11_miss_82 : decode cX11_miss 82 = .ok (.aload_n 0, 1) := by decide +kernel
theorem dX11_miss_83 : decode cX11_miss 83 = .ok (.getfield 210, 3) := by decide +kernel
theorem dX11_miss_86 : decode cX11_miss 86 = .ok (.lsub, 1) := by decide +kernel
theorem dX11_miss_87 : decode cX11_miss 87 = .ok (.aload_n 0, 1) := by decide +kernel
theorem dX11_miss_88 : decode cX11_miss 88 = .ok (.getfield 204, 3) := by decide +kernel
theorem dX11_miss_91 : decode cX11_miss 91 = .ok (.aload_n 0, 1) := by decide +kernel
theorem dX11_miss_92 : decode cX11_miss 92 = .ok (.getfield 38, 3) := by decide +kernel
theorem dX11_miss_95 : decode cX11_miss 95 = .ok (.iload_n 1, 1) := by decide +kernel
theorem dX11_miss_96 : decode cX11_miss 96 = .ok (.iaload, 1) := by decide +kernel
theorem dX11_miss_97 : decode cX11_miss 97 = .ok (.i2l, 1) := by decide +kernel
theorem dX11_miss_98 : decode cX11_miss 98 = .ok (.lmul, 1) := by decide +kernel
theorem dX11_miss_99 : decode cX11_miss 99 = .ok (.aload_n 0, 1) := by decide +kernel
theorem dX11_miss_100 : decode cX11_miss 100 = .ok (.getfield 19, 3) := by decide +kernel
theorem dX11_miss_103 : decode cX11_miss 103 = .ok (.iload 5, 2) := by decide +kernel
theorem dX11_miss_105 : decode cX11_miss 105 = .ok (.iaload, 1) := by decide +kernel
theorem dX11_miss_106 : decode cX11_miss 106 = .ok (.i2l, 1) := by decide +kernel
theorem dX11_miss_107 : decode cX11_miss 107 = .ok (.lmul, 1) := by decide +kernel
theorem dX11_miss_108 : decode cX11_miss 108 = .ok (.lsub, 1) := by decide +kernel
theorem dX11_miss_109 : decode cX11_miss 109 = .ok (.lstore 6, 2) := by decide +kernel
theorem dX11_miss_111 : decode cX11_miss 111 = .ok (.lload 6, 2) := by decide +kernel
theorem dX11_miss_113 : decode cX11_miss 113 = .ok (.lconst 0, 1) := by decide +kernel
theorem dX11_miss_114 : decode cX11_miss 114 = .ok (.lcmp, 1) := by decide +kernel
theorem dX11_miss_115 : decode cX11_miss 115 = .ok (.ifCond .ge 9, 3) := by decide +kernel
theorem dX11_miss_118 : decode cX11_miss 118 = .ok (.lload 6, 2) := by decide +kernel
theorem dX11_miss_120 : decode cX11_miss 120 = .ok (.lneg, 1) := by decide +kernel
theorem dX11_miss_121 : decode cX11_miss 121 = .ok (.goto 5, 3) := by decide +kernel
theorem dX11_miss_124 : decode cX11_miss 124 = .ok (.lload 6, 2) := by decide +kernel
theorem dX11_miss_126 : decode cX11_miss 126 = .ok (.aload_n 0, 1) := by decide +kernel
theorem dX11_miss_127 : decode cX11_miss 127 = .ok (.getfield 207, 3) := by decide +kernel
theorem dX11_miss_130 : decode cX11_miss 130 = .ok (.iload 4, 2) := by decide +kernel
theorem dX11_miss_132 : decode cX11_miss 132 = .ok (.invokestatic 219, 3) := by decide +kernel
theorem dX11_miss_135 : decode cX11_miss 135 = .ok (.lreturn, 1) := by decide +kernel
theorem dX11_bitsOf_0 : decode cX11_bitsOf 0 = .ok (.iconst 0, 1) := by decide +kernel
theorem dX11_bitsOf_1 : decode cX11_bitsOf 1 = .ok (.istore_n 1, 1) := by decide +kernel
theorem dX11_bitsOf_2 : decode cX11_bitsOf 2 = .ok (.iload_n 0, 1) := by decide +kernel
theorem dX11_bitsOf_3 : decode cX11_bitsOf 3 = .ok (.istore_n 2, 1) := by decide +kernel
theorem dX11_bitsOf_4 : decode cX11_bitsOf 4 = .ok (.iload_n 2, 1) := by decide +kernel
theorem dX11_bitsOf_5 : decode cX11_bitsOf 5 = .ok (.ifCond .eq 15, 3) := by decide +kernel
theorem dX11_bitsOf_8 : decode cX11_bitsOf 8 = .ok (.iinc 1 1, 3) := by decide +kernel
theorem dX11_bitsOf_11 : decode cX11_bitsOf 11 = .ok (.iload_n 2, 1) := by decide +kernel
theorem dX11_bitsOf_12 : decode cX11_bitsOf 12 = .ok (.iload_n 2, 1) := by decide +kernel
theorem dX11_bitsOf_13 : decode cX11_bitsOf 13 = .ok (.iconst 1, 1) := by decide +kernel
theorem dX11_bitsOf_14 : decode cX11_bitsOf 14 = .ok (.isub, 1) := by decide +kernel
theorem dX11_bitsOf_15 : decode cX11_bitsOf 15 = .ok (.iand, 1) := by decide +kernel
theorem dX11_bitsOf_16 : decode cX11_bitsOf 16 = .ok (.istore_n 2, 1) := by decide +kernel
theorem dX11_bitsOf_17 : decode cX11_bitsOf 17 = .ok (.goto (-13), 3) := by decide +kernel
theorem dX11_bitsOf_20 : decode cX11_bitsOf 20 = .ok (.iload_n 1, 1) := by decide +kernel
theorem dX11_bitsOf_21 : decode cX11_bitsOf 21 = .ok (.ireturn, 1) := by decide +kernel
theorem dX11_isSoundWithout_0 : decode cX11_isSoundWithout 0 = .ok (.aload_n 0, 1) := by decide +kernel
theorem dX11_isSoundWithout_1 : decode cX11_isSoundWithout 1 = .ok (.iconst 0, 1) := by decide +kernel
theorem dX11_isSoundWithout_2 : decode cX11_isSoundWithout 2 = .ok (.putfield 96, 3) := by decide +kernel
theorem dX11_isSoundWithout_5 : decode cX11_isSoundWithout 5 = .ok (.iconst 0, 1) := by decide +kernel
theorem dX11_isSoundWithout_6 : decode cX11_isSoundWithout 6 = .ok (.istore_n 3, 1) := by decide +kernel
theorem dX11_isSoundWithout_7 : decode cX11_isSoundWithout 7 = .ok (.iload_n 3, 1) := by decide +kernel
theorem dX11_isSoundWithout_8 : decode cX11_isSoundWithout 8 = .ok (.aload_n 0, 1) := by decide +kernel
theorem dX11_isSoundWithout_9 : decode cX11_isSoundWithout 9 = .ok (.getfield 38, 3) := by decide +kernel
theorem dX11_isSoundWithout_12 : decode cX11_isSoundWithout 12 = .ok (.iload_n 1, 1) := by decide +kernel
theorem dX11_isSoundWithout_13 : decode cX11_isSoundWithout 13 = .ok (.iaload, 1) := by decide +kernel
theorem dX11_isSoundWithout_14 : decode cX11_isSoundWithout 14 = .ok (.if_icmp .ge 32, 3) := by decide +kernel
theorem dX11_isSoundWithout_17 : decode cX11_isSoundWithout 17 = .ok (.iload_n 2, 1) := by decide +kernel
theorem dX11_isSoundWithout_18 : decode cX11_isSoundWithout 18 = .ok (.iload_n 3, 1) := by decide +kernel
theorem dX11_isSoundWithout_19 : decode cX11_isSoundWithout 19 = .ok (.ishr, 1) := by decide +kernel
theorem dX11_isSoundWithout_20 : decode cX11_isSoundWithout 20 = .ok (.iconst 1, 1) := by decide +kernel
theorem dX11_isSoundWithout_21 : decode cX11_isSoundWithout 21 = .ok (.iand, 1) := by decide +kernel
theorem dX11_isSoundWithout_22 : decode cX11_isSoundWithout 22 = .ok (.ifCond .ne 18, 3) := by decide +kernel
theorem dX11_isSoundWithout_25 : decode cX11_isSoundWithout 25 = .ok (.aload_n 0, 1) := by decide +kernel
theorem dX11_isSoundWithout_26 : decode cX11_isSoundWithout 26 = .ok (.aload_n 0, 1) := by decide +kernel
theorem dX11_isSoundWithout_27 : decode cX11_isSoundWithout 27 = .ok (.getfield 41, 3) := by decide +kernel
theorem dX11_isSoundWithout_30 : decode cX11_isSoundWithout 30 = .ok (.bipush 8, 2) := by decide +kernel
theorem dX11_isSoundWithout_32 : decode cX11_isSoundWithout 32 = .ok (.iload_n 1, 1) := by decide +kernel
theorem dX11_isSoundWithout_33 : decode cX11_isSoundWithout 33 = .ok (.imul, 1) := by decide +kernel
theorem dX11_isSoundWithout_34 : decode cX11_isSoundWithout 34 = .ok (.iload_n 3, 1) := by decide +kernel
theorem dX11_isSoundWithout_35 : decode cX11_isSoundWithout 35 = .ok (.iadd, 1) := by decide +kernel
theorem dX11_isSoundWithout_36 : decode cX11_isSoundWithout 36 = .ok (.iaload, 1) := by decide +kernel
theorem dX11_isSoundWithout_37 : decode cX11_isSoundWithout 37 = .ok (.invokevirtual 163, 3) := by decide +kernel
theorem dX11_isSoundWithout_40 : decode cX11_isSoundWithout 40 = .ok (.iinc 3 1, 3) := by decide +kernel
theorem dX11_isSoundWithout_43 : decode cX11_isSoundWithout 43 = .ok (.goto (-36), 3) := by decide +kernel
theorem dX11_isSoundWithout_46 : decode cX11_isSoundWithout 46 = .ok (.aload_n 0, 1) := by decide +kernel
theorem dX11_isSoundWithout_47 : decode cX11_isSoundWithout 47 = .ok (.invokevirtual 131, 3) := by decide +kernel
theorem dX11_isSoundWithout_50 : decode cX11_isSoundWithout 50 = .ok (.ireturn, 1) := by decide +kernel
theorem dX11_part_0 : decode cX11_part 0 = .ok (.aload_n 0, 1) := by decide +kernel
theorem dX11_part_1 : decode cX11_part 1 = .ok (.iload_n 1, 1) := by decide +kernel
theorem dX11_part_2 : decode cX11_part 2 = .ok (.invokevirtual 185, 3) := by decide +kernel
theorem dX11_part_5 : decode cX11_part 5 = .ok (.ifCond .ne 5, 3) := by decide +kernel
theorem dX11_part_8 : decode cX11_part 8 = .ok (.iconst (-1), 1) := by decide +kernel
theorem dX11_part_9 : decode cX11_part 9 = .ok (.ireturn, 1) := by decide +kernel
theorem dX11_part_10 : decode cX11_part 10 = .ok (.iconst 1, 1) := by decide +kernel
theorem dX11_part_11 : decode cX11_part 11 = .ok (.aload_n 0, 1) := by decide +kernel
theorem dX11_part_12 : decode cX11_part 12 = .ok (.getfield 38, 3) := by decide +kernel
theorem dX11_part_15 : decode cX11_part 15 = .ok (.iload_n 1, 1) := by decide +kernel
theorem dX11_part_16 : decode cX11_part 16 = .ok (.iaload, 1) := by decide +kernel
theorem dX11_part_17 : decode cX11_part 17 = .ok (.ishl, 1) := by decide +kernel
theorem dX11_part_18 : decode cX11_part 18 = .ok (.iconst 1, 1) := by decide +kernel
theorem dX11_part_19 : decode cX11_part 19 = .ok (.isub, 1) := by decide +kernel
theorem dX11_part_20 : decode cX11_part 20 = .ok (.istore_n 2, 1) := by decide +kernel
theorem dX11_part_21 : decode cX11_part 21 = .ok (.iconst 0, 1) := by decide +kernel
theorem dX11_part_22 : decode cX11_part 22 = .ok (.istore_n 3, 1) := by decide +kernel
theorem dX11_part_23 : decode cX11_part 23 = .ok (.iload_n 3, 1) := by decide +kernel
theorem dX11_part_24 : decode cX11_part 24 = .ok (.iconst 1, 1) := by decide +kernel
theorem dX11_part_25 : decode cX11_part 25 = .ok (.aload_n 0, 1) := by decide +kernel
theorem dX11_part_26 : decode cX11_part 26 = .ok (.getfield 38, 3) := by decide +kernel
theorem dX11_part_29 : decode cX11_part 29 = .ok (.iload_n 1, 1) := by decide +kernel
theorem dX11_part_30 : decode cX11_part 30 = .ok (.iaload, 1) := by decide +kernel
theorem dX11_part_31 : decode cX11_part 31 = .ok (.ishl, 1) := by decide +kernel
theorem dX11_part_32 : decode cX11_part 32 = .ok (.if_icmp .ge 65, 3) := by decide +kernel
theorem dX11_part_35 : decode cX11_part 35 = .ok (.iload_n 3, 1) := by decide +kernel
theorem dX11_part_36 : decode cX11_part 36 = .ok (.invokestatic 223, 3) := by decide +kernel
theorem dX11_part_39 : decode cX11_part 39 = .ok (.istore 4, 2) := by decide +kernel
theorem dX11_part_41 : decode cX11_part 41 = .ok (.iload_n 2, 1) := by decide +kernel
theorem dX11_part_42 : decode cX11_part 42 = .ok (.invokestatic 223, 3) := by decide +kernel
theorem dX11_part_45 : decode cX11_part 45 = .ok (.istore 5, 2) := by decide +kernel
theorem dX11_part_47 : decode cX11_part 47 = .ok (.iload_n 3, 1) := by decide +kernel
theorem dX11_part_48 : decode cX11_part 48 = .ok (.iload_n 2, 1) := by decide +kernel
theorem dX11_part_49 : decode cX11_part 49 = .ok (.ixor, 1) := by decide +kernel
theorem dX11_part_50 : decode cX11_part 50 = .ok (.istore 6, 2) := by decide +kernel
theorem dX11_part_52 : decode cX11_part 52 = .ok (.iload 4, 2) := by decide +kernel
theorem dX11_part_54 : decode cX11_part 54 = .ok (.iload 5, 2) := by decide +kernel
theorem dX11_part_56 : decode cX11_part 56 = .ok (.if_icmp .gt 35, 3) := by decide +kernel
theorem dX11_part_59 : decode cX11_part 59 = .ok (.iload 4, 2) := by decide +kernel
theorem dX11_part_61 : decode cX11_part 61 = .ok (.iload 5, 2) := by decide +kernel
theorem dX11_part_63 : decode cX11_part 63 = .ok (.if_icmp .ne 14, 3) := by decide +kernel
theorem dX11_part_66 : decode cX11_part 66 = .ok (.iload_n 3, 1) := by decide +kernel
theorem dX11_part_67 : decode cX11_part 67 = .ok (.iload 6, 2) := by decide +kernel
theorem dX11_part_69 : decode cX11_part 69 = .ok (.iand, 1) := by decide +kernel
theorem dX11_part_70 : decode cX11_part 70 = .ok (.iload 6, 2) := by decide +kernel
theorem dX11_part_72 : decode cX11_part 72 = .ok (.ineg, 1) := by decide +kernel
theorem dX11_part_73 : decode cX11_part 73 = .ok (.iand, 1) := by decide +kernel
theorem dX11_part_74 : decode cX11_part 74 = .ok (.ifCond .eq 17, 3) := by decide +kernel
theorem dX11_part_77 : decode cX11_part 77 = .ok (.aload_n 0, 1) := by decide +kernel
theorem dX11_part_78 : decode cX11_part 78 = .ok (.iload_n 1, 1) := by decide +kernel
theorem dX11_part_79 : decode cX11_part 79 = .ok (.iload_n 3, 1) := by decide +kernel
theorem dX11_part_80 : decode cX11_part 80 = .ok (.invokevirtual 226, 3) := by decide +kernel
theorem dX11_part_83 : decode cX11_part 83 = .ok (.ifCond .ne 6, 3) := by decide +kernel
theorem dX11_part_86 : decode cX11_part 86 = .ok (.goto 5, 3) := by decide +kernel
theorem dX11_part_89 : decode cX11_part 89 = .ok (.iload_n 3, 1) := by decide +kernel
theorem dX11_part_90 : decode cX11_part 90 = .ok (.istore_n 2, 1) := by decide +kernel
theorem dX11_part_91 : decode cX11_part 91 = .ok (.iinc 3 1, 3) := by decide +kernel
theorem dX11_part_94 : decode cX11_part 94 = .ok (.goto (-71), 3) := by decide +kernel
theorem dX11_part_97 : decode cX11_part 97 = .ok (.iload_n 2, 1) := by decide +kernel
theorem dX11_part_98 : decode cX11_part 98 = .ok (.ifCond .ne 5, 3) := by decide +kernel
theorem dX11_part_101 : decode cX11_part 101 = .ok (.iconst 0, 1) := by decide +kernel
theorem dX11_part_102 : decode cX11_part 102 = .ok (.ireturn, 1) := by decide +kernel
theorem dX11_part_103 : decode cX11_part 103 = .ok (.aload_n 0, 1) := by decide +kernel
theorem dX11_part_104 : decode cX11_part 104 = .ok (.invokevirtual 175, 3) := by decide +kernel
theorem dX11_part_107 : decode cX11_part 107 = .ok (.iconst 0, 1) := by decide +kernel
theorem dX11_part_108 : decode cX11_part 108 = .ok (.istore_n 3, 1) := by decide +kernel
theorem dX11_part_109 : decode cX11_part 109 = .ok (.iconst 0, 1) := by decide +kernel
theorem dX11_part_110 : decode cX11_part 110 = .ok (.istore 4, 2) := by decide +kernel
theorem dX11_part_112 : decode cX11_part 112 = .ok (.iload 4, 2) := by decide +kernel
theorem dX11_part_114 : decode cX11_part 114 = .ok (.aload_n 0, 1) := by decide +kernel
theorem dX11_part_115 : decode cX11_part 115 = .ok (.getfield 38, 3) := by decide +kernel
theorem dX11_part_118 : decode cX11_part 118 = .ok (.iload_n 1, 1) := by decide +kernel
theorem dX11_part_119 : decode cX11_part 119 = .ok (.iaload, 1) := by decide +kernel
theorem dX11_part_120 : decode cX11_part 120 = .ok (.if_icmp .ge 48, 3) := by decide +kernel
theorem dX11_part_123 : decode cX11_part 123 = .ok (.iload_n 2, 1) := by decide +kernel
theorem dX11_part_124 : decode cX11_part 124 = .ok (.iload 4, 2) := by decide +kernel
theorem dX11_part_126 : decode cX11_part 126 = .ok (.ishr, 1) := by decide +kernel
theorem dX11_part_127 : decode cX11_part 127 = .ok (.iconst 1, 1) := by decide +kernel
theorem dX11_part_128 : decode cX11_part 128 = .ok (.iand, 1) := by decide +kernel
theorem dX11_part_129 : decode cX11_part 129 = .ok (.iconst 1, 1) := by decide +kernel
theorem dX11_part_130 : decode cX11_part 130 = .ok (.if_icmp .ne 6, 3) := by decide +kernel
theorem dX11_part_133 : decode cX11_part 133 = .ok (.goto 29, 3) := by decide +kernel
theorem dX11_part_136 : decode cX11_part 136 = .ok (.aload_n 0, 1) := by decide +kernel
theorem dX11_part_137 : decode cX11_part 137 = .ok (.getfield 41, 3) := by decide +kernel
theorem dX11_part_140 : decode cX11_part 140 = .ok (.bipush 8, 2) := by decide +kernel
theorem dX11_part_142 : decode cX11_part 142 = .ok (.iload_n 1, 1) := by decide +kernel
theorem dX11_part_143 : decode cX11_part 143 = .ok (.imul, 1) := by decide +kernel
theorem dX11_part_144 : decode cX11_part 144 = .ok (.iload_n 3, 1) := by decide +kernel
theorem dX11_part_145 : decode cX11_part 145 = .ok (.iadd, 1) := by decide +kernel
theorem dX11_part_146 : decode cX11_part 146 = .ok (.aload_n 0, 1) := by decide +kernel
theorem dX11_part_147 : decode cX11_part 147 = .ok (.getfield 41, 3) := by decide +kernel
theorem dX11_part_150 : decode cX11_part 150 = .ok (.bipush 8, 2) := by decide +kernel
theorem dX11_part_152 : decode cX11_part 152 = .ok (.iload_n 1, 1) := by decide +kernel
theorem dX11_part_153 : decode cX11_part 153 = .ok (.imul, 1) := by decide +kernel
theorem dX11_part_154 : decode cX11_part 154 = .ok (.iload 4, 2) := by decide +kernel
theorem dX11_part_156 : decode cX11_part 156 = .ok (.iadd, 1) := by decide +kernel
theorem dX11_part_157 : decode cX11_part 157 = .ok (.iaload, 1) := by decide +kernel
theorem dX11_part_158 : decode cX11_part 158 = .ok (.iastore, 1) := by decide +kernel
theorem dX11_part_159 : decode cX11_part 159 = .ok (.iinc 3 1, 3) := by decide +kernel
theorem dX11_part_162 : decode cX11_part 162 = .ok (.iinc 4 1, 3) := by decide +kernel
theorem dX11_part_165 : decode cX11_part 165 = .ok (.goto (-53), 3) := by decide +kernel
theorem dX11_part_168 : decode cX11_part 168 = .ok (.aload_n 0, 1) := by decide +kernel
theorem dX11_part_169 : decode cX11_part 169 = .ok (.getfield 38, 3) := by decide +kernel
theorem dX11_part_172 : decode cX11_part 172 = .ok (.iload_n 1, 1) := by decide +kernel
theorem dX11_part_173 : decode cX11_part 173 = .ok (.iload_n 3, 1) := by decide +kernel
theorem dX11_part_174 : decode cX11_part 174 = .ok (.iastore, 1) := by decide +kernel
theorem dX11_part_175 : decode cX11_part 175 = .ok (.aload_n 0, 1) := by decide +kernel
theorem dX11_part_176 : decode cX11_part 176 = .ok (.invokevirtual 172, 3) := by decide +kernel
theorem dX11_part_179 : decode cX11_part 179 = .ok (.iload_n 2, 1) := by decide +kernel
theorem dX11_part_180 : decode cX11_part 180 = .ok (.invokestatic 223, 3) := by decide +kernel
theorem dX11_part_183 : decode cX11_part 183 = .ok (.ireturn, 1) := by decide +kernel
theorem dX11_areSame_0 : decode cX11_areSame 0 = .ok (.aload_n 0, 1) := by decide +kernel
theorem dX11_areSame_1 : decode cX11_areSame 1 = .ok (.iload_n 1, 1) := by decide +kernel
theorem dX11_areSame_2 : decode cX11_areSame 2 = .ok (.invokevirtual 127, 3) := by decide +kernel
theorem dX11_areSame_5 : decode cX11_areSame 5 = .ok (.iconst 0, 1) := by decide +kernel
theorem dX11_areSame_6 : decode cX11_areSame 6 = .ok (.istore_n 3, 1) := by decide +kernel
theorem dX11_areSame_7 : decode cX11_areSame 7 = .ok (.iload_n 3, 1) := by decide +kernel
theorem dX11_areSame_8 : decode cX11_areSame 8 = .ok (.aload_n 0, 1) := by decide +kernel
theorem dX11_areSame_9 : decode cX11_areSame 9 = .ok (.getfield 38, 3) := by decide +kernel
theorem dX11_areSame_12 : decode cX11_areSame 12 = .ok (.iload_n 2, 1) := by decide +kernel
theorem dX11_areSame_13 : decode cX11_areSame 13 = .ok (.iaload, 1) := by decide +kernel
theorem dX11_areSame_14 : decode cX11_areSame 14 = .ok (.if_icmp .ge 24, 3) := by decide +kernel
theorem dX11_areSame_17 : decode cX11_areSame 17 = .ok (.aload_n 0, 1) := by decide +kernel
theorem dX11_areSame_18 : decode cX11_areSame 18 = .ok (.aload_n 0, 1) := by decide +kernel
theorem dX11_areSame_19 : decode cX11_areSame 19 = .ok (.getfield 41, 3) := by decide +kernel
theorem dX11_areSame_22 : decode cX11_areSame 22 = .ok (.bipush 8, 2) := by decide +kernel
theorem dX11_areSame_24 : decode cX11_areSame 24 = .ok (.iload_n 2, 1) := by decide +kernel
theorem dX11_areSame_25 : decode cX11_areSame 25 = .ok (.imul, 1) := by decide +kernel
theorem dX11_areSame_26 : decode cX11_areSame 26 = .ok (.iload_n 3, 1) := by decide +kernel
theorem dX11_areSame_27 : decode cX11_areSame 27 = .ok (.iadd, 1) := by decide +kernel
theorem dX11_areSame_28 : decode cX11_areSame 28 = .ok (.iaload, 1) := by decide +kernel
theorem dX11_areSame_29 : decode cX11_areSame 29 = .ok (.invokevirtual 163, 3) := by decide +kernel
theorem dX11_areSame_32 : decode cX11_areSame 32 = .ok (.iinc 3 1, 3) := by decide +kernel
theorem dX11_areSame_35 : decode cX11_areSame 35 = .ok (.goto (-28), 3) := by decide +kernel
theorem dX11_areSame_38 : decode cX11_areSame 38 = .ok (.aload_n 0, 1) := by decide +kernel
theorem dX11_areSame_39 : decode cX11_areSame 39 = .ok (.invokevirtual 131, 3) := by decide +kernel
theorem dX11_areSame_42 : decode cX11_areSame 42 = .ok (.ireturn, 1) := by decide +kernel
theorem dX11_same_0 : decode cX11_same 0 = .ok (.aload_n 0, 1) := by decide +kernel
theorem dX11_same_1 : decode cX11_same 1 = .ok (.iload_n 1, 1) := by decide +kernel
theorem dX11_same_2 : decode cX11_same 2 = .ok (.invokevirtual 185, 3) := by decide +kernel
theorem dX11_same_5 : decode cX11_same 5 = .ok (.ifCond .eq 11, 3) := by decide +kernel
theorem dX11_same_8 : decode cX11_same 8 = .ok (.aload_n 0, 1) := by decide +kernel
theorem dX11_same_9 : decode cX11_same 9 = .ok (.iload_n 2, 1) := by decide +kernel
theorem dX11_same_10 : decode cX11_same 10 = .ok (.invokevirtual 185, 3) := by decide +kernel
theorem dX11_same_13 : decode cX11_same 13 = .ok (.ifCond .ne 5, 3) := by decide +kernel
theorem dX11_same_16 : decode cX11_same 16 = .ok (.iconst (-1), 1) := by decide +kernel
theorem dX11_same_17 : decode cX11_same 17 = .ok (.ireturn, 1) := by decide +kernel
theorem dX11_same_18 : decode cX11_same 18 = .ok (.iload_n 1, 1) := by decide +kernel
theorem dX11_same_19 : decode cX11_same 19 = .ok (.iload_n 2, 1) := by decide +kernel
theorem dX11_same_20 : decode cX11_same 20 = .ok (.if_icmp .ne 6, 3) := by decide +kernel
theorem dX11_same_23 : decode cX11_same 23 = .ok (.bipush (-2), 2) := by decide +kernel
theorem dX11_same_25 : decode cX11_same 25 = .ok (.ireturn, 1) := by decide +kernel
theorem dX11_same_26 : decode cX11_same 26 = .ok (.aload_n 0, 1) := by decide +kernel
theorem dX11_same_27 : decode cX11_same 27 = .ok (.iload_n 1, 1) := by decide +kernel
theorem dX11_same_28 : decode cX11_same 28 = .ok (.iload_n 2, 1) := by decide +kernel
theorem dX11_same_29 : decode cX11_same 29 = .ok (.invokevirtual 229, 3) := by decide +kernel
theorem dX11_same_32 : decode cX11_same 32 = .ok (.ifCond .eq 7, 3) := by decide +kernel
theorem dX11_same_35 : decode cX11_same 35 = .ok (.iconst 1, 1) := by decide +kernel
theorem dX11_same_36 : decode cX11_same 36 = .ok (.goto 4, 3) := by decide +kernel
theorem dX11_same_39 : decode cX11_same 39 = .ok (.iconst 0, 1) := by decide +kernel
theorem dX11_same_40 : decode cX11_same 40 = .ok (.ireturn, 1) := by decide +kernel
theorem dX11_merge_0 : decode cX11_merge 0 = .ok (.aload_n 0, 1) := by decide +kernel
theorem dX11_merge_1 : decode cX11_merge 1 = .ok (.iload_n 1, 1) := by decide +kernel
theorem dX11_merge_2 : decode cX11_merge 2 = .ok (.invokevirtual 185, 3) := by decide +kernel
theorem dX11_merge_5 : decode cX11_merge 5 = .ok (.ifCond .eq 11, 3) := by decide +kernel
theorem dX11_merge_8 : decode cX11_merge 8 = .ok (.aload_n 0, 1) := by decide +kernel
theorem dX11_merge_9 : decode cX11_merge 9 = .ok (.iload_n 2, 1) := by decide +kernel
theorem dX11_merge_10 : decode cX11_merge 10 = .ok (.invokevirtual 185, 3) := by decide +kernel
theorem dX11_merge_13 : decode cX11_merge 13 = .ok (.ifCond .ne 5, 3) := by decide +kernel
theorem dX11_merge_16 : decode cX11_merge 16 = .ok (.iconst (-1), 1) := by decide +kernel
theorem dX11_merge_17 : decode cX11_merge 17 = .ok (.ireturn, 1) := by decide +kernel
theorem dX11_merge_18 : decode cX11_merge 18 = .ok (.iload_n 1, 1) := by decide +kernel
theorem dX11_merge_19 : decode cX11_merge 19 = .ok (.iload_n 2, 1) := by decide +kernel
theorem dX11_merge_20 : decode cX11_merge 20 = .ok (.if_icmp .ne 6, 3) := by decide +kernel
theorem dX11_merge_23 : decode cX11_merge 23 = .ok (.bipush (-2), 2) := by decide +kernel
theorem dX11_merge_25 : decode cX11_merge 25 = .ok (.ireturn, 1) := by decide +kernel
theorem dX11_merge_26 : decode cX11_merge 26 = .ok (.aload_n 0, 1) := by decide +kernel
theorem dX11_merge_27 : decode cX11_merge 27 = .ok (.iload_n 1, 1) := by decide +kernel
theorem dX11_merge_28 : decode cX11_merge 28 = .ok (.iload_n 2, 1) := by decide +kernel
theorem dX11_merge_29 : decode cX11_merge 29 = .ok (.invokevirtual 229, 3) := by decide +kernel
theorem dX11_merge_32 : decode cX11_merge 32 = .ok (.ifCond .ne 6, 3) := by decide +kernel
theorem dX11_merge_35 : decode cX11_merge 35 = .ok (.bipush (-3), 2) := by decide +kernel
theorem dX11_merge_37 : decode cX11_merge 37 = .ok (.ireturn, 1) := by decide +kernel
theorem dX11_merge_38 : decode cX11_merge 38 = .ok (.aload_n 0, 1) := by decide +kernel
theorem dX11_merge_39 : decode cX11_merge 39 = .ok (.getfield 38, 3) := by decide +kernel
theorem dX11_merge_42 : decode cX11_merge 42 = .ok (.iload_n 1, 1) := by decide +kernel
theorem dX11_merge_43 : decode cX11_merge 43 = .ok (.iaload, 1) := by decide +kernel
theorem dX11_merge_44 : decode cX11_merge 44 = .ok (.aload_n 0, 1) := by decide +kernel
theorem dX11_merge_45 : decode cX11_merge 45 = .ok (.getfield 38, 3) := by decide +kernel
theorem dX11_merge_48 : decode cX11_merge 48 = .ok (.iload_n 2, 1) := by decide +kernel
theorem dX11_merge_49 : decode cX11_merge 49 = .ok (.iaload, 1) := by decide +kernel
theorem dX11_merge_50 : decode cX11_merge 50 = .ok (.iadd, 1) := by decide +kernel
theorem dX11_merge_51 : decode cX11_merge 51 = .ok (.bipush 8, 2) := by decide +kernel
theorem dX11_merge_53 : decode cX11_merge 53 = .ok (.if_icmp .le 6, 3) := by decide +kernel
theorem dX11_merge_56 : decode cX11_merge 56 = .ok (.bipush (-4), 2) := by decide +kernel
theorem dX11_merge_58 : decode cX11_merge 58 = .ok (.ireturn, 1) := by decide +kernel
theorem dX11_merge_59 : decode cX11_merge 59 = .ok (.aload_n 0, 1) := by decide +kernel
theorem dX11_merge_60 : decode cX11_merge 60 = .ok (.invokevirtual 175, 3) := by decide +kernel
theorem dX11_merge_63 : decode cX11_merge 63 = .ok (.iload_n 1, 1) := by decide +kernel
theorem dX11_merge_64 : decode cX11_merge 64 = .ok (.iload_n 2, 1) := by decide +kernel
theorem dX11_merge_65 : decode cX11_merge 65 = .ok (.invokestatic 108, 3) := by decide +kernel
theorem dX11_merge_68 : decode cX11_merge 68 = .ok (.istore_n 3, 1) := by decide +kernel
theorem dX11_merge_69 : decode cX11_merge 69 = .ok (.iload_n 1, 1) := by decide +kernel
theorem dX11_merge_70 : decode cX11_merge 70 = .ok (.iload_n 2, 1) := by decide +kernel
theorem dX11_merge_71 : decode cX11_merge 71 = .ok (.invokestatic 103, 3) := by decide +kernel
theorem dX11_merge_74 : decode cX11_merge 74 = .ok (.istore 4, 2) := by decide +kernel
theorem dX11_merge_76 : decode cX11_merge 76 = .ok (.iconst 0, 1) := by decide +kernel
theorem dX11_merge_77 : decode cX11_merge 77 = .ok (.istore 5, 2) := by decide +kernel
theorem dX11_merge_79 : decode cX11_merge 79 = .ok (.iload 5, 2) := by decide +kernel
theorem dX11_merge_81 : decode cX11_merge 81 = .ok (.aload_n 0, 1) := by decide +kernel
theorem dX11_merge_82 : decode cX11_merge 82 = .ok (.getfield 38, 3) := by decide +kernel
theorem dX11_merge_85 : decode cX11_merge 85 = .ok (.iload 4, 2) := by decide +kernel
theorem dX11_merge_87 : decode cX11_merge 87 = .ok (.iaload, 1) := by decide +kernel
theorem dX11_merge_88 : decode cX11_merge 88 = .ok (.if_icmp .ge 27, 3) := by decide +kernel
theorem dX11_merge_91 : decode cX11_merge 91 = .ok (.aload_n 0, 1) := by decide +kernel
theorem dX11_merge_92 : decode cX11_merge 92 = .ok (.iload_n 3, 1) := by decide +kernel
theorem dX11_merge_93 : decode cX11_merge 93 = .ok (.aload_n 0, 1) := by decide +kernel
theorem dX11_merge_94 : decode cX11_merge 94 = .ok (.getfield 41, 3) := by decide +kernel
theorem dX11_merge_97 : decode cX11_merge 97 = .ok (.bipush 8, 2) := by decide +kernel
theorem dX11_merge_99 : decode cX11_merge 99 = .ok (.iload 4, 2) := by decide +kernel
theorem dX11_merge_101 : decode cX11_merge 101 = .ok (.imul, 1) := by decide +kernel
theorem dX11_merge_102 : decode cX11_merge 102 = .ok (.iload 5, 2) := by decide +kernel
theorem dX11_merge_104 : decode cX11_merge 104 = .ok (.iadd, 1) := by decide +kernel
theorem dX11_merge_105 : decode cX11_merge 105 = .ok (.iaload, 1) := by decide +kernel
theorem dX11_merge_106 : decode cX11_merge 106 = .ok (.invokevirtual 181, 3) := by decide +kernel
theorem dX11_merge_109 : decode cX11_merge 109 = .ok (.iinc 5 1, 3) := by decide +kernel
theorem dX11_merge_112 : decode cX11_merge 112 = .ok (.goto (-33), 3) := by decide +kernel
theorem dX11_merge_115 : decode cX11_merge 115 = .ok (.aload_n 0, 1) := by decide +kernel
theorem dX11_merge_116 : decode cX11_merge 116 = .ok (.getfield 38, 3) := by decide +kernel
theorem dX11_merge_119 : decode cX11_merge 119 = .ok (.iload 4, 2) := by decide +kernel
theorem dX11_merge_121 : decode cX11_merge 121 = .ok (.iconst 0, 1) := by decide +kernel
theorem dX11_merge_122 : decode cX11_merge 122 = .ok (.iastore, 1) := by decide +kernel
theorem dX11_merge_123 : decode cX11_merge 123 = .ok (.aload_n 0, 1) := by decide +kernel
theorem dX11_merge_124 : decode cX11_merge 124 = .ok (.getfield 44, 3) := by decide +kernel
theorem dX11_merge_127 : decode cX11_merge 127 = .ok (.iload 4, 2) := by decide +kernel
theorem dX11_merge_129 : decode cX11_merge 129 = .ok (.iconst 1, 1) := by decide +kernel
theorem dX11_merge_130 : decode cX11_merge 130 = .ok (.bastore, 1) := by decide +kernel
theorem dX11_merge_131 : decode cX11_merge 131 = .ok (.iload_n 3, 1) := by decide +kernel
theorem dX11_merge_132 : decode cX11_merge 132 = .ok (.ireturn, 1) := by decide +kernel
theorem dX11_count_0 : decode cX11_count 0 = .ok (.iconst 0, 1) := by decide +kernel
theorem dX11_count_1 : decode cX11_count 1 = .ok (.istore_n 2, 1) := by decide +kernel
theorem dX11_count_2 : decode cX11_count 2 = .ok (.iload_n 1, 1) := by decide +kernel
theorem dX11_count_3 : decode cX11_count 3 = .ok (.tableswitch 146 0 7 #[45, 50, 86, 121, 126, 131, 136, 141], 45) := by decide +kernel
theorem dX11_count_48 : decode cX11_count 48 = .ok (.aload_n 0, 1) := by decide +kernel
theorem dX11_count_49 : decode cX11_count 49 = .ok (.getfield 75, 3) := by decide +kernel
theorem dX11_count_52 : decode cX11_count 52 = .ok (.ireturn, 1) := by decide +kernel
theorem dX11_count_53 : decode cX11_count 53 = .ok (.iconst 0, 1) := by decide +kernel
theorem dX11_count_54 : decode cX11_count 54 = .ok (.istore_n 3, 1) := by decide +kernel
theorem dX11_count_55 : decode cX11_count 55 = .ok (.iload_n 3, 1) := by decide +kernel
theorem dX11_count_56 : decode cX11_count 56 = .ok (.aload_n 0, 1) := by decide +kernel
theorem dX11_count_57 : decode cX11_count 57 = .ok (.getfield 75, 3) := by decide +kernel
theorem dX11_count_60 : decode cX11_count 60 = .ok (.if_icmp .ge 27, 3) := by decide +kernel
theorem dX11_count_63 : decode cX11_count 63 = .ok (.iload_n 2, 1) := by decide +kernel
theorem dX11_count_64 : decode cX11_count 64 = .ok (.aload_n 0, 1) := by decide +kernel
theorem dX11_count_65 : decode cX11_count 65 = .ok (.getfield 32, 3) := by decide +kernel
theorem dX11_count_68 : decode cX11_count 68 = .ok (.iload_n 3, 1) := by decide +kernel
theorem dX11_count_69 : decode cX11_count 69 = .ok (.iaload, 1) := by decide +kernel
theorem dX11_count_70 : decode cX11_count 70 = .ok (.iconst (-1), 1) := by decide +kernel
theorem dX11_count_71 : decode cX11_count 71 = .ok (.if_icmp .ne 7, 3) := by decide +kernel
theorem dX11_count_74 : decode cX11_count 74 = .ok (.iconst 1, 1) := by decide +kernel
theorem dX11_count_75 : decode cX11_count 75 = .ok (.goto 4, 3) := by decide +kernel
theorem dX11_count_78 : decode cX11_count 78 = .ok (.iconst 0, 1) := by decide +kernel
theorem dX11_count_79 : decode cX11_count 79 = .ok (.iadd, 1) := by decide +kernel
theorem dX11_count_80 : decode cX11_count 80 = .ok (.istore_n 2, 1) := by decide +kernel
theorem dX11_count_81 : decode cX11_count 81 = .ok (.iinc 3 1, 3) := by decide +kernel
theorem dX11_count_84 : decode cX11_count 84 = .ok (.goto (-29), 3) := by decide +kernel
theorem dX11_count_87 : decode cX11_count 87 = .ok (.iload_n 2, 1) := by decide +kernel
theorem dX11_count_88 : decode cX11_count 88 = .ok (.ireturn, 1) := by decide +kernel
theorem dX11_count_89 : decode cX11_count 89 = .ok (.iconst 0, 1) := by decide +kernel
theorem dX11_count_90 : decode cX11_count 90 = .ok (.istore_n 3, 1) := by decide +kernel
theorem dX11_count_91 : decode cX11_count 91 = .ok (.iload_n 3, 1) := by decide +kernel
theorem dX11_count_92 : decode cX11_count 92 = .ok (.aload_n 0, 1) := by decide +kernel
theorem dX11_count_93 : decode cX11_count 93 = .ok (.getfield 82, 3) := by decide +kernel
theorem dX11_count_96 : decode cX11_count 96 = .ok (.if_icmp .ge 26, 3) := by decide +kernel
theorem dX11_count_99 : decode cX11_count 99 = .ok (.iload_n 2, 1) := by decide +kernel
theorem dX11_count_100 : decode cX11_count 100 = .ok (.aload_n 0, 1) := by decide +kernel
theorem dX11_count_101 : decode cX11_count 101 = .ok (.getfield 44, 3) := by decide +kernel
theorem dX11_count_104 : decode cX11_count 104 = .ok (.iload_n 3, 1) := by decide +kernel
theorem dX11_count_105 : decode cX11_count 105 = .ok (.baload, 1) := by decide +kernel
theorem dX11_count_106 : decode cX11_count 106 = .ok (.ifCond .eq 7, 3) := by decide +kernel
theorem dX11_count_109 : decode cX11_count 109 = .ok (.iconst 0, 1) := by decide +kernel
theorem dX11_count_110 : decode cX11_count 110 = .ok (.goto 4, 3) := by decide +kernel
theorem dX11_count_113 : decode cX11_count 113 = .ok (.iconst 1, 1) := by decide +kernel
theorem dX11_count_114 : decode cX11_count 114 = .ok (.iadd, 1) := by decide +kernel
theorem dX11_count_115 : decode cX11_count 115 = .ok (.istore_n 2, 1) := by decide +kernel
theorem dX11_count_116 : decode cX11_count 116 = .ok (.iinc 3 1, 3) := by decide +kernel
theorem dX11_count_119 : decode cX11_count 119 = .ok (.goto (-28), 3) := by decide +kernel
theorem dX11_count_122 : decode cX11_count 122 = .ok (.iload_n 2, 1) := by decide +kernel
theorem dX11_count_123 : decode cX11_count 123 = .ok (.ireturn, 1) := by decide +kernel
theorem dX11_count_124 : decode cX11_count 124 = .ok (.aload_n 0, 1) := by decide +kernel
theorem dX11_count_125 : decode cX11_count 125 = .ok (.getfield 82, 3) := by decide +kernel
theorem dX11_count_128 : decode cX11_count 128 = .ok (.ireturn, 1) := by decide +kernel
theorem dX11_count_129 : decode cX11_count 129 = .ok (.aload_n 0, 1) := by decide +kernel
theorem dX11_count_130 : decode cX11_count 130 = .ok (.getfield 7, 3) := by decide +kernel
theorem dX11_count_133 : decode cX11_count 133 = .ok (.ireturn, 1) := by decide +kernel
theorem dX11_count_134 : decode cX11_count 134 = .ok (.aload_n 0, 1) := by decide +kernel
theorem dX11_count_135 : decode cX11_count 135 = .ok (.getfield 13, 3) := by decide +kernel
theorem dX11_count_138 : decode cX11_count 138 = .ok (.ireturn, 1) := by decide +kernel
theorem dX11_count_139 : decode cX11_count 139 = .ok (.aload_n 0, 1) := by decide +kernel
theorem dX11_count_140 : decode cX11_count 140 = .ok (.getfield 16, 3) := by decide +kernel
theorem dX11_count_143 : decode cX11_count 143 = .ok (.ireturn, 1) := by decide +kernel
theorem dX11_count_144 : decode cX11_count 144 = .ok (.aload_n 0, 1) := by decide +kernel
theorem dX11_count_145 : decode cX11_count 145 = .ok (.getfield 85, 3) := by decide +kernel
theorem dX11_count_148 : decode cX11_count 148 = .ok (.ireturn, 1) := by decide +kernel
theorem dX11_count_149 : decode cX11_count 149 = .ok (.iconst (-1), 1) := by decide +kernel
theorem dX11_count_150 : decode cX11_count 150 = .ok (.ireturn, 1) := by decide +kernel
end
section
theorem dL_law_0 : decode cL_law 0 = .ok (.new 7, 3) := by decide +kernel
theorem dL_law_3 : decode cL_law 3 = .ok (.dup, 1) := by decide +kernel
theorem dL_law_4 : decode cL_law 4 = .ok (.invokespecial 9, 3) := by decide +kernel
theorem dL_law_7 : decode cL_law 7 = .ok (.astore_n 1, 1) := by decide +kernel
theorem dL_law_8 : decode cL_law 8 = .ok (.new 10, 3) := by decide +kernel
theorem dL_law_11 : decode cL_law 11 = .ok (.dup, 1) := by decide +kernel
theorem dL_law_12 : decode cL_law 12 = .ok (.invokespecial 12, 3) := by decide +kernel
theorem dL_law_15 : decode cL_law 15 = .ok (.astore_n 2, 1) := by decide +kernel
theorem dL_law_16 : decode cL_law 16 = .ok (.iconst 0, 1) := by decide +kernel
theorem dL_law_17 : decode cL_law 17 = .ok (.istore_n 3, 1) := by decide +kernel
theorem dL_law_18 : decode cL_law 18 = .ok (.iload_n 3, 1) := by decide +kernel
theorem dL_law_19 : decode cL_law 19 = .ok (.aload_n 0, 1) := by decide +kernel
theorem dL_law_20 : decode cL_law 20 = .ok (.arraylength, 1) := by decide +kernel
theorem dL_law_21 : decode cL_law 21 = .ok (.iconst 5, 1) := by decide +kernel
theorem dL_law_22 : decode cL_law 22 = .ok (.isub, 1) := by decide +kernel
theorem dL_law_23 : decode cL_law 23 = .ok (.if_icmp .gt 883, 3) := by decide +kernel
theorem dL_law_26 : decode cL_law 26 = .ok (.aload_n 0, 1) := by decide +kernel
theorem dL_law_27 : decode cL_law 27 = .ok (.iload_n 3, 1) := by decide +kernel
theorem dL_law_28 : decode cL_law 28 = .ok (.iaload, 1) := by decide +kernel
theorem dL_law_29 : decode cL_law 29 = .ok (.bipush 31, 2) := by decide +kernel
theorem dL_law_31 : decode cL_law 31 = .ok (.iand, 1) := by decide +kernel
theorem dL_law_32 : decode cL_law 32 = .ok (.tableswitch 868 0 23 #[112, 165, 188, 221, 254, 267, 300, 313, 346, 379, 412, 445, 478, 511, 544, 568, 612, 635, 689, 743, 766, 799, 832, 845], 112) := by decide +kernel
theorem dL_law_144 : decode cL_law 144 = .ok (.aload_n 1, 1) := by decide +kernel
theorem dL_law_145 : decode cL_law 145 = .ok (.aload_n 0, 1) := by decide +kernel
theorem dL_law_146 : decode cL_law 146 = .ok (.iload_n 3, 1) := by decide +kernel
theorem dL_law_147 : decode cL_law 147 = .ok (.iconst 1, 1) := by decide +kernel
theorem dL_law_148 : decode cL_law 148 = .ok (.iadd, 1) := by decide +kernel
theorem dL_law_149 : decode cL_law 149 = .ok (.iaload, 1) := by decide +kernel
theorem dL_law_150 : decode cL_law 150 = .ok (.aload_n 0, 1) := by decide +kernel
theorem dL_law_151 : decode cL_law 151 = .ok (.iload_n 3, 1) := by decide +kernel
theorem dL_law_152 : decode cL_law 152 = .ok (.iconst 2, 1) := by decide +kernel
theorem dL_law_153 : decode cL_law 153 = .ok (.iadd, 1) := by decide +kernel
theorem dL_law_154 : decode cL_law 154 = .ok (.iaload, 1) := by decide +kernel
theorem dL_law_155 : decode cL_law 155 = .ok (.aload_n 0, 1) := by decide +kernel
theorem dL_law_156 : decode cL_law 156 = .ok (.iload_n 3, 1) := by decide +kernel
theorem dL_law_157 : decode cL_law 157 = .ok (.iconst 3, 1) := by decide +kernel
theorem dL_law_158 : decode cL_law 158 = .ok (.iadd, 1) := by decide +kernel
theorem dL_law_159 : decode cL_law 159 = .ok (.iaload, 1) := by decide +kernel
theorem dL_law_160 : decode cL_law 160 = .ok (.aload_n 0, 1) := by decide +kernel
theorem dL_law_161 : decode cL_law 161 = .ok (.iload_n 3, 1) := by decide +kernel
theorem dL_law_162 : decode cL_law 162 = .ok (.iconst 4, 1) := by decide +kernel
theorem dL_law_163 : decode cL_law 163 = .ok (.iadd, 1) := by decide +kernel
theorem dL_law_164 : decode cL_law 164 = .ok (.iaload, 1) := by decide +kernel
theorem dL_law_165 : decode cL_law 165 = .ok (.invokevirtual 13, 3) := by decide +kernel
theorem dL_law_168 : decode cL_law 168 = .ok (.aload_n 2, 1) := by decide +kernel
theorem dL_law_169 : decode cL_law 169 = .ok (.aload_n 0, 1) := by decide +kernel
theorem dL_law_170 : decode cL_law 170 = .ok (.iload_n 3, 1) := by decide +kernel
theorem dL_law_171 : decode cL_law 171 = .ok (.iconst 1, 1) := by decide +kernel
theorem dL_law_172 : decode cL_law 172 = .ok (.iadd, 1) := by decide +kernel
theorem dL_law_173 : decode cL_law 173 = .ok (.iaload, 1) := by decide +kernel
theorem dL_law_174 : decode cL_law 174 = .ok (.aload_n 0, 1) := by decide +kernel
theorem dL_law_175 : decode cL_law 175 = .ok (.iload_n 3, 1) := by decide +kernel
theorem dL_law_176 : decode cL_law 176 = .ok (.iconst 2, 1) := by decide +kernel
theorem dL_law_177 : decode cL_law 177 = .ok (.iadd, 1) := by decide +kernel
theorem dL_law_178 : decode cL_law 178 = .ok (.iaload, 1) := by decide +kernel
theorem dL_law_179 : decode cL_law 179 = .ok (.aload_n 0, 1) := by decide +kernel
theorem dL_law_180 : decode cL_law 180 = .ok (.iload_n 3, 1) := by decide +kernel
theorem dL_law_181 : decode cL_law 181 = .ok (.iconst 3, 1) := by decide +kernel
theorem dL_law_182 : decode cL_law 182 = .ok (.iadd, 1) := by decide +kernel
theorem dL_law_183 : decode cL_law 183 = .ok (.iaload, 1) := by decide +kernel
theorem dL_law_184 : decode cL_law 184 = .ok (.aload_n 0, 1) := by decide +kernel
theorem dL_law_185 : decode cL_law 185 = .ok (.iload_n 3, 1) := by decide +kernel
theorem dL_law_186 : decode cL_law 186 = .ok (.iconst 4, 1) := by decide +kernel
theorem dL_law_187 : decode cL_law 187 = .ok (.iadd, 1) := by decide +kernel
theorem dL_law_188 : decode cL_law 188 = .ok (.iaload, 1) := by decide +kernel
theorem dL_law_189 : decode cL_law 189 = .ok (.invokevirtual 17, 3) := by decide +kernel
theorem dL_law_192 : decode cL_law 192 = .ok (.if_icmp .eq 708, 3) := by decide +kernel
theorem dL_law_195 : decode cL_law 195 = .ok (.iconst 0, 1) := by decide +kernel
theorem dL_law_196 : decode cL_law 196 = .ok (.ireturn, 1) := by decide +kernel
theorem dL_law_197 : decode cL_law 197 = .ok (.aload_n 1, 1) := by decide +kernel
theorem dL_law_198 : decode cL_law 198 = .ok (.aload_n 0, 1) := by decide +kernel
theorem dL_law_199 : decode cL_law 199 = .ok (.iload_n 3, 1) := by decide +kernel
theorem dL_law_200 : decode cL_law 200 = .ok (.iconst 1, 1) := by decide +kernel
theorem dL_law_201 : decode cL_law 201 = .ok (.iadd, 1) := by decide +kernel
theorem dL_law_202 : decode cL_law 202 = .ok (.iaload, 1) := by decide +kernel
theorem dL_law_203 : decode cL_law 203 = .ok (.invokevirtual 18, 3) := by decide +kernel
theorem dL_law_206 : decode cL_law 206 = .ok (.aload_n 2, 1) := by decide +kernel
theorem dL_law_207 : decode cL_law 207 = .ok (.aload_n 0, 1) := by decide +kernel
theorem dL_law_208 : decode cL_law 208 = .ok (.iload_n 3, 1) := by decide +kernel
theorem dL_law_209 : decode cL_law 209 = .ok (.iconst 1, 1) := by decide +kernel
theorem dL_law_210 : decode cL_law 210 = .ok (.iadd, 1) := by decide +kernel
theorem dL_law_211 : decode cL_law 211 = .ok (.iaload, 1) := by decide +kernel
theorem dL_law_212 : decode cL_law 212 = .ok (.invokevirtual 22, 3) := by decide +kernel
theorem dL_law_215 : decode cL_law 215 = .ok (.if_icmp .eq 685, 3) := by decide +kernel
theorem dL_law_218 : decode cL_law 218 = .ok (.iconst 0, 1) := by decide +kernel
theorem dL_law_219 : decode cL_law 219 = .ok (.ireturn, 1) := by decide +kernel
theorem dL_law_220 : decode cL_law 220 = .ok (.aload_n 1, 1) := by decide +kernel
theorem dL_law_221 : decode cL_law 221 = .ok (.aload_n 0, 1) := by decide +kernel
theorem dL_law_222 : decode cL_law 222 = .ok (.iload_n 3, 1) := by decide +kernel
theorem dL_law_223 : decode cL_law 223 = .ok (.iconst 1, 1) := by decide +kernel
theorem dL_law_224 : decode cL_law 224 = .ok (.iadd, 1) := by decide +kernel
theorem dL_law_225 : decode cL_law 225 = .ok (.iaload, 1) := by decide +kernel
theorem dL_law_226 : decode cL_law 226 = .ok (.aload_n 0, 1) := by decide +kernel
theorem dL_law_227 : decode cL_law 227 = .ok (.iload_n 3, 1) := by decide +kernel
theorem dL_law_228 : decode cL_law 228 = .ok (.iconst 2, 1) := by decide +kernel
theorem dL_law_229 : decode cL_law 229 = .ok (.iadd, 1) := by decide +kernel
theorem dL_law_230 : decode cL_law 230 = .ok (.iaload, 1) := by decide +kernel
theorem dL_law_231 : decode cL_law 231 = .ok (.invokevirtual 23, 3) := by decide +kernel
theorem dL_law_234 : decode cL_law 234 = .ok (.aload_n 2, 1) := by decide +kernel
theorem dL_law_235 : decode cL_law 235 = .ok (.aload_n 0, 1) := by decide +kernel
theorem dL_law_236 : decode cL_law 236 = .ok (.iload_n 3, 1) := by decide +kernel
theorem dL_law_237 : decode cL_law 237 = .ok (.iconst 1, 1) := by decide +kernel
theorem dL_law_238 : decode cL_law 238 = .ok (.iadd, 1) := by decide +kernel
theorem dL_law_239 : decode cL_law 239 = .ok (.iaload, 1) := by decide +kernel
theorem dL_law_240 : decode cL_law 240 = .ok (.aload_n 0, 1) := by decide +kernel
theorem dL_law_241 : decode cL_law 241 = .ok (.iload_n 3, 1) := by decide +kernel
theorem dL_law_242 : decode cL_law 242 = .ok (.iconst 2, 1) := by decide +kernel
theorem dL_law_243 : decode cL_law 243 = .ok (.iadd, 1) := by decide +kernel
theorem dL_law_244 : decode cL_law 244 = .ok (.iaload, 1) := by decide +kernel
theorem dL_law_245 : decode cL_law 245 = .ok (.invokevirtual 27, 3) := by decide +kernel
theorem dL_law_248 : decode cL_law 248 = .ok (.if_icmp .eq 652, 3) := by decide +kernel
theorem dL_law_251 : decode cL_law 251 = .ok (.iconst 0, 1) := by decide +kernel
theorem dL_law_252 : decode cL_law 252 = .ok (.ireturn, 1) := by decide +kernel
theorem dL_law_253 : decode cL_law 253 = .ok (.aload_n 1, 1) := by decide +kernel
theorem dL_law_254 : decode cL_law 254 = .ok (.aload_n 0, 1) := by decide +kernel
theorem dL_law_255 : decode cL_law 255 = .ok (.iload_n 3, 1) := by decide +kernel
theorem dL_law_256 : decode cL_law 256 = .ok (.iconst 1, 1) := by decide +kernel
theorem dL_law_257 : decode cL_law 257 = .ok (.iadd, 1) := by decide +kernel
theorem dL_law_258 : decode cL_law 258 = .ok (.iaload, 1) := by decide +kernel
theorem dL_law_259 : decode cL_law 259 = .ok (.aload_n 0, 1) := by decide +kernel
theorem dL_law_260 : decode cL_law 260 = .ok (.iload_n 3, 1) := by decide +kernel
theorem dL_law_261 : decode cL_law 261 = .ok (.iconst 2, 1) := by decide +kernel
theorem dL_law_262 : decode cL_law 262 = .ok (.iadd, 1) := by decide +kernel
theorem dL_law_263 : decode cL_law 263 = .ok (.iaload, 1) := by decide +kernel
theorem dL_law_264 : decode cL_law 264 = .ok (.invokevirtual 28, 3) := by decide +kernel
theorem dL_law_267 : decode cL_law 267 = .ok (.aload_n 2, 1) := by decide +kernel
theorem dL_law_268 : decode cL_law 268 = .ok (.aload_n 0, 1) := by decide +kernel
theorem dL_law_269 : decode cL_law 269 = .ok (.iload_n 3, 1) := by decide +kernel
theorem dL_law_270 : decode cL_law 270 = .ok (.iconst 1, 1) := by decide +kernel
theorem dL_law_271 : decode cL_law 271 = .ok (.iadd, 1) := by decide +kernel
theorem dL_law_272 : decode cL_law 272 = .ok (.iaload, 1) := by decide +kernel
theorem dL_law_273 : decode cL_law 273 = .ok (.aload_n 0, 1) := by decide +kernel
theorem dL_law_274 : decode cL_law 274 = .ok (.iload_n 3, 1) := by decide +kernel
theorem dL_law_275 : decode cL_law 275 = .ok (.iconst 2, 1) := by decide +kernel
theorem dL_law_276 : decode cL_law 276 = .ok (.iadd, 1) := by decide +kernel
theorem dL_law_277 : decode cL_law 277 = .ok (.iaload, 1) := by decide +kernel
theorem dL_law_278 : decode cL_law 278 = .ok (.invokevirtual 31, 3) := by decide +kernel
theorem dL_law_281 : decode cL_law 281 = .ok (.if_icmp .eq 619, 3) := by decide +kernel
theorem dL_law_284 : decode cL_law 284 = .ok (.iconst 0, 1) := by decide +kernel
theorem dL_law_285 : decode cL_law 285 = .ok (.ireturn, 1) := by decide +kernel
theorem dL_law_286 : decode cL_law 286 = .ok (.aload_n 1, 1) := by decide +kernel
theorem dL_law_287 : decode cL_law 287 = .ok (.invokevirtual 32, 3) := by decide +kernel
theorem dL_law_290 : decode cL_law 290 = .ok (.aload_n 2, 1) := by decide +kernel
theorem dL_law_291 : decode cL_law 291 = .ok (.invokevirtual 36, 3) := by decide +kernel
theorem dL_law_294 : decode cL_law 294 = .ok (.if_icmp .eq 606, 3) := by decide +kernel
theorem dL_law_297 : decode cL_law 297 = .ok (.iconst 0, 1) := by decide +kernel
theorem dL_law_298 : decode cL_law 298 = .ok (.ireturn, 1) := by decide +kernel
theorem dL_law_299 : decode cL_law 299 = .ok (.aload_n 1, 1) := by decide +kernel
theorem dL_law_300 : decode cL_law 300 = .ok (.aload_n 0, 1) := by decide +kernel
theorem dL_law_301 : decode cL_law 301 = .ok (.iload_n 3, 1) := by decide +kernel
theorem dL_law_302 : decode cL_law 302 = .ok (.iconst 1, 1) := by decide +kernel
theorem dL_law_303 : decode cL_law 303 = .ok (.iadd, 1) := by decide +kernel
theorem dL_law_304 : decode cL_law 304 = .ok (.iaload, 1) := by decide +kernel
theorem dL_law_305 : decode cL_law 305 = .ok (.aload_n 0, 1) := by decide +kernel
theorem dL_law_306 : decode cL_law 306 = .ok (.iload_n 3, 1) := by decide +kernel
theorem dL_law_307 : decode cL_law 307 = .ok (.iconst 2, 1) := by decide +kernel
theorem dL_law_308 : decode cL_law 308 = .ok (.iadd, 1) := by decide +kernel
theorem dL_law_309 : decode cL_law 309 = .ok (.iaload, 1) := by decide +kernel
theorem dL_law_310 : decode cL_law 310 = .ok (.invokevirtual 37, 3) := by decide +kernel
theorem dL_law_313 : decode cL_law 313 = .ok (.aload_n 2, 1) := by decide +kernel
theorem dL_law_314 : decode cL_law 314 = .ok (.aload_n 0, 1) := by decide +kernel
theorem dL_law_315 : decode cL_law 315 = .ok (.iload_n 3, 1) := by decide +kernel
theorem dL_law_316 : decode cL_law 316 = .ok (.iconst 1, 1) := by decide +kernel
theorem dL_law_317 : decode cL_law 317 = .ok (.iadd, 1) := by decide +kernel
theorem dL_law_318 : decode cL_law 318 = .ok (.iaload, 1) := by decide +kernel
theorem dL_law_319 : decode cL_law 319 = .ok (.aload_n 0, 1) := by decide +kernel
theorem dL_law_320 : decode cL_law 320 = .ok (.iload_n 3, 1) := by decide +kernel
theorem dL_law_321 : decode cL_law 321 = .ok (.iconst 2, 1) := by decide +kernel
theorem dL_law_322 : decode cL_law 322 = .ok (.iadd, 1) := by decide +kernel
theorem dL_law_323 : decode cL_law 323 = .ok (.iaload, 1) := by decide +kernel
theorem dL_law_324 : decode cL_law 324 = .ok (.invokevirtual 40, 3) := by decide +kernel
theorem dL_law_327 : decode cL_law 327 = .ok (.if_icmp .eq 573, 3) := by decide +kernel
theorem dL_law_330 : decode cL_law 330 = .ok (.iconst 0, 1) := by decide +kernel
theorem dL_law_331 : decode cL_law 331 = .ok (.ireturn, 1) := by decide +kernel
theorem dL_law_332 : decode cL_law 332 = .ok (.aload_n 1, 1) := by decide +kernel
theorem dL_law_333 : decode cL_law 333 = .ok (.invokevirtual 41, 3) := by decide +kernel
theorem dL_law_336 : decode cL_law 336 = .ok (.aload_n 2, 1) := by decide +kernel
theorem dL_law_337 : decode cL_law 337 = .ok (.invokevirtual 44, 3) := by decide +kernel
theorem dL_law_340 : decode cL_law 340 = .ok (.if_icmp .eq 560, 3) := by decide +kernel
theorem dL_law_343 : decode cL_law 343 = .ok (.iconst 0, 1) := by decide +kernel
theorem dL_law_344 : decode cL_law 344 = .ok (.ireturn, 1) := by decide +kernel
theorem dL_law_345 : decode cL_law 345 = .ok (.aload_n 1, 1) := by decide +kernel
theorem dL_law_346 : decode cL_law 346 = .ok (.aload_n 0, 1) := by decide +kernel
theorem dL_law_347 : decode cL_law 347 = .ok (.iload_n 3, 1) := by decide +kernel
theorem dL_law_348 : decode cL_law 348 = .ok (.iconst 1, 1) := by decide +kernel
theorem dL_law_349 : decode cL_law 349 = .ok (.iadd, 1) := by decide +kernel
theorem dL_law_350 : decode cL_law 350 = .ok (.iaload, 1) := by decide +kernel
theorem dL_law_351 : decode cL_law 351 = .ok (.aload_n 0, 1) := by decide +kernel
theorem dL_law_352 : decode cL_law 352 = .ok (.iload_n 3, 1) := by decide +kernel
theorem dL_law_353 : decode cL_law 353 = .ok (.iconst 2, 1) := by decide +kernel
theorem dL_law_354 : decode cL_law 354 = .ok (.iadd, 1) := by decide +kernel
theorem dL_law_355 : decode cL_law 355 = .ok (.iaload, 1) := by decide +kernel
theorem dL_law_356 : decode cL_law 356 = .ok (.invokevirtual 45, 3) := by decide +kernel
theorem dL_law_359 : decode cL_law 359 = .ok (.aload_n 2, 1) := by decide +kernel
theorem dL_law_360 : decode cL_law 360 = .ok (.aload_n 0, 1) := by decide +kernel
theorem dL_law_361 : decode cL_law 361 = .ok (.iload_n 3, 1) := by decide +kernel
theorem dL_law_362 : decode cL_law 362 = .ok (.iconst 1, 1) := by decide +kernel
theorem dL_law_363 : decode cL_law 363 = .ok (.iadd, 1) := by decide +kernel
theorem dL_law_364 : decode cL_law 364 = .ok (.iaload, 1) := by decide +kernel
theorem dL_law_365 : decode cL_law 365 = .ok (.aload_n 0, 1) := by decide +kernel
theorem dL_law_366 : decode cL_law 366 = .ok (.iload_n 3, 1) := by decide +kernel
theorem dL_law_367 : decode cL_law 367 = .ok (.iconst 2, 1) := by decide +kernel
theorem dL_law_368 : decode cL_law 368 = .ok (.iadd, 1) := by decide +kernel
theorem dL_law_369 : decode cL_law 369 = .ok (.iaload, 1) := by decide +kernel
theorem dL_law_370 : decode cL_law 370 = .ok (.invokevirtual 48, 3) := by decide +kernel
theorem dL_law_373 : decode cL_law 373 = .ok (.if_icmp .eq 527, 3) := by decide +kernel
theorem dL_law_376 : decode cL_law 376 = .ok (.iconst 0, 1) := by decide +kernel
theorem dL_law_377 : decode cL_law 377 = .ok (.ireturn, 1) := by decide +kernel
theorem dL_law_378 : decode cL_law 378 = .ok (.aload_n 1, 1) := by decide +kernel
theorem dL_law_379 : decode cL_law 379 = .ok (.aload_n 0, 1) := by decide +kernel
theorem dL_law_380 : decode cL_law 380 = .ok (.iload_n 3, 1) := by decide +kernel
theorem dL_law_381 : decode cL_law 381 = .ok (.iconst 1, 1) := by decide +kernel
theorem dL_law_382 : decode cL_law 382 = .ok (.iadd, 1) := by decide +kernel
theorem dL_law_383 : decode cL_law 383 = .ok (.iaload, 1) := by decide +kernel
theorem dL_law_384 : decode cL_law 384 = .ok (.aload_n 0, 1) := by decide +kernel
theorem dL_law_385 : decode cL_law 385 = .ok (.iload_n 3, 1) := by decide +kernel
theorem dL_law_386 : decode cL_law 386 = .ok (.iconst 2, 1) := by decide +kernel
theorem dL_law_387 : decode cL_law 387 = .ok (.iadd, 1) := by decide +kernel
theorem dL_law_388 : decode cL_law 388 = .ok (.iaload, 1) := by decide +kernel
theorem dL_law_389 : decode cL_law 389 = .ok (.invokevirtual 49, 3) := by decide +kernel
theorem dL_law_392 : decode cL_law 392 = .ok (.aload_n 2, 1) := by decide +kernel
theorem dL_law_393 : decode cL_law 393 = .ok (.aload_n 0, 1) := by decide +kernel
theorem dL_law_394 : decode cL_law 394 = .ok (.iload_n 3, 1) := by decide +kernel
theorem dL_law_395 : decode cL_law 395 = .ok (.iconst 1, 1) := by decide +kernel
theorem dL_law_396 : decode cL_law 396 = .ok (.iadd, 1) := by decide +kernel
theorem dL_law_397 : decode cL_law 397 = .ok (.iaload, 1) := by decide +kernel
theorem dL_law_398 : decode cL_law 398 = .ok (.aload_n 0, 1) := by decide +kernel
theorem dL_law_399 : decode cL_law 399 = .ok (.iload_n 3, 1) := by decide +kernel
theorem dL_law_400 : decode cL_law 400 = .ok (.iconst 2, 1) := by decide +kernel
theorem dL_law_401 : decode cL_law 401 = .ok (.iadd, 1) := by decide +kernel
theorem dL_law_402 : decode cL_law 402 = .ok (.iaload, 1) := by decide +kernel
theorem dL_law_403 : decode cL_law 403 = .ok (.invokevirtual 52, 3) := by decide +kernel
theorem dL_law_406 : decode cL_law 406 = .ok (.if_icmp .eq 494, 3) := by decide +kernel
theorem dL_law_409 : decode cL_law 409 = .ok (.iconst 0, 1) := by decide +kernel
theorem dL_law_410 : decode cL_law 410 = .ok (.ireturn, 1) := by decide +kernel
theorem dL_law_411 : decode cL_law 411 = .ok (.aload_n 1, 1) := by decide +kernel
theorem dL_law_412 : decode cL_law 412 = .ok (.aload_n 0, 1) := by decide +kernel
theorem dL_law_413 : decode cL_law 413 = .ok (.iload_n 3, 1) := by decide +kernel
theorem dL_law_414 : decode cL_law 414 = .ok (.iconst 1, 1) := by decide +kernel
theorem dL_law_415 : decode cL_law 415 = .ok (.iadd, 1) := by decide +kernel
theorem dL_law_416 : decode cL_law 416 = .ok (.iaload, 1) := by decide +kernel
theorem dL_law_417 : decode cL_law 417 = .ok (.aload_n 0, 1) := by decide +kernel
theorem dL_law_418 : decode cL_law 418 = .ok (.iload_n 3, 1) := by decide +kernel
theorem dL_law_419 : decode cL_law 419 = .ok (.iconst 2, 1) := by decide +kernel
theorem dL_law_420 : decode cL_law 420 = .ok (.iadd, 1) := by decide +kernel
theorem dL_law_421 : decode cL_law 421 = .ok (.iaload, 1) := by decide +kernel
theorem dL_law_422 : decode cL_law 422 = .ok (.invokevirtual 53, 3) := by decide +kernel
theorem dL_law_425 : decode cL_law 425 = .ok (.aload_n 2, 1) := by decide +kernel
theorem dL_law_426 : decode cL_law 426 = .ok (.aload_n 0, 1) := by decide +kernel
theorem dL_law_427 : decode cL_law 427 = .ok (.iload_n 3, 1) := by decide +kernel
theorem dL_law_428 : decode cL_law 428 = .ok (.iconst 1, 1) := by decide +kernel
theorem dL_law_429 : decode cL_law 429 = .ok (.iadd, 1) := by decide +kernel
theorem dL_law_430 : decode cL_law 430 = .ok (.iaload, 1) := by decide +kernel
theorem dL_law_431 : decode cL_law 431 = .ok (.aload_n 0, 1) := by decide +kernel
theorem dL_law_432 : decode cL_law 432 = .ok (.iload_n 3, 1) := by decide +kernel
theorem dL_law_433 : decode cL_law 433 = .ok (.iconst 2, 1) := by decide +kernel
theorem dL_law_434 : decode cL_law 434 = .ok (.iadd, 1) := by decide +kernel
theorem dL_law_435 : decode cL_law 435 = .ok (.iaload, 1) := by decide +kernel
theorem dL_law_436 : decode cL_law 436 = .ok (.invokevirtual 56, 3) := by decide +kernel
theorem dL_law_439 : decode cL_law 439 = .ok (.if_icmp .eq 461, 3) := by decide +kernel
theorem dL_law_442 : decode cL_law 442 = .ok (.iconst 0, 1) := by decide +kernel
theorem dL_law_443 : decode cL_law 443 = .ok (.ireturn, 1) := by decide +kernel
theorem dL_law_444 : decode cL_law 444 = .ok (.aload_n 1, 1) := by decide +kernel
theorem dL_law_445 : decode cL_law 445 = .ok (.aload_n 0, 1) := by decide +kernel
theorem dL_law_446 : decode cL_law 446 = .ok (.iload_n 3, 1) := by decide +kernel
theorem dL_law_447 : decode cL_law 447 = .ok (.iconst 1, 1) := by decide +kernel
theorem dL_law_448 : decode cL_law 448 = .ok (.iadd, 1) := by decide +kernel
theorem dL_law_449 : decode cL_law 449 = .ok (.iaload, 1) := by decide +kernel
theorem dL_law_450 : decode cL_law 450 = .ok (.aload_n 0, 1) := by decide +kernel
theorem dL_law_451 : decode cL_law 451 = .ok (.iload_n 3, 1) := by decide +kernel
theorem dL_law_452 : decode cL_law 452 = .ok (.iconst 2, 1) := by decide +kernel
theorem dL_law_453 : decode cL_law 453 = .ok (.iadd, 1) := by decide +kernel
theorem dL_law_454 : decode cL_law 454 = .ok (.iaload, 1) := by decide +kernel
theorem dL_law_455 : decode cL_law 455 = .ok (.invokevirtual 57, 3) := by decide +kernel
theorem dL_law_458 : decode cL_law 458 = .ok (.aload_n 2, 1) := by decide +kernel
theorem dL_law_459 : decode cL_law 459 = .ok (.aload_n 0, 1) := by decide +kernel
theorem dL_law_460 : decode cL_law 460 = .ok (.iload_n 3, 1) := by decide +kernel
theorem dL_law_461 : decode cL_law 461 = .ok (.iconst 1, 1) := by decide +kernel
theorem dL_law_462 : decode cL_law 462 = .ok (.iadd, 1) := by decide +kernel
theorem dL_law_463 : decode cL_law 463 = .ok (.iaload, 1) := by decide +kernel
theorem dL_law_464 : decode cL_law 464 = .ok (.aload_n 0, 1) := by decide +kernel
theorem dL_law_465 : decode cL_law 465 = .ok (.iload_n 3, 1) := by decide +kernel
theorem dL_law_466 : decode cL_law 466 = .ok (.iconst 2, 1) := by decide +kernel
theorem dL_law_467 : decode cL_law 467 = .ok (.iadd, 1) := by decide +kernel
theorem dL_law_468 : decode cL_law 468 = .ok (.iaload, 1) := by decide +kernel
theorem dL_law_469 : decode cL_law 469 = .ok (.invokevirtual 60, 3) := by decide +kernel
theorem dL_law_472 : decode cL_law 472 = .ok (.if_icmp .eq 428, 3) := by decide +kernel
theorem dL_law_475 : decode cL_law 475 = .ok (.iconst 0, 1) := by decide +kernel
theorem dL_law_476 : decode cL_law 476 = .ok (.ireturn, 1) := by decide +kernel
theorem dL_law_477 : decode cL_law 477 = .ok (.aload_n 1, 1) := by decide +kernel
theorem dL_law_478 : decode cL_law 478 = .ok (.aload_n 0, 1) := by decide +kernel
theorem dL_law_479 : decode cL_law 479 = .ok (.iload_n 3, 1) := by decide +kernel
theorem dL_law_480 : decode cL_law 480 = .ok (.iconst 1, 1) := by decide +kernel
theorem dL_law_481 : decode cL_law 481 = .ok (.iadd, 1) := by decide +kernel
theorem dL_law_482 : decode cL_law 482 = .ok (.iaload, 1) := by decide +kernel
theorem dL_law_483 : decode cL_law 483 = .ok (.aload_n 0, 1) := by decide +kernel
theorem dL_law_484 : decode cL_law 484 = .ok (.iload_n 3, 1) := by decide +kernel
theorem dL_law_485 : decode cL_law 485 = .ok (.iconst 2, 1) := by decide +kernel
theorem dL_law_486 : decode cL_law 486 = .ok (.iadd, 1) := by decide +kernel
theorem dL_law_487 : decode cL_law 487 = .ok (.iaload, 1) := by decide +kernel
theorem dL_law_488 : decode cL_law 488 = .ok (.invokevirtual 61, 3) := by decide +kernel
theorem dL_law_491 : decode cL_law 491 = .ok (.aload_n 2, 1) := by decide +kernel
theorem dL_law_492 : decode cL_law 492 = .ok (.aload_n 0, 1) := by decide +kernel
theorem dL_law_493 : decode cL_law 493 = .ok (.iload_n 3, 1) := by decide +kernel
theorem dL_law_494 : decode cL_law 494 = .ok (.iconst 1, 1) := by decide +kernel
theorem dL_law_495 : decode cL_law 495 = .ok (.iadd, 1) := by decide +kernel
theorem dL_law_496 : decode cL_law 496 = .ok (.iaload, 1) := by decide +kernel
theorem dL_law_497 : decode cL_law 497 = .ok (.aload_n 0, 1) := by decide +kernel
theorem dL_law_498 : decode cL_law 498 = .ok (.iload_n 3, 1) := by decide +kernel
theorem dL_law_499 : decode cL_law 499 = .ok (.iconst 2, 1) := by decide +kernel
theorem dL_law_500 : decode cL_law 500 = .ok (.iadd, 1) := by decide +kernel
theorem dL_law_501 : decode cL_law 501 = .ok (.iaload, 1) := by decide +kernel
theorem dL_law_502 : decode cL_law 502 = .ok (.invokevirtual 64, 3) := by decide +kernel
theorem dL_law_505 : decode cL_law 505 = .ok (.if_icmp .eq 395, 3) := by decide +kernel
theorem dL_law_508 : decode cL_law 508 = .ok (.iconst 0, 1) := by decide +kernel
theorem dL_law_509 : decode cL_law 509 = .ok (.ireturn, 1) := by decide +kernel
theorem dL_law_510 : decode cL_law 510 = .ok (.aload_n 1, 1) := by decide +kernel
theorem dL_law_511 : decode cL_law 511 = .ok (.aload_n 0, 1) := by decide +kernel
theorem dL_law_512 : decode cL_law 512 = .ok (.iload_n 3, 1) := by decide +kernel
theorem dL_law_513 : decode cL_law 513 = .ok (.iconst 1, 1) := by decide +kernel
theorem dL_law_514 : decode cL_law 514 = .ok (.iadd, 1) := by decide +kernel
theorem dL_law_515 : decode cL_law 515 = .ok (.iaload, 1) := by decide +kernel
theorem dL_law_516 : decode cL_law 516 = .ok (.aload_n 0, 1) := by decide +kernel
theorem dL_law_517 : decode cL_law 517 = .ok (.iload_n 3, 1) := by decide +kernel
theorem dL_law_518 : decode cL_law 518 = .ok (.iconst 2, 1) := by decide +kernel
theorem dL_law_519 : decode cL_law 519 = .ok (.iadd, 1) := by decide +kernel
theorem dL_law_520 : decode cL_law 520 = .ok (.iaload, 1) := by decide +kernel
theorem dL_law_521 : decode cL_law 521 = .ok (.invokevirtual 65, 3) := by decide +kernel
theorem dL_law_524 : decode cL_law 524 = .ok (.aload_n 2, 1) := by decide +kernel
theorem dL_law_525 : decode cL_law 525 = .ok (.aload_n 0, 1) := by decide +kernel
theorem dL_law_526 : decode cL_law 526 = .ok (.iload_n 3, 1) := by decide +kernel
theorem dL_law_527 : decode cL_law 527 = .ok (.iconst 1, 1) := by decide +kernel
theorem dL_law_528 : decode cL_law 528 = .ok (.iadd, 1) := by decide +kernel
theorem dL_law_529 : decode cL_law 529 = .ok (.iaload, 1) := by decide +kernel
theorem dL_law_530 : decode cL_law 530 = .ok (.aload_n 0, 1) := by decide +kernel
theorem dL_law_531 : decode cL_law 531 = .ok (.iload_n 3, 1) := by decide +kernel
theorem dL_law_532 : decode cL_law 532 = .ok (.iconst 2, 1) := by decide +kernel
theorem dL_law_533 : decode cL_law 533 = .ok (.iadd, 1) := by decide +kernel
theorem dL_law_534 : decode cL_law 534 = .ok (.iaload, 1) := by decide +kernel
theorem dL_law_535 : decode cL_law 535 = .ok (.invokevirtual 68, 3) := by decide +kernel
theorem dL_law_538 : decode cL_law 538 = .ok (.if_icmp .eq 362, 3) := by decide +kernel
theorem dL_law_541 : decode cL_law 541 = .ok (.iconst 0, 1) := by decide +kernel
theorem dL_law_542 : decode cL_law 542 = .ok (.ireturn, 1) := by decide +kernel
theorem dL_law_543 : decode cL_law 543 = .ok (.aload_n 1, 1) := by decide +kernel
theorem dL_law_544 : decode cL_law 544 = .ok (.aload_n 0, 1) := by decide +kernel
theorem dL_law_545 : decode cL_law 545 = .ok (.iload_n 3, 1) := by decide +kernel
theorem dL_law_546 : decode cL_law 546 = .ok (.iconst 1, 1) := by decide +kernel
theorem dL_law_547 : decode cL_law 547 = .ok (.iadd, 1) := by decide +kernel
theorem dL_law_548 : decode cL_law 548 = .ok (.iaload, 1) := by decide +kernel
theorem dL_law_549 : decode cL_law 549 = .ok (.aload_n 0, 1) := by decide +kernel
theorem dL_law_550 : decode cL_law 550 = .ok (.iload_n 3, 1) := by decide +kernel
theorem dL_law_551 : decode cL_law 551 = .ok (.iconst 2, 1) := by decide +kernel
theorem dL_law_552 : decode cL_law 552 = .ok (.iadd, 1) := by decide +kernel
theorem dL_law_553 : decode cL_law 553 = .ok (.iaload, 1) := by decide +kernel
theorem dL_law_554 : decode cL_law 554 = .ok (.invokevirtual 69, 3) := by decide +kernel
theorem dL_law_557 : decode cL_law 557 = .ok (.aload_n 2, 1) := by decide +kernel
theorem dL_law_558 : decode cL_law 558 = .ok (.aload_n 0, 1) := by decide +kernel
theorem dL_law_559 : decode cL_law 559 = .ok (.iload_n 3, 1) := by decide +kernel
theorem dL_law_560 : decode cL_law 560 = .ok (.iconst 1, 1) := by decide +kernel
theorem dL_law_561 : decode cL_law 561 = .ok (.iadd, 1) := by decide +kernel
theorem dL_law_562 : decode cL_law 562 = .ok (.iaload, 1) := by decide +kernel
theorem dL_law_563 : decode cL_law 563 = .ok (.aload_n 0, 1) := by decide +kernel
theorem dL_law_564 : decode cL_law 564 = .ok (.iload_n 3, 1) := by decide +kernel
theorem dL_law_565 : decode cL_law 565 = .ok (.iconst 2, 1) := by decide +kernel
theorem dL_law_566 : decode cL_law 566 = .ok (.iadd, 1) := by decide +kernel
theorem dL_law_567 : decode cL_law 567 = .ok (.iaload, 1) := by decide +kernel
theorem dL_law_568 : decode cL_law 568 = .ok (.invokevirtual 72, 3) := by decide +kernel
theorem dL_law_571 : decode cL_law 571 = .ok (.if_icmp .eq 329, 3) := by decide +kernel
theorem dL_law_574 : decode cL_law 574 = .ok (.iconst 0, 1) := by decide +kernel
theorem dL_law_575 : decode cL_law 575 = .ok (.ireturn, 1) := by decide +kernel
theorem dL_law_576 : decode cL_law 576 = .ok (.aload_n 1, 1) := by decide +kernel
theorem dL_law_577 : decode cL_law 577 = .ok (.aload_n 0, 1) := by decide +kernel
theorem dL_law_578 : decode cL_law 578 = .ok (.iload_n 3, 1) := by decide +kernel
theorem dL_law_579 : decode cL_law 579 = .ok (.iconst 1, 1) := by decide +kernel
theorem dL_law_580 : decode cL_law 580 = .ok (.iadd, 1) := by decide +kernel
theorem dL_law_581 : decode cL_law 581 = .ok (.iaload, 1) := by decide +kernel
theorem dL_law_582 : decode cL_law 582 = .ok (.invokevirtual 73, 3) := by decide +kernel
theorem dL_law_585 : decode cL_law 585 = .ok (.aload_n 2, 1) := by decide +kernel
theorem dL_law_586 : decode cL_law 586 = .ok (.aload_n 0, 1) := by decide +kernel
theorem dL_law_587 : decode cL_law 587 = .ok (.iload_n 3, 1) := by decide +kernel
theorem dL_law_588 : decode cL_law 588 = .ok (.iconst 1, 1) := by decide +kernel
theorem dL_law_589 : decode cL_law 589 = .ok (.iadd, 1) := by decide +kernel
theorem dL_law_590 : decode cL_law 590 = .ok (.iaload, 1) := by decide +kernel
theorem dL_law_591 : decode cL_law 591 = .ok (.invokevirtual 77, 3) := by decide +kernel
theorem dL_law_594 : decode cL_law 594 = .ok (.lcmp, 1) := by decide +kernel
theorem dL_law_595 : decode cL_law 595 = .ok (.ifCond .eq 305, 3) := by decide +kernel
theorem dL_law_598 : decode cL_law 598 = .ok (.iconst 0, 1) := by decide +kernel
theorem dL_law_599 : decode cL_law 599 = .ok (.ireturn, 1) := by decide +kernel
theorem dL_law_600 : decode cL_law 600 = .ok (.aload_n 1, 1) := by decide +kernel
theorem dL_law_601 : decode cL_law 601 = .ok (.aload_n 0, 1) := by decide +kernel
theorem dL_law_602 : decode cL_law 602 = .ok (.iload_n 3, 1) := by decide +kernel
theorem dL_law_603 : decode cL_law 603 = .ok (.iconst 1, 1) := by decide +kernel
theorem dL_law_604 : decode cL_law 604 = .ok (.iadd, 1) := by decide +kernel
theorem dL_law_605 : decode cL_law 605 = .ok (.iaload, 1) := by decide +kernel
theorem dL_law_606 : decode cL_law 606 = .ok (.aload_n 0, 1) := by decide +kernel
theorem dL_law_607 : decode cL_law 607 = .ok (.iload_n 3, 1) := by decide +kernel
theorem dL_law_608 : decode cL_law 608 = .ok (.iconst 2, 1) := by decide +kernel
theorem dL_law_609 : decode cL_law 609 = .ok (.iadd, 1) := by decide +kernel
theorem dL_law_610 : decode cL_law 610 = .ok (.iaload, 1) := by decide +kernel
theorem dL_law_611 : decode cL_law 611 = .ok (.aload_n 0, 1) := by decide +kernel
theorem dL_law_612 : decode cL_law 612 = .ok (.iload_n 3, 1) := by decide +kernel
theorem dL_law_613 : decode cL_law 613 = .ok (.iconst 3, 1) := by decide +kernel
theorem dL_law_614 : decode cL_law 614 = .ok (.iadd, 1) := by decide +kernel
theorem dL_law_615 : decode cL_law 615 = .ok (.iaload, 1) := by decide +kernel
theorem dL_law_616 : decode cL_law 616 = .ok (.invokevirtual 78, 3) := by decide +kernel
theorem dL_law_619 : decode cL_law 619 = .ok (.aload_n 2, 1) := by decide +kernel
theorem dL_law_620 : decode cL_law 620 = .ok (.aload_n 0, 1) := by decide +kernel
theorem dL_law_621 : decode cL_law 621 = .ok (.iload_n 3, 1) := by decide +kernel
theorem dL_law_622 : decode cL_law 622 = .ok (.iconst 1, 1) := by decide +kernel
theorem dL_law_623 : decode cL_law 623 = .ok (.iadd, 1) := by decide +kernel
theorem dL_law_624 : decode cL_law 624 = .ok (.iaload, 1) := by decide +kernel
theorem dL_law_625 : decode cL_law 625 = .ok (.aload_n 0, 1) := by decide +kernel
theorem dL_law_626 : decode cL_law 626 = .ok (.iload_n 3, 1) := by decide +kernel
theorem dL_law_627 : decode cL_law 627 = .ok (.iconst 2, 1) := by decide +kernel
theorem dL_law_628 : decode cL_law 628 = .ok (.iadd, 1) := by decide +kernel
theorem dL_law_629 : decode cL_law 629 = .ok (.iaload, 1) := by decide +kernel
theorem dL_law_630 : decode cL_law 630 = .ok (.aload_n 0, 1) := by decide +kernel
theorem dL_law_631 : decode cL_law 631 = .ok (.iload_n 3, 1) := by decide +kernel
theorem dL_law_632 : decode cL_law 632 = .ok (.iconst 3, 1) := by decide +kernel
theorem dL_law_633 : decode cL_law 633 = .ok (.iadd, 1) := by decide +kernel
theorem dL_law_634 : decode cL_law 634 = .ok (.iaload, 1) := by decide +kernel
theorem dL_law_635 : decode cL_law 635 = .ok (.invokevirtual 82, 3) := by decide +kernel
theorem dL_law_638 : decode cL_law 638 = .ok (.lcmp, 1) := by decide +kernel
theorem dL_law_639 : decode cL_law 639 = .ok (.ifCond .eq 261, 3) := by decide +kernel
theorem dL_law_642 : decode cL_law 642 = .ok (.iconst 0, 1) := by decide +kernel
theorem dL_law_643 : decode cL_law 643 = .ok (.ireturn, 1) := by decide +kernel
theorem dL_law_644 : decode cL_law 644 = .ok (.aload_n 1, 1) := by decide +kernel
theorem dL_law_645 : decode cL_law 645 = .ok (.aload_n 0, 1) := by decide +kernel
theorem dL_law_646 : decode cL_law 646 = .ok (.iload_n 3, 1) := by decide +kernel
theorem dL_law_647 : decode cL_law 647 = .ok (.iconst 1, 1) := by decide +kernel
theorem dL_law_648 : decode cL_law 648 = .ok (.iadd, 1) := by decide +kernel
theorem dL_law_649 : decode cL_law 649 = .ok (.iaload, 1) := by decide +kernel
theorem dL_law_650 : decode cL_law 650 = .ok (.invokevirtual 83, 3) := by decide +kernel
theorem dL_law_653 : decode cL_law 653 = .ok (.aload_n 2, 1) := by decide +kernel
theorem dL_law_654 : decode cL_law 654 = .ok (.aload_n 0, 1) := by decide +kernel
theorem dL_law_655 : decode cL_law 655 = .ok (.iload_n 3, 1) := by decide +kernel
theorem dL_law_656 : decode cL_law 656 = .ok (.iconst 1, 1) := by decide +kernel
theorem dL_law_657 : decode cL_law 657 = .ok (.iadd, 1) := by decide +kernel
theorem dL_law_658 : decode cL_law 658 = .ok (.iaload, 1) := by decide +kernel
theorem dL_law_659 : decode cL_law 659 = .ok (.invokevirtual 86, 3) := by decide +kernel
theorem dL_law_662 : decode cL_law 662 = .ok (.if_icmp .eq 238, 3) := by decide +kernel
theorem dL_law_665 : decode cL_law 665 = .ok (.iconst 0, 1) := by decide +kernel
theorem dL_law_666 : decode cL_law 666 = .ok (.ireturn, 1) := by decide +kernel
theorem dL_law_667 : decode cL_law 667 = .ok (.aload_n 1, 1) := by decide +kernel
theorem dL_law_668 : decode cL_law 668 = .ok (.aload_n 0, 1) := by decide +kernel
theorem dL_law_669 : decode cL_law 669 = .ok (.iload_n 3, 1) := by decide +kernel
theorem dL_law_670 : decode cL_law 670 = .ok (.iconst 1, 1) := by decide +kernel
theorem dL_law_671 : decode cL_law 671 = .ok (.iadd, 1) := by decide +kernel
theorem dL_law_672 : decode cL_law 672 = .ok (.iaload, 1) := by decide +kernel
theorem dL_law_673 : decode cL_law 673 = .ok (.aload_n 0, 1) := by decide +kernel
theorem dL_law_674 : decode cL_law 674 = .ok (.iload_n 3, 1) := by decide +kernel
theorem dL_law_675 : decode cL_law 675 = .ok (.iconst 2, 1) := by decide +kernel
theorem dL_law_676 : decode cL_law 676 = .ok (.iadd, 1) := by decide +kernel
theorem dL_law_677 : decode cL_law 677 = .ok (.iaload, 1) := by decide +kernel
theorem dL_law_678 : decode cL_law 678 = .ok (.aload_n 0, 1) := by decide +kernel
theorem dL_law_679 : decode cL_law 679 = .ok (.iload_n 3, 1) := by decide +kernel
theorem dL_law_680 : decode cL_law 680 = .ok (.iconst 3, 1) := by decide +kernel
theorem dL_law_681 : decode cL_law 681 = .ok (.iadd, 1) := by decide +kernel
theorem dL_law_682 : decode cL_law 682 = .ok (.iaload, 1) := by decide +kernel
theorem dL_law_683 : decode cL_law 683 = .ok (.aload_n 0, 1) := by decide +kernel
theorem dL_law_684 : decode cL_law 684 = .ok (.iload_n 3, 1) := by decide +kernel
theorem dL_law_685 : decode cL_law 685 = .ok (.iconst 4, 1) := by decide +kernel
theorem dL_law_686 : decode cL_law 686 = .ok (.iadd, 1) := by decide +kernel
theorem dL_law_687 : decode cL_law 687 = .ok (.iaload, 1) := by decide +kernel
theorem dL_law_688 : decode cL_law 688 = .ok (.invokevirtual 87, 3) := by decide +kernel
theorem dL_law_691 : decode cL_law 691 = .ok (.aload_n 2, 1) := by decide +kernel
theorem dL_law_692 : decode cL_law 692 = .ok (.aload_n 0, 1) := by decide +kernel
theorem dL_law_693 : decode cL_law 693 = .ok (.iload_n 3, 1) := by decide +kernel
theorem dL_law_694 : decode cL_law 694 = .ok (.iconst 1, 1) := by decide +kernel
theorem dL_law_695 : decode cL_law 695 = .ok (.iadd, 1) := by decide +kernel
theorem dL_law_696 : decode cL_law 696 = .ok (.iaload, 1) := by decide +kernel
theorem dL_law_697 : decode cL_law 697 = .ok (.aload_n 0, 1) := by decide +kernel
theorem dL_law_698 : decode cL_law 698 = .ok (.iload_n 3, 1) := by decide +kernel
theorem dL_law_699 : decode cL_law 699 = .ok (.iconst 2, 1) := by decide +kernel
theorem dL_law_700 : decode cL_law 700 = .ok (.iadd, 1) := by decide +kernel
theorem dL_law_701 : decode cL_law 701 = .ok (.iaload, 1) := by decide +kernel
theorem dL_law_702 : decode cL_law 702 = .ok (.aload_n 0, 1) := by decide +kernel
theorem dL_law_703 : decode cL_law 703 = .ok (.iload_n 3, 1) := by decide +kernel
theorem dL_law_704 : decode cL_law 704 = .ok (.iconst 3, 1) := by decide +kernel
theorem dL_law_705 : decode cL_law 705 = .ok (.iadd, 1) := by decide +kernel
theorem dL_law_706 : decode cL_law 706 = .ok (.iaload, 1) := by decide +kernel
theorem dL_law_707 : decode cL_law 707 = .ok (.aload_n 0, 1) := by decide +kernel
theorem dL_law_708 : decode cL_law 708 = .ok (.iload_n 3, 1) := by decide +kernel
theorem dL_law_709 : decode cL_law 709 = .ok (.iconst 4, 1) := by decide +kernel
theorem dL_law_710 : decode cL_law 710 = .ok (.iadd, 1) := by decide +kernel
theorem dL_law_711 : decode cL_law 711 = .ok (.iaload, 1) := by decide +kernel
theorem dL_law_712 : decode cL_law 712 = .ok (.invokevirtual 91, 3) := by decide +kernel
theorem dL_law_715 : decode cL_law 715 = .ok (.lcmp, 1) := by decide +kernel
theorem dL_law_716 : decode cL_law 716 = .ok (.ifCond .eq 184, 3) := by decide +kernel
theorem dL_law_719 : decode cL_law 719 = .ok (.iconst 0, 1) := by decide +kernel
theorem dL_law_720 : decode cL_law 720 = .ok (.ireturn, 1) := by decide +kernel
theorem dL_law_721 : decode cL_law 721 = .ok (.aload_n 1, 1) := by decide +kernel
theorem dL_law_722 : decode cL_law 722 = .ok (.aload_n 0, 1) := by decide +kernel
theorem dL_law_723 : decode cL_law 723 = .ok (.iload_n 3, 1) := by decide +kernel
theorem dL_law_724 : decode cL_law 724 = .ok (.iconst 1, 1) := by decide +kernel
theorem dL_law_725 : decode cL_law 725 = .ok (.iadd, 1) := by decide +kernel
theorem dL_law_726 : decode cL_law 726 = .ok (.iaload, 1) := by decide +kernel
theorem dL_law_727 : decode cL_law 727 = .ok (.aload_n 0, 1) := by decide +kernel
theorem dL_law_728 : decode cL_law 728 = .ok (.iload_n 3, 1) := by decide +kernel
theorem dL_law_729 : decode cL_law 729 = .ok (.iconst 2, 1) := by decide +kernel
theorem dL_law_730 : decode cL_law 730 = .ok (.iadd, 1) := by decide +kernel
theorem dL_law_731 : decode cL_law 731 = .ok (.iaload, 1) := by decide +kernel
theorem dL_law_732 : decode cL_law 732 = .ok (.aload_n 0, 1) := by decide +kernel
theorem dL_law_733 : decode cL_law 733 = .ok (.iload_n 3, 1) := by decide +kernel
theorem dL_law_734 : decode cL_law 734 = .ok (.iconst 3, 1) := by decide +kernel
theorem dL_law_735 : decode cL_law 735 = .ok (.iadd, 1) := by decide +kernel
theorem dL_law_736 : decode cL_law 736 = .ok (.iaload, 1) := by decide +kernel
theorem dL_law_737 : decode cL_law 737 = .ok (.aload_n 0, 1) := by decide +kernel
theorem dL_law_738 : decode cL_law 738 = .ok (.iload_n 3, 1) := by decide +kernel
theorem dL_law_739 : decode cL_law 739 = .ok (.iconst 4, 1) := by decide +kernel
theorem dL_law_740 : decode cL_law 740 = .ok (.iadd, 1) := by decide +kernel
theorem dL_law_741 : decode cL_law 741 = .ok (.iaload, 1) := by decide +kernel
theorem dL_law_742 : decode cL_law 742 = .ok (.invokevirtual 92, 3) := by decide +kernel
theorem dL_law_745 : decode cL_law 745 = .ok (.aload_n 2, 1) := by decide +kernel
theorem dL_law_746 : decode cL_law 746 = .ok (.aload_n 0, 1) := by decide +kernel
theorem dL_law_747 : decode cL_law 747 = .ok (.iload_n 3, 1) := by decide +kernel
theorem dL_law_748 : decode cL_law 748 = .ok (.iconst 1, 1) := by decide +kernel
theorem dL_law_749 : decode cL_law 749 = .ok (.iadd, 1) := by decide +kernel
theorem dL_law_750 : decode cL_law 750 = .ok (.iaload, 1) := by decide +kernel
theorem dL_law_751 : decode cL_law 751 = .ok (.aload_n 0, 1) := by decide +kernel
theorem dL_law_752 : decode cL_law 752 = .ok (.iload_n 3, 1) := by decide +kernel
theorem dL_law_753 : decode cL_law 753 = .ok (.iconst 2, 1) := by decide +kernel
theorem dL_law_754 : decode cL_law 754 = .ok (.iadd, 1) := by decide +kernel
theorem dL_law_755 : decode cL_law 755 = .ok (.iaload, 1) := by decide +kernel
theorem dL_law_756 : decode cL_law 756 = .ok (.aload_n 0, 1) := by decide +kernel
theorem dL_law_757 : decode cL_law 757 = .ok (.iload_n 3, 1) := by decide +kernel
theorem dL_law_758 : decode cL_law 758 = .ok (.iconst 3, 1) := by decide +kernel
theorem dL_law_759 : decode cL_law 759 = .ok (.iadd, 1) := by decide +kernel
theorem dL_law_760 : decode cL_law 760 = .ok (.iaload, 1) := by decide +kernel
theorem dL_law_761 : decode cL_law 761 = .ok (.aload_n 0, 1) := by decide +kernel
theorem dL_law_762 : decode cL_law 762 = .ok (.iload_n 3, 1) := by decide +kernel
theorem dL_law_763 : decode cL_law 763 = .ok (.iconst 4, 1) := by decide +kernel
theorem dL_law_764 : decode cL_law 764 = .ok (.iadd, 1) := by decide +kernel
theorem dL_law_765 : decode cL_law 765 = .ok (.iaload, 1) := by decide +kernel
theorem dL_law_766 : decode cL_law 766 = .ok (.invokevirtual 95, 3) := by decide +kernel
theorem dL_law_769 : decode cL_law 769 = .ok (.lcmp, 1) := by decide +kernel
theorem dL_law_770 : decode cL_law 770 = .ok (.ifCond .eq 130, 3) := by decide +kernel
theorem dL_law_773 : decode cL_law 773 = .ok (.iconst 0, 1) := by decide +kernel
theorem dL_law_774 : decode cL_law 774 = .ok (.ireturn, 1) := by decide +kernel
theorem dL_law_775 : decode cL_law 775 = .ok (.aload_n 1, 1) := by decide +kernel
theorem dL_law_776 : decode cL_law 776 = .ok (.aload_n 0, 1) := by decide +kernel
theorem dL_law_777 : decode cL_law 777 = .ok (.iload_n 3, 1) := by decide +kernel
theorem dL_law_778 : decode cL_law 778 = .ok (.iconst 1, 1) := by decide +kernel
theorem dL_law_779 : decode cL_law 779 = .ok (.iadd, 1) := by decide +kernel
theorem dL_law_780 : decode cL_law 780 = .ok (.iaload, 1) := by decide +kernel
theorem dL_law_781 : decode cL_law 781 = .ok (.invokevirtual 96, 3) := by decide +kernel
theorem dL_law_784 : decode cL_law 784 = .ok (.aload_n 2, 1) := by decide +kernel
theorem dL_law_785 : decode cL_law 785 = .ok (.aload_n 0, 1) := by decide +kernel
theorem dL_law_786 : decode cL_law 786 = .ok (.iload_n 3, 1) := by decide +kernel
theorem dL_law_787 : decode cL_law 787 = .ok (.iconst 1, 1) := by decide +kernel
theorem dL_law_788 : decode cL_law 788 = .ok (.iadd, 1) := by decide +kernel
theorem dL_law_789 : decode cL_law 789 = .ok (.iaload, 1) := by decide +kernel
theorem dL_law_790 : decode cL_law 790 = .ok (.invokevirtual 99, 3) := by decide +kernel
theorem dL_law_793 : decode cL_law 793 = .ok (.if_icmp .eq 107, 3) := by decide +kernel
theorem dL_law_796 : decode cL_law 796 = .ok (.iconst 0, 1) := by decide +kernel
theorem dL_law_797 : decode cL_law 797 = .ok (.ireturn, 1) := by decide +kernel
theorem dL_law_798 : decode cL_law 798 = .ok (.aload_n 1, 1) := by decide +kernel
theorem dL_law_799 : decode cL_law 799 = .ok (.aload_n 0, 1) := by decide +kernel
theorem dL_law_800 : decode cL_law 800 = .ok (.iload_n 3, 1) := by decide +kernel
theorem dL_law_801 : decode cL_law 801 = .ok (.iconst 1, 1) := by decide +kernel
theorem dL_law_802 : decode cL_law 802 = .ok (.iadd, 1) := by decide +kernel
theorem dL_law_803 : decode cL_law 803 = .ok (.iaload, 1) := by decide +kernel
theorem dL_law_804 : decode cL_law 804 = .ok (.aload_n 0, 1) := by decide +kernel
theorem dL_law_805 : decode cL_law 805 = .ok (.iload_n 3, 1) := by decide +kernel
theorem dL_law_806 : decode cL_law 806 = .ok (.iconst 2, 1) := by decide +kernel
theorem dL_law_807 : decode cL_law 807 = .ok (.iadd, 1) := by decide +kernel
theorem dL_law_808 : decode cL_law 808 = .ok (.iaload, 1) := by decide +kernel
theorem dL_law_809 : decode cL_law 809 = .ok (.invokevirtual 100, 3) := by decide +kernel
theorem dL_law_812 : decode cL_law 812 = .ok (.aload_n 2, 1) := by decide +kernel
theorem dL_law_813 : decode cL_law 813 = .ok (.aload_n 0, 1) := by decide +kernel
theorem dL_law_814 : decode cL_law 814 = .ok (.iload_n 3, 1) := by decide +kernel
theorem dL_law_815 : decode cL_law 815 = .ok (.iconst 1, 1) := by decide +kernel
theorem dL_law_816 : decode cL_law 816 = .ok (.iadd, 1) := by decide +kernel
theorem dL_law_817 : decode cL_law 817 = .ok (.iaload, 1) := by decide +kernel
theorem dL_law_818 : decode cL_law 818 = .ok (.aload_n 0, 1) := by decide +kernel
theorem dL_law_819 : decode cL_law 819 = .ok (.iload_n 3, 1) := by decide +kernel
theorem dL_law_820 : decode cL_law 820 = .ok (.iconst 2, 1) := by decide +kernel
theorem dL_law_821 : decode cL_law 821 = .ok (.iadd, 1) := by decide +kernel
theorem dL_law_822 : decode cL_law 822 = .ok (.iaload, 1) := by decide +kernel
theorem dL_law_823 : decode cL_law 823 = .ok (.invokevirtual 103, 3) := by decide +kernel
theorem dL_law_826 : decode cL_law 826 = .ok (.if_icmp .eq 74, 3) := by decide +kernel
theorem dL_law_829 : decode cL_law 829 = .ok (.iconst 0, 1) := by decide +kernel
theorem dL_law_830 : decode cL_law 830 = .ok (.ireturn, 1) := by decide +kernel
theorem dL_law_831 : decode cL_law 831 = .ok (.aload_n 1, 1) := by decide +kernel
theorem dL_law_832 : decode cL_law 832 = .ok (.aload_n 0, 1) := by decide +kernel
theorem dL_law_833 : decode cL_law 833 = .ok (.iload_n 3, 1) := by decide +kernel
theorem dL_law_834 : decode cL_law 834 = .ok (.iconst 1, 1) := by decide +kernel
theorem dL_law_835 : decode cL_law 835 = .ok (.iadd, 1) := by decide +kernel
theorem dL_law_836 : decode cL_law 836 = .ok (.iaload, 1) := by decide +kernel
theorem dL_law_837 : decode cL_law 837 = .ok (.aload_n 0, 1) := by decide +kernel
theorem dL_law_838 : decode cL_law 838 = .ok (.iload_n 3, 1) := by decide +kernel
theorem dL_law_839 : decode cL_law 839 = .ok (.iconst 2, 1) := by decide +kernel
theorem dL_law_840 : decode cL_law 840 = .ok (.iadd, 1) := by decide +kernel
theorem dL_law_841 : decode cL_law 841 = .ok (.iaload, 1) := by decide +kernel
theorem dL_law_842 : decode cL_law 842 = .ok (.invokevirtual 104, 3) := by decide +kernel
theorem dL_law_845 : decode cL_law 845 = .ok (.aload_n 2, 1) := by decide +kernel
theorem dL_law_846 : decode cL_law 846 = .ok (.aload_n 0, 1) := by decide +kernel
theorem dL_law_847 : decode cL_law 847 = .ok (.iload_n 3, 1) := by decide +kernel
theorem dL_law_848 : decode cL_law 848 = .ok (.iconst 1, 1) := by decide +kernel
theorem dL_law_849 : decode cL_law 849 = .ok (.iadd, 1) := by decide +kernel
theorem dL_law_850 : decode cL_law 850 = .ok (.iaload, 1) := by decide +kernel
theorem dL_law_851 : decode cL_law 851 = .ok (.aload_n 0, 1) := by decide +kernel
theorem dL_law_852 : decode cL_law 852 = .ok (.iload_n 3, 1) := by decide +kernel
theorem dL_law_853 : decode cL_law 853 = .ok (.iconst 2, 1) := by decide +kernel
theorem dL_law_854 : decode cL_law 854 = .ok (.iadd, 1) := by decide +kernel
theorem dL_law_855 : decode cL_law 855 = .ok (.iaload, 1) := by decide +kernel
theorem dL_law_856 : decode cL_law 856 = .ok (.invokevirtual 107, 3) := by decide +kernel
theorem dL_law_859 : decode cL_law 859 = .ok (.if_icmp .eq 41, 3) := by decide +kernel
theorem dL_law_862 : decode cL_law 862 = .ok (.iconst 0, 1) := by decide +kernel
theorem dL_law_863 : decode cL_law 863 = .ok (.ireturn, 1) := by decide +kernel
theorem dL_law_864 : decode cL_law 864 = .ok (.aload_n 1, 1) := by decide +kernel
theorem dL_law_865 : decode cL_law 865 = .ok (.invokevirtual 108, 3) := by decide +kernel
theorem dL_law_868 : decode cL_law 868 = .ok (.aload_n 2, 1) := by decide +kernel
theorem dL_law_869 : decode cL_law 869 = .ok (.invokevirtual 111, 3) := by decide +kernel
theorem dL_law_872 : decode cL_law 872 = .ok (.if_icmp .eq 28, 3) := by decide +kernel
theorem dL_law_875 : decode cL_law 875 = .ok (.iconst 0, 1) := by decide +kernel
theorem dL_law_876 : decode cL_law 876 = .ok (.ireturn, 1) := by decide +kernel
theorem dL_law_877 : decode cL_law 877 = .ok (.aload_n 1, 1) := by decide +kernel
theorem dL_law_878 : decode cL_law 878 = .ok (.aload_n 0, 1) := by decide +kernel
theorem dL_law_879 : decode cL_law 879 = .ok (.iload_n 3, 1) := by decide +kernel
theorem dL_law_880 : decode cL_law 880 = .ok (.iconst 1, 1) := by decide +kernel
theorem dL_law_881 : decode cL_law 881 = .ok (.iadd, 1) := by decide +kernel
theorem dL_law_882 : decode cL_law 882 = .ok (.iaload, 1) := by decide +kernel
theorem dL_law_883 : decode cL_law 883 = .ok (.invokevirtual 112, 3) := by decide +kernel
theorem dL_law_886 : decode cL_law 886 = .ok (.aload_n 2, 1) := by decide +kernel
theorem dL_law_887 : decode cL_law 887 = .ok (.aload_n 0, 1) := by decide +kernel
theorem dL_law_888 : decode cL_law 888 = .ok (.iload_n 3, 1) := by decide +kernel
theorem dL_law_889 : decode cL_law 889 = .ok (.iconst 1, 1) := by decide +kernel
theorem dL_law_890 : decode cL_law 890 = .ok (.iadd, 1) := by decide +kernel
theorem dL_law_891 : decode cL_law 891 = .ok (.iaload, 1) := by decide +kernel
theorem dL_law_892 : decode cL_law 892 = .ok (.invokevirtual 115, 3) := by decide +kernel
theorem dL_law_895 : decode cL_law 895 = .ok (.if_icmp .eq 5, 3) := by decide +kernel
theorem dL_law_898 : decode cL_law 898 = .ok (.iconst 0, 1) := by decide +kernel
theorem dL_law_899 : decode cL_law 899 = .ok (.ireturn, 1) := by decide +kernel
theorem dL_law_900 : decode cL_law 900 = .ok (.iinc 3 5, 3) := by decide +kernel
theorem dL_law_903 : decode cL_law 903 = .ok (.goto (-885), 3) := by decide +kernel
theorem dL_law_906 : decode cL_law 906 = .ok (.iconst 1, 1) := by decide +kernel
theorem dL_law_907 : decode cL_law 907 = .ok (.ireturn, 1) := by decide +kernel
end
section
/-! ===== THE MEMORY: all cells of the class (0 .. 148) and of the reference (149 .. 167) stand side by side from the law's first free address on; their shapes never change behind the constructors; what changes are numbers: M cell place (ints, booleans), L cell place (longs) ===== -/
abbrev g_M : Type := Nat → Nat → Int32
abbrev g_L : Type := Nat → Nat → Int64
/-- where the cells begin; classes and slots; the array classes: 0 int, 1 boolean, 2 Wanderer, 3 Act -/
abbrev g_G : Type := Nat × va_G × (Nat → ClassId)
def g_tys (G : g_G) : List (ClassId × FieldType) := [(G.2.2 0, .int), (G.2.2 1, .boolean), (G.2.2 2, .object "NightDots$Wanderer"), (G.2.2 3, .object "NightDots$Act")]
def g_A (G : g_G) : Nat → Prop := fun q => G.1 ≤ q
def g_ws (b N : Nat) (E : Nat → va_E) : va_W := (List.range N).map (fun k => (b + k, E k))
theorem g_ws_at {b N k : Nat} {E : Nat → va_E} (h : k < N) : (g_ws b N E)[k]? = some (b + k, E k) := by
  simp [g_ws, h]
theorem g_ws_inv {b N k : Nat} {E : Nat → va_E} {q : Nat × va_E} (h : (g_ws b N E)[k]? = some q) : k < N ∧ q = (b + k, E k) := by
  have hk : k < N := by
    have := (List.getElem?_eq_some_iff.mp h).1
    simpa [g_ws] using this
  refine ⟨hk, ?_⟩
  rw [g_ws_at hk] at h
  exact (Option.some.inj h).symm
theorem g_ws_D {b N : Nat} {E : Nat → va_E} {A : Nat → Prop} (hA : ∀ q, b ≤ q → A q) : va_D A (g_ws b N E) := by
  refine ⟨fun i j p q hi hj he => ?_, fun k q hk => ?_⟩
  · obtain ⟨-, rfl⟩ := g_ws_inv hi
    obtain ⟨-, rfl⟩ := g_ws_inv hj
    dsimp only at he
    omega
  · obtain ⟨-, rfl⟩ := g_ws_inv hk
    exact hA _ (by dsimp only; omega)
theorem g_ws_set {b N k : Nat} {E : Nat → va_E} {e : va_E} : (g_ws b N E).set k (b + k, e) = g_ws b N (va_up E k e) := by
  apply List.ext_getElem?
  intro i
  rw [List.getElem?_set]
  by_cases hi : i < N
  · rw [g_ws_at hi]
    by_cases hk : k = i
    · subst hk
      rw [if_pos rfl, g_ws_at hi, va_up_self, if_pos (by simpa [g_ws] using hi)]
    · rw [if_neg hk, g_ws_at hi, va_up_ne _ _ (fun h => hk h.symm)]
  · have h1 : (g_ws b N E)[i]? = none := by simp [g_ws]; omega
    have h2 : (g_ws b N (va_up E k e))[i]? = none := by simp [g_ws]; omega
    rw [h1, h2]
    have h3 : ¬ i < (g_ws b N E).length := by simp [g_ws]; omega
    simp [h3]
    intro h; subst h; exact Nat.le_of_not_lt h3
theorem g_ws_push {b N : Nat} {E : Nat → va_E} {e : va_E} : g_ws b N E ++ [(b + N, e)] = g_ws b (N + 1) (va_up E N e) := by
  have h : (List.range N).map (fun k => (b + k, E k)) = (List.range N).map (fun k => (b + k, va_up E N e k)) := by
    apply List.map_congr_left
    intro k hk
    rw [va_up_ne _ _ (Nat.ne_of_lt (List.mem_range.mp hk))]
  simp only [g_ws, List.range_succ, List.map_append, List.map_cons, List.map_nil, va_up_self]
  rw [h]
theorem g_ws_cong {b N : Nat} {E F : Nat → va_E} (h : ∀ k, k < N → E k = F k) : g_ws b N E = g_ws b N F := by
  apply List.map_congr_left
  intro k hk
  rw [h k (List.mem_range.mp hk)]
/-- the shapes -/
def g_ai (G : g_G) (n : Nat) (f : Nat → Int32) : va_E := .inl (G.2.2 0, n, .inl f)
def g_az (G : g_G) (n : Nat) (f : Nat → Int32) : va_E := .inl (G.2.2 1, n, .inl f)
def g_sh1 (G : g_G) (k : Nat) (f : Nat → Int32) : va_E := match k with
  | 0 => .inr (10, [.ref (G.1 + 1), .ref (G.1 + 7), .ref (G.1 + 8), .ref (G.1 + 9), .ref (G.1 + 16), .ref (G.1 + 54), .ref (G.1 + 146), .ref (G.1 + 147)])
  | 1 => .inr (7, [.ref (G.1 + 2), .ref (G.1 + 3), .ref (G.1 + 4), .ref (G.1 + 5), .ref (G.1 + 6), .int (f 5)])
  | 2 => g_ai G 60 f
  | 3 => g_ai G 60 f
  | 4 => g_ai G 60 f
  | 5 => g_ai G 60 f
  | 6 => g_ai G 60 f
  | 7 => .inr (4, [.ref (G.1 + 1), .int (f 1), .int (f 2), .int (f 3), .int (f 4)])
  | 8 => .inr (2, [.ref (G.1 + 1), .int (f 1), .int (f 2), .int (f 3)])
  | 9 => .inr (5, [.ref (G.1 + 1), .ref (G.1 + 7), .ref (G.1 + 8), .ref (G.1 + 10), .ref (G.1 + 11), .ref (G.1 + 12), .ref (G.1 + 13), .ref (G.1 + 14), .int (f 8), .int (f 9), .int (f 10)])
  | 10 => g_ai G 780 f
  | 11 => g_ai G 780 f
  | 12 => g_ai G 40 f
  | 13 => g_ai G 40 f
  | 14 => .inr (6, [.ref (G.1 + 15), .int (f 1)])
  | 15 => g_ai G 16 f
  | 16 => .inr (9, [.ref (G.1 + 1), .ref (G.1 + 17), .int (f 2)])
  | _ => .inl (G.2.2 2, 12, .inr (.inr (.inr (.inr (fun i => some (G.1 + (18 + 3 * i)))))))
def g_sh2 (G : g_G) (k : Nat) (f : Nat → Int32) (g : Nat → Int64) : va_E := match k with
  | 0 => .inr (11, [.int (f 0), .int (f 1), .int (f 2), .int (f 3), .int (f 4), .ref (G.1 + 150), .ref (G.1 + 151), .ref (G.1 + 152), .ref (G.1 + 153), .ref (G.1 + 154), .ref (G.1 + 155), .ref (G.1 + 156), .ref (G.1 + 157), .ref (G.1 + 158), .ref (G.1 + 159), .int (f 15), .int (f 16), .int (f 17), .long (g 18), .long (g 19), .ref (G.1 + 160), .ref (G.1 + 161), .int (f 22), .ref (G.1 + 162), .ref (G.1 + 163), .int (f 25), .int (f 26), .int (f 27), .ref (G.1 + 164), .ref (G.1 + 165), .ref (G.1 + 166), .ref (G.1 + 167), .long (g 32), .long (g 33), .long (g 34), .long (g 35)])
  | 1 => g_ai G 60 f
  | 2 => g_ai G 60 f
  | 3 => g_ai G 60 f
  | 4 => g_ai G 60 f
  | 5 => g_ai G 60 f
  | 6 => g_ai G 12 f
  | 7 => g_ai G 12 f
  | 8 => g_ai G 96 f
  | 9 => g_az G 12 f
  | 10 => g_ai G 16 f
  | 11 => g_ai G 1800 f
  | 12 => g_ai G 1800 f
  | 13 => g_ai G 800 f
  | 14 => g_ai G 800 f
  | 15 => g_ai G 30 f
  | 16 => g_ai G 360 f
  | 17 => g_ai G 2880 f
  | _ => g_az G 360 f
def g_sh (G : g_G) (k : Nat) (f : Nat → Int32) (g : Nat → Int64) : va_E :=
  if k < 18 then g_sh1 G k f
  else if k < 54 then (if k % 3 = 0 then .inr (8, [.int (f 0), .int (f 1), .ref (G.1 + (k + 1))]) else if k % 3 = 1 then .inr (6, [.ref (G.1 + (k + 1)), .int (f 1)]) else g_ai G 16 f)
  else if k < 56 then (if k = 54 then .inr (1, [.ref (G.1 + 55), .int (f 1), .int (f 2)]) else .inl (G.2.2 3, 30, .inr (.inr (.inr (.inr (fun i => some (G.1 + (56 + 3 * i))))))))
  else if k < 146 then (if k % 3 = 2 then .inr (0, [.int (f 0), .int (f 1), .int (f 2), .ref (G.1 + (k + 1))]) else if k % 3 = 0 then .inr (6, [.ref (G.1 + (k + 1)), .int (f 1)]) else g_ai G 16 f)
  else if k < 149 then (if k = 146 then .inr (3, [.long (g 0), .long (g 1), .long (g 2), .long (g 3), .long (g 4)]) else if k = 147 then .inr (6, [.ref (G.1 + 148), .int (f 1)]) else g_ai G 16 f)
  else g_sh2 G (k - 149) f g
/-- a row of dots: its object; its array stands behind it -/
def g_row (k : Nat) : Prop := k = 14 ∨ k = 147 ∨ (∃ p, p < 12 ∧ k = 19 + 3 * p) ∨ ∃ i, i < 30 ∧ k = 57 + 3 * i
theorem sh_row {G : g_G} {k : Nat} (h : g_row k) (f : Nat → Int32) (g : Nat → Int64) : g_sh G k f g = .inr (6, [.ref (G.1 + (k + 1)), .int (f 1)]) := by
  rcases h with rfl | rfl | ⟨p, hp, rfl⟩ | ⟨i, hi, rfl⟩
  · rfl
  · rfl
  · unfold g_sh
    rw [if_neg (by omega), if_pos (by omega), if_neg (by omega), if_pos (by omega)]
  · unfold g_sh
    rw [if_neg (by omega), if_neg (by omega), if_neg (by omega), if_pos (by omega), if_neg (by omega), if_pos (by omega)]
theorem sh_rowD {G : g_G} {k : Nat} (h : g_row k) (f : Nat → Int32) (g : Nat → Int64) : g_sh G (k + 1) f g = g_ai G 16 f := by
  rcases h with rfl | rfl | ⟨p, hp, rfl⟩ | ⟨i, hi, rfl⟩
  · rfl
  · rfl
  · unfold g_sh
    rw [if_neg (by omega), if_pos (by omega), if_neg (by omega), if_neg (by omega)]
  · unfold g_sh
    rw [if_neg (by omega), if_neg (by omega), if_neg (by omega), if_pos (by omega), if_neg (by omega), if_neg (by omega)]
theorem g_row_lt {k : Nat} (h : g_row k) : k + 1 < 168 := by
  rcases h with rfl | rfl | ⟨p, hp, rfl⟩ | ⟨i, hi, rfl⟩ <;> omega
theorem sh_wan {G : g_G} {p : Nat} (h : p < 12) (f : Nat → Int32) (g : Nat → Int64) : g_sh G (18 + 3 * p) f g = .inr (8, [.int (f 0), .int (f 1), .ref (G.1 + (19 + 3 * p))]) := by
  unfold g_sh
  rw [if_neg (by omega), if_pos (by omega), if_pos (by omega), show 18 + 3 * p + 1 = 19 + 3 * p by omega]
theorem sh_act {G : g_G} {i : Nat} (h : i < 30) (f : Nat → Int32) (g : Nat → Int64) : g_sh G (56 + 3 * i) f g = .inr (0, [.int (f 0), .int (f 1), .int (f 2), .ref (G.1 + (57 + 3 * i))]) := by
  unfold g_sh
  rw [if_neg (by omega), if_neg (by omega), if_neg (by omega), if_pos (by omega), if_pos (by omega), show 56 + 3 * i + 1 = 57 + 3 * i by omega]
def g_E (G : g_G) (M : g_M) (L : g_L) : Nat → va_E := fun k => g_sh G k (M k) (L k)
def g_H (G : g_G) (M : g_M) (L : g_L) (H : Heap) : Prop := va_P G.2.1 vwCl (g_ws G.1 168 (g_E G M L)) H
/-- a number is stored -/
def g_st (M : g_M) (k j : Nat) (x : Int32) : g_M := fun a => if a = k then upd (M k) j x else M a
def g_sl (L : g_L) (k j : Nat) (x : Int64) : g_L := fun a => if a = k then vp_updL (L k) j x else L a
theorem g_st_ap (M : g_M) (k j : Nat) (x : Int32) (a b : Nat) : g_st M k j x a b = if a = k ∧ b = j then x else M a b := by
  unfold g_st upd
  by_cases h : a = k
  · subst h
    by_cases h2 : b = j <;> simp [h2]
  · simp [h]
theorem g_sl_ap (L : g_L) (k j : Nat) (x : Int64) (a b : Nat) : g_sl L k j x a b = if a = k ∧ b = j then x else L a b := by
  unfold g_sl vp_updL
  by_cases h : a = k
  · subst h
    by_cases h2 : b = j <;> simp [h2]
  · simp [h]
theorem g_E_st {G : g_G} {M : g_M} {L : g_L} {k j : Nat} {x : Int32} : va_up (g_E G M L) k (g_sh G k (upd (M k) j x) (L k)) = g_E G (g_st M k j x) L := by
  funext a
  by_cases h : a = k
  · subst h
    rw [va_up_self]
    simp [g_E, g_st]
  · rw [va_up_ne _ _ h]
    simp [g_E, g_st, h]
theorem g_E_sl {G : g_G} {M : g_M} {L : g_L} {k j : Nat} {x : Int64} : va_up (g_E G M L) k (g_sh G k (M k) (vp_updL (L k) j x)) = g_E G M (g_sl L k j x) := by
  funext a
  by_cases h : a = k
  · subst h
    rw [va_up_self]
    simp [g_E, g_sl]
  · rw [va_up_ne _ _ h]
    simp [g_E, g_sl, h]
theorem g_cell {G : g_G} {M : g_M} {L : g_L} {k : Nat} {e : va_E} (hk : k < 168) (h : g_sh G k (M k) (L k) = e) : (g_ws G.1 168 (g_E G M L))[k]? = some (G.1 + k, e) := by
  rw [g_ws_at hk]; unfold g_E; rw [h]
/-! the machine at a place of a method, with a memory -/
abbrev g_X : Type := g_G × Program × Launch × Env × Room × State × MethodId × Array Value × List Frame × Method × Code × Nat × Nat × (State → Prop) × Nat
abbrev xp (X : g_X) : Program := X.2.1
abbrev xl (X : g_X) : Launch := X.2.2.1
abbrev xe (X : g_X) : Env := X.2.2.2.1
abbrev xR (X : g_X) : Room := X.2.2.2.2.1
abbrev xs (X : g_X) : State := X.2.2.2.2.2.1
abbrev xm (X : g_X) : MethodId := X.2.2.2.2.2.2.1
abbrev xa (X : g_X) : Array Value := X.2.2.2.2.2.2.2.1
abbrev xb (X : g_X) : List Frame := X.2.2.2.2.2.2.2.2.1
abbrev xh (X : g_X) : Method := X.2.2.2.2.2.2.2.2.2.1
abbrev xc (X : g_X) : Code := X.2.2.2.2.2.2.2.2.2.2.1
abbrev xk (X : g_X) : Nat := X.2.2.2.2.2.2.2.2.2.2.2.1
abbrev xo (X : g_X) : Nat := X.2.2.2.2.2.2.2.2.2.2.2.2.1
abbrev xQ (X : g_X) : State → Prop := X.2.2.2.2.2.2.2.2.2.2.2.2.2.1
abbrev xn (X : g_X) : Nat := X.2.2.2.2.2.2.2.2.2.2.2.2.2.2
def wx (X : g_X) (M : g_M) (L : g_L) (pc : Nat) (lv : List (Nat × Value)) (st : List Value) : Prop :=
  ∀ (H : Heap) (locs : List Loc) (ls : Array Slot), g_H X.1 M L H → va_S (g_A X.1) (xs X).heap H locs → lv_has ls (xn X) lv → W (xp X) (xl X) (xe X) (xR X) (xs X) (xm X) (xa X) (xb X) (xh X) (xc X) H locs (xk X) (xo X) (xQ X) (F0 (xm X) pc ls st)
/-- what a method knows of its machine: code, locals, class, answer's type, how deep its calls go -/
def Cx (X : g_X) (cc : ByteArray) (nL : Nat) (own : String) (ret : Option FieldType) (d : Nat) : Prop :=
  (xp X).tables.exec = Jvm.exec ∧ (xc X).code = cc ∧ (xc X).maxLocals = nL ∧ xn X = nL ∧ (xs X).vm.findClass own = some (xm X).cls ∧ (∀ w ∈ g_tb, w.before (xa X) (xs X) = true) ∧ va_K X.1.2.1 vwCl (g_tys X.1) (xs X) ∧ (xh X).sig.returnType = ret ∧ (xh X).locks = false ∧ (d ≤ (xR X).frames ∧ 40 * d ≤ (xR X).locals) ∧ xk X ≤ (xR X).cells ∧ xo X ≤ (xR X).slots
section WX
variable {X : g_X} {cc : ByteArray} {nL : Nat} {own : String} {ret : Option FieldType} {d : Nat} {M : g_M} {L : g_L} {pc : Nat} {lv : List (Nat × Value)} {st : List Value}
theorem Cx.hx (C : Cx X cc nL own ret d) : (xp X).tables.exec = Jvm.exec := C.1
theorem Cx.hb (C : Cx X cc nL own ret d) : (xc X).code = cc := C.2.1
theorem Cx.ho (C : Cx X cc nL own ret d) : (xs X).vm.findClass own = some (xm X).cls := C.2.2.2.2.1
theorem Cx.ht (C : Cx X cc nL own ret d) : ∀ w ∈ g_tb, w.before (xa X) (xs X) = true := C.2.2.2.2.2.1
theorem Cx.hK (C : Cx X cc nL own ret d) : va_K X.1.2.1 vwCl (g_tys X.1) (xs X) := C.2.2.2.2.2.2.1
theorem Cx.hr (C : Cx X cc nL own ret d) : (xh X).sig.returnType = ret := C.2.2.2.2.2.2.2.1
theorem Cx.hlk (C : Cx X cc nL own ret d) : (xh X).locks = false := C.2.2.2.2.2.2.2.2.1
theorem Cx.hd (C : Cx X cc nL own ret d) : d ≤ (xR X).frames ∧ 40 * d ≤ (xR X).locals := C.2.2.2.2.2.2.2.2.2.1
theorem Cx.hc (C : Cx X cc nL own ret d) : xk X ≤ (xR X).cells ∧ xo X ≤ (xR X).slots := C.2.2.2.2.2.2.2.2.2.2
theorem Cx.hn (C : Cx X cc nL own ret d) : xn X = nL := C.2.2.2.1
theorem Cx.hm (C : Cx X cc nL own ret d) : (xc X).maxLocals = nL := C.2.2.1
theorem wx_iconst (C : Cx X cc nL own ret d) {n : Int} (v : Int32) (hd : decode cc pc = .ok (.iconst n, 1)) (hv : Int32.ofInt n = v) (k : wx X M L (pc + 1) lv (.int v :: st)) : wx X M L pc lv st := fun H locs ls hH hS hl => lv_iconst C.hx C.hb hd hv (k H locs ls hH hS hl)
theorem wx_bipush (C : Cx X cc nL own ret d) {n : Int} (v : Int32) (hd : decode cc pc = .ok (.bipush n, 2)) (hv : (Int8.ofInt n).toInt32 = v) (k : wx X M L (pc + 2) lv (.int v :: st)) : wx X M L pc lv st := fun H locs ls hH hS hl => lv_bipush C.hx C.hb hd hv (k H locs ls hH hS hl)
theorem wx_sipush (C : Cx X cc nL own ret d) {n : Int} (v : Int32) (hd : decode cc pc = .ok (.sipush n, 3)) (hv : (Int16.ofInt n).toInt32 = v) (k : wx X M L (pc + 3) lv (.int v :: st)) : wx X M L pc lv st := fun H locs ls hH hS hl => lv_sipush C.hx C.hb hd hv (k H locs ls hH hS hl)
theorem wx_lconst (C : Cx X cc nL own ret d) {n : Fin 2} (v : Int64) (hd : decode cc pc = .ok (.lconst n, 1)) (hv : Int64.ofNat (n : Nat) = v) (k : wx X M L (pc + 1) lv (.long v :: st)) : wx X M L pc lv st := fun H locs ls hH hS hl => lv_lconst C.hx C.hb hd hv (k H locs ls hH hS hl)
theorem wx_iload_n (C : Cx X cc nL own ret d) {k : Fin 4} {i : Nat} {x : Int32} (q : Nat) (hd : decode cc pc = .ok (.iload_n k, 1)) (hi : (k : Nat) = i) (hl : lv[q]? = some (i, .int x)) (kk : wx X M L (pc + 1) lv (.int x :: st)) : wx X M L pc lv st := fun H locs ls hH hS h => lv_iload_n C.hx C.hb hd hi (lv_at h q hl) (kk H locs ls hH hS h)
theorem wx_iload (C : Cx X cc nL own ret d) {i : Nat} {x : Int32} (q : Nat) (hd : decode cc pc = .ok (.iload i, 2)) (hl : lv[q]? = some (i, .int x)) (kk : wx X M L (pc + 2) lv (.int x :: st)) : wx X M L pc lv st := fun H locs ls hH hS h => lv_iload C.hx C.hb hd (lv_at h q hl) (kk H locs ls hH hS h)
theorem wx_lload_n (C : Cx X cc nL own ret d) {k : Fin 4} {i : Nat} {x : Int64} (q : Nat) (hd : decode cc pc = .ok (.lload_n k, 1)) (hi : (k : Nat) = i) (hl : lv[q]? = some (i, .long x)) (kk : wx X M L (pc + 1) lv (.long x :: st)) : wx X M L pc lv st := fun H locs ls hH hS h => lv_lload_n C.hx C.hb hd hi (lv_at h q hl) (kk H locs ls hH hS h)
theorem wx_lload (C : Cx X cc nL own ret d) {i : Nat} {x : Int64} (q : Nat) (hd : decode cc pc = .ok (.lload i, 2)) (hl : lv[q]? = some (i, .long x)) (kk : wx X M L (pc + 2) lv (.long x :: st)) : wx X M L pc lv st := fun H locs ls hH hS h => lv_lload C.hx C.hb hd (lv_at h q hl) (kk H locs ls hH hS h)
theorem wx_aload_n (C : Cx X cc nL own ret d) {k : Fin 4} {i : Nat} {x : Nat} (q : Nat) (hd : decode cc pc = .ok (.aload_n k, 1)) (hi : (k : Nat) = i) (hl : lv[q]? = some (i, .ref x)) (kk : wx X M L (pc + 1) lv (.ref x :: st)) : wx X M L pc lv st := fun H locs ls hH hS h => lv_aload_n C.hx C.hb hd hi (lv_at h q hl) (kk H locs ls hH hS h)
theorem wx_aload (C : Cx X cc nL own ret d) {i : Nat} {x : Nat} (q : Nat) (hd : decode cc pc = .ok (.aload i, 2)) (hl : lv[q]? = some (i, .ref x)) (kk : wx X M L (pc + 2) lv (.ref x :: st)) : wx X M L pc lv st := fun H locs ls hH hS h => lv_aload C.hx C.hb hd (lv_at h q hl) (kk H locs ls hH hS h)
theorem wx_aload_nN (C : Cx X cc nL own ret d) {k : Fin 4} {i : Nat} (q : Nat) (hd : decode cc pc = .ok (.aload_n k, 1)) (hi : (k : Nat) = i) (hl : lv[q]? = some (i, .null)) (kk : wx X M L (pc + 1) lv (.null :: st)) : wx X M L pc lv st := fun H locs ls hH hS h => lv_aload_nN C.hx C.hb hd hi (lv_at h q hl) (kk H locs ls hH hS h)
/-- the listed locals behind a store: by their places in the list that the kit's row gives -/
abbrev lx1 (lv : List (Nat × Value)) (i : Nat) (v : Value) : List (Nat × Value) := (i, v) :: lv.filter (fun q => !(q.1 == i) && !(q.1 + 1 == i && q.2.category == 2))
abbrev lx2 (lv : List (Nat × Value)) (i : Nat) (v : Value) : List (Nat × Value) := (i, v) :: lv.filter (fun q => !(q.1 == i) && (!(q.1 == i + 1) && !(q.1 + 1 == i && q.2.category == 2)))
theorem wx_istore_n (C : Cx X cc nL own ret d) {k : Fin 4} {i : Nat} {x : Int32} (ks : List Nat) (lv' : List (Nat × Value)) (hd : decode cc pc = .ok (.istore_n k, 1)) (hi : (k : Nat) = i) (hn : i < nL) (hl : lv_pick (lx1 lv i (.int x)) ks = lv') (kk : wx X M L (pc + 1) lv' st) : wx X M L pc lv (.int x :: st) := fun H locs ls hH hS h => lv_istore_n C.hx C.hb hd hi h (by rw [C.hn]; exact hn) rfl (fun ls' h' => kk H locs ls' hH hS (lv_sub h' ks hl))
theorem wx_istore (C : Cx X cc nL own ret d) {i : Nat} {x : Int32} (ks : List Nat) (lv' : List (Nat × Value)) (hd : decode cc pc = .ok (.istore i, 2)) (hn : i < nL) (hl : lv_pick (lx1 lv i (.int x)) ks = lv') (kk : wx X M L (pc + 2) lv' st) : wx X M L pc lv (.int x :: st) := fun H locs ls hH hS h => lv_istore C.hx C.hb hd h (by rw [C.hn]; exact hn) rfl (fun ls' h' => kk H locs ls' hH hS (lv_sub h' ks hl))
theorem wx_lstore_n (C : Cx X cc nL own ret d) {k : Fin 4} {i : Nat} {x : Int64} (ks : List Nat) (lv' : List (Nat × Value)) (hd : decode cc pc = .ok (.lstore_n k, 1)) (hi : (k : Nat) = i) (hn : i + 1 < nL) (hl : lv_pick (lx2 lv i (.long x)) ks = lv') (kk : wx X M L (pc + 1) lv' st) : wx X M L pc lv (.long x :: st) := fun H locs ls hH hS h => lv_lstore_n C.hx C.hb hd hi h (by rw [C.hn]; exact hn) rfl (fun ls' h' => kk H locs ls' hH hS (lv_sub h' ks hl))
theorem wx_lstore (C : Cx X cc nL own ret d) {i : Nat} {x : Int64} (ks : List Nat) (lv' : List (Nat × Value)) (hd : decode cc pc = .ok (.lstore i, 2)) (hn : i + 1 < nL) (hl : lv_pick (lx2 lv i (.long x)) ks = lv') (kk : wx X M L (pc + 2) lv' st) : wx X M L pc lv (.long x :: st) := fun H locs ls hH hS h => lv_lstore C.hx C.hb hd h (by rw [C.hn]; exact hn) rfl (fun ls' h' => kk H locs ls' hH hS (lv_sub h' ks hl))
theorem wx_astore_n (C : Cx X cc nL own ret d) {k : Fin 4} {i : Nat} {x : Nat} (ks : List Nat) (lv' : List (Nat × Value)) (hd : decode cc pc = .ok (.astore_n k, 1)) (hi : (k : Nat) = i) (hn : i < nL) (hl : lv_pick (lx1 lv i (.ref x)) ks = lv') (kk : wx X M L (pc + 1) lv' st) : wx X M L pc lv (.ref x :: st) := fun H locs ls hH hS h => lv_astore_n C.hx C.hb hd hi h (by rw [C.hn]; exact hn) rfl (fun ls' h' => kk H locs ls' hH hS (lv_sub h' ks hl))
theorem wx_astore (C : Cx X cc nL own ret d) {i : Nat} {x : Nat} (ks : List Nat) (lv' : List (Nat × Value)) (hd : decode cc pc = .ok (.astore i, 2)) (hn : i < nL) (hl : lv_pick (lx1 lv i (.ref x)) ks = lv') (kk : wx X M L (pc + 2) lv' st) : wx X M L pc lv (.ref x :: st) := fun H locs ls hH hS h => lv_astore C.hx C.hb hd h (by rw [C.hn]; exact hn) rfl (fun ls' h' => kk H locs ls' hH hS (lv_sub h' ks hl))
theorem wx_iinc (C : Cx X cc nL own ret d) {i : Nat} {n : Int} {x v : Int32} (q : Nat) (ks : List Nat) (lv' : List (Nat × Value)) (hd : decode cc pc = .ok (.iinc i n, 3)) (hq : lv[q]? = some (i, .int x)) (hv : x + Int32.ofInt n = v) (hn : i < nL) (hl : lv_pick (lx1 lv i (.int v)) ks = lv') (kk : wx X M L (pc + 3) lv' st) : wx X M L pc lv st := fun H locs ls hH hS h => lv_iinc C.hx C.hb hd h hq hv (by rw [C.hn]; exact hn) rfl (fun ls' h' => kk H locs ls' hH hS (lv_sub h' ks hl))
theorem wx_iadd (C : Cx X cc nL own ret d) {x y : Int32} (hd : decode cc pc = .ok (.iadd, 1)) (k : wx X M L (pc + 1) lv (.int (x + y) :: st)) : wx X M L pc lv (.int y :: .int x :: st) := fun H locs ls hH hS h => lv_iadd C.hx C.hb hd (k H locs ls hH hS h)
theorem wx_isub (C : Cx X cc nL own ret d) {x y : Int32} (hd : decode cc pc = .ok (.isub, 1)) (k : wx X M L (pc + 1) lv (.int (x - y) :: st)) : wx X M L pc lv (.int y :: .int x :: st) := fun H locs ls hH hS h => lv_isub C.hx C.hb hd (k H locs ls hH hS h)
theorem wx_imul (C : Cx X cc nL own ret d) {x y : Int32} (hd : decode cc pc = .ok (.imul, 1)) (k : wx X M L (pc + 1) lv (.int (x * y) :: st)) : wx X M L pc lv (.int y :: .int x :: st) := fun H locs ls hH hS h => lv_imul C.hx C.hb hd (k H locs ls hH hS h)
theorem wx_iand (C : Cx X cc nL own ret d) {x y : Int32} (hd : decode cc pc = .ok (.iand, 1)) (k : wx X M L (pc + 1) lv (.int (x &&& y) :: st)) : wx X M L pc lv (.int y :: .int x :: st) := fun H locs ls hH hS h => lv_iand C.hx C.hb hd (k H locs ls hH hS h)
theorem wx_ixor (C : Cx X cc nL own ret d) {x y : Int32} (hd : decode cc pc = .ok (.ixor, 1)) (k : wx X M L (pc + 1) lv (.int (x ^^^ y) :: st)) : wx X M L pc lv (.int y :: .int x :: st) := fun H locs ls hH hS h => lv_ixor C.hx C.hb hd (k H locs ls hH hS h)
theorem wx_idiv (C : Cx X cc nL own ret d) {x y : Int32} (hd : decode cc pc = .ok (.idiv, 1)) (hne : ¬ y = 0) (k : wx X M L (pc + 1) lv (.int (x / y) :: st)) : wx X M L pc lv (.int y :: .int x :: st) := fun H locs ls hH hS h => lv_idiv C.hx C.hb hd hne (k H locs ls hH hS h)
theorem wx_irem (C : Cx X cc nL own ret d) {x y : Int32} (hd : decode cc pc = .ok (.irem, 1)) (hne : ¬ y = 0) (k : wx X M L (pc + 1) lv (.int (x - x / y * y) :: st)) : wx X M L pc lv (.int y :: .int x :: st) := fun H locs ls hH hS h => lv_irem C.hx C.hb hd hne (k H locs ls hH hS h)
theorem wx_ineg (C : Cx X cc nL own ret d) {x : Int32} (hd : decode cc pc = .ok (.ineg, 1)) (k : wx X M L (pc + 1) lv (.int (-x) :: st)) : wx X M L pc lv (.int x :: st) := fun H locs ls hH hS h => lv_ineg C.hx C.hb hd (k H locs ls hH hS h)
theorem wx_ishl (C : Cx X cc nL own ret d) {x y : Int32} (hd : decode cc pc = .ok (.ishl, 1)) (k : wx X M L (pc + 1) lv (.int (x <<< (y &&& 31)) :: st)) : wx X M L pc lv (.int y :: .int x :: st) := fun H locs ls hH hS h => lv_ishl C.hx C.hb hd (k H locs ls hH hS h)
theorem wx_ishr (C : Cx X cc nL own ret d) {x y : Int32} (hd : decode cc pc = .ok (.ishr, 1)) (k : wx X M L (pc + 1) lv (.int (x >>> (y &&& 31)) :: st)) : wx X M L pc lv (.int y :: .int x :: st) := fun H locs ls hH hS h => lv_ishr C.hx C.hb hd (k H locs ls hH hS h)
theorem wx_iushr (C : Cx X cc nL own ret d) {x y : Int32} (hd : decode cc pc = .ok (.iushr, 1)) (k : wx X M L (pc + 1) lv (.int ((x.toUInt32 >>> (y.toUInt32 &&& Int32.toUInt32 31)).toInt32) :: st)) : wx X M L pc lv (.int y :: .int x :: st) := fun H locs ls hH hS h => lv_iushr C.hx C.hb hd rfl (k H locs ls hH hS h)
theorem wx_ladd (C : Cx X cc nL own ret d) {x y : Int64} (hd : decode cc pc = .ok (.ladd, 1)) (k : wx X M L (pc + 1) lv (.long (x + y) :: st)) : wx X M L pc lv (.long y :: .long x :: st) := fun H locs ls hH hS h => lv_ladd C.hx C.hb hd (k H locs ls hH hS h)
theorem wx_lsub (C : Cx X cc nL own ret d) {x y : Int64} (hd : decode cc pc = .ok (.lsub, 1)) (k : wx X M L (pc + 1) lv (.long (x - y) :: st)) : wx X M L pc lv (.long y :: .long x :: st) := fun H locs ls hH hS h => lv_lsub C.hx C.hb hd (k H locs ls hH hS h)
theorem wx_lmul (C : Cx X cc nL own ret d) {x y : Int64} (hd : decode cc pc = .ok (.lmul, 1)) (k : wx X M L (pc + 1) lv (.long (x * y) :: st)) : wx X M L pc lv (.long y :: .long x :: st) := fun H locs ls hH hS h => lv_lmul C.hx C.hb hd (k H locs ls hH hS h)
theorem wx_ldiv (C : Cx X cc nL own ret d) {x y : Int64} (hd : decode cc pc = .ok (.ldiv, 1)) (hne : ¬ y = 0) (k : wx X M L (pc + 1) lv (.long (x / y) :: st)) : wx X M L pc lv (.long y :: .long x :: st) := fun H locs ls hH hS h => lv_ldiv C.hx C.hb hd hne (k H locs ls hH hS h)
theorem wx_lrem (C : Cx X cc nL own ret d) {x y : Int64} (hd : decode cc pc = .ok (.lrem, 1)) (hne : ¬ y = 0) (k : wx X M L (pc + 1) lv (.long (x - x / y * y) :: st)) : wx X M L pc lv (.long y :: .long x :: st) := fun H locs ls hH hS h => lv_lrem C.hx C.hb hd hne (k H locs ls hH hS h)
theorem wx_lneg (C : Cx X cc nL own ret d) {x : Int64} (hd : decode cc pc = .ok (.lneg, 1)) (k : wx X M L (pc + 1) lv (.long (-x) :: st)) : wx X M L pc lv (.long x :: st) := fun H locs ls hH hS h => lv_lneg C.hx C.hb hd (k H locs ls hH hS h)
theorem wx_lcmp (C : Cx X cc nL own ret d) {x y : Int64} (hd : decode cc pc = .ok (.lcmp, 1)) (k : wx X M L (pc + 1) lv (.int (lg_cmp x y) :: st)) : wx X M L pc lv (.long y :: .long x :: st) := fun H locs ls hH hS h => W.lcmp C.hx C.hb hd (k H locs ls hH hS h)
theorem wx_i2l (C : Cx X cc nL own ret d) {x : Int32} (hd : decode cc pc = .ok (.i2l, 1)) (k : wx X M L (pc + 1) lv (.long x.toInt64 :: st)) : wx X M L pc lv (.int x :: st) := fun H locs ls hH hS h => lv_i2l C.hx C.hb hd rfl (k H locs ls hH hS h)
theorem wx_dup (C : Cx X cc nL own ret d) {v : Value} (hd : decode cc pc = .ok (.dup, 1)) (hv : v.category = 1) (k : wx X M L (pc + 1) lv (v :: v :: st)) : wx X M L pc lv (v :: st) := fun H locs ls hH hS h => lv_dup C.hx C.hb hd hv (k H locs ls hH hS h)
theorem wx_pop (C : Cx X cc nL own ret d) {v : Value} (hd : decode cc pc = .ok (.pop, 1)) (hv : v.category = 1) (k : wx X M L (pc + 1) lv st) : wx X M L pc lv (v :: st) := fun H locs ls hH hS h => lv_pop C.hx C.hb hd hv (k H locs ls hH hS h)
theorem wx_dup2 (C : Cx X cc nL own ret d) {v w : Value} (hd : decode cc pc = .ok (.dup2, 1)) (hv : v.category = 1) (hw : w.category = 1) (k : wx X M L (pc + 1) lv (v :: w :: v :: w :: st)) : wx X M L pc lv (v :: w :: st) := fun H locs ls hH hS h => lv_dup2_11 C.hx C.hb hd hv hw (k H locs ls hH hS h)
theorem wx_goto (C : Cx X cc nL own ret d) {off : Int} (tgt : Nat) (hd : decode cc pc = .ok (.goto off, 3)) (ht : (pc : Int) + off = (tgt : Int)) (k : wx X M L tgt lv st) : wx X M L pc lv st := fun H locs ls hH hS h => lv_goto C.hx C.hb hd ht (k H locs ls hH hS h)
theorem wx_ldc2 (C : Cx X cc nL own ret d) {index : Nat} {v : Int64} (hw : Cond.constantLong own index v ∈ g_tb) (hd : decode cc pc = .ok (.ldc2_w index, 3)) (k : wx X M L (pc + 3) lv (.long v :: st)) : wx X M L pc lv st := fun H locs ls hH hS h => lv_ldc2 C.hx C.hb C.ho (C.ht _ hw) hd (k H locs ls hH hS h)
theorem wx_ldcw (C : Cx X cc nL own ret d) {index : Nat} {v : Int32} (hw : Cond.constant own index v ∈ g_tb) (hd : decode cc pc = .ok (.ldc_w index, 3)) (k : wx X M L (pc + 3) lv (.int v :: st)) : wx X M L pc lv st := fun H locs ls hH hS h => lv_ldcw C.hx C.hb C.ho (C.ht _ hw) hd (k H locs ls hH hS h)
theorem wx_tin (C : Cx X cc nL own ret d) {dflt lo hi : Int} {offs : Array Int} {len : Nat} {x : Int32} {off : Int} (tgt : Nat) (hd : decode cc pc = .ok (.tableswitch dflt lo hi offs, len)) (h1 : ¬ x.toInt < lo) (h2 : ¬ hi < x.toInt) (ho : offs[(x.toInt - lo).toNat]? = some off) (ht : (pc : Int) + off = (tgt : Int)) (k : wx X M L tgt lv st) : wx X M L pc lv (.int x :: st) := fun H locs ls hH hS h => lv_tableIn C.hx C.hb hd h1 h2 ho ht (k H locs ls hH hS h)
theorem wx_tout (C : Cx X cc nL own ret d) {dflt lo hi : Int} {offs : Array Int} {len : Nat} {x : Int32} (tgt : Nat) (hd : decode cc pc = .ok (.tableswitch dflt lo hi offs, len)) (h1 : x.toInt < lo ∨ hi < x.toInt) (ht : (pc : Int) + dflt = (tgt : Int)) (k : wx X M L tgt lv st) : wx X M L pc lv (.int x :: st) := fun H locs ls hH hS h => lv_tableOut C.hx C.hb hd h1 ht (k H locs ls hH hS h)
theorem wx_ifnonnull (C : Cx X cc nL own ret d) {x : Nat} {off : Int} (tgt : Nat) (hd : decode cc pc = .ok (.ifnonnull off, 3)) (ht : (pc : Int) + off = (tgt : Int)) (k : wx X M L tgt lv st) : wx X M L pc lv (.ref x :: st) := fun H locs ls hH hS h => lv_ifnonnull C.hx C.hb hd ht (k H locs ls hH hS h)
theorem wx_ifnonnullN (C : Cx X cc nL own ret d) {off : Int} (hd : decode cc pc = .ok (.ifnonnull off, 3)) (k : wx X M L (pc + 3) lv st) : wx X M L pc lv (.null :: st) := fun H locs ls hH hS h => lv_ifnonnullN C.hx C.hb hd (k H locs ls hH hS h)
theorem wx_if_eq (C : Cx X cc nL own ret d) {x : Int32} {off : Int} (tgt : Nat) (hd : decode cc pc = .ok (.ifCond .eq off, 3)) (ht : (pc : Int) + off = (tgt : Int)) (kt : x = 0 → wx X M L tgt lv st) (kf : ¬ x = 0 → wx X M L (pc + 3) lv st) : wx X M L pc lv (.int x :: st) := fun H locs ls hH hS h => lv_if_eq C.hx C.hb hd ht (fun q => kt q H locs ls hH hS h) (fun q => kf q H locs ls hH hS h)
theorem wx_icmp_eq (C : Cx X cc nL own ret d) {x y : Int32} {off : Int} (tgt : Nat) (hd : decode cc pc = .ok (.if_icmp .eq off, 3)) (ht : (pc : Int) + off = (tgt : Int)) (kt : x = y → wx X M L tgt lv st) (kf : ¬ x = y → wx X M L (pc + 3) lv st) : wx X M L pc lv (.int y :: .int x :: st) := fun H locs ls hH hS h => lv_icmp_eq C.hx C.hb hd ht (fun q => kt q H locs ls hH hS h) (fun q => kf q H locs ls hH hS h)
theorem wx_if_ne (C : Cx X cc nL own ret d) {x : Int32} {off : Int} (tgt : Nat) (hd : decode cc pc = .ok (.ifCond .ne off, 3)) (ht : (pc : Int) + off = (tgt : Int)) (kt : ¬ x = 0 → wx X M L tgt lv st) (kf : x = 0 → wx X M L (pc + 3) lv st) : wx X M L pc lv (.int x :: st) := fun H locs ls hH hS h => lv_if_ne C.hx C.hb hd ht (fun q => kt q H locs ls hH hS h) (fun q => kf q H locs ls hH hS h)
theorem wx_icmp_ne (C : Cx X cc nL own ret d) {x y : Int32} {off : Int} (tgt : Nat) (hd : decode cc pc = .ok (.if_icmp .ne off, 3)) (ht : (pc : Int) + off = (tgt : Int)) (kt : ¬ x = y → wx X M L tgt lv st) (kf : x = y → wx X M L (pc + 3) lv st) : wx X M L pc lv (.int y :: .int x :: st) := fun H locs ls hH hS h => lv_icmp_ne C.hx C.hb hd ht (fun q => kt q H locs ls hH hS h) (fun q => kf q H locs ls hH hS h)
theorem wx_if_lt (C : Cx X cc nL own ret d) {x : Int32} {off : Int} (tgt : Nat) (hd : decode cc pc = .ok (.ifCond .lt off, 3)) (ht : (pc : Int) + off = (tgt : Int)) (kt : x < 0 → wx X M L tgt lv st) (kf : ¬ x < 0 → wx X M L (pc + 3) lv st) : wx X M L pc lv (.int x :: st) := fun H locs ls hH hS h => lv_if_lt C.hx C.hb hd ht (fun q => kt q H locs ls hH hS h) (fun q => kf q H locs ls hH hS h)
theorem wx_icmp_lt (C : Cx X cc nL own ret d) {x y : Int32} {off : Int} (tgt : Nat) (hd : decode cc pc = .ok (.if_icmp .lt off, 3)) (ht : (pc : Int) + off = (tgt : Int)) (kt : x < y → wx X M L tgt lv st) (kf : ¬ x < y → wx X M L (pc + 3) lv st) : wx X M L pc lv (.int y :: .int x :: st) := fun H locs ls hH hS h => lv_icmp_lt C.hx C.hb hd ht (fun q => kt q H locs ls hH hS h) (fun q => kf q H locs ls hH hS h)
theorem wx_if_ge (C : Cx X cc nL own ret d) {x : Int32} {off : Int} (tgt : Nat) (hd : decode cc pc = .ok (.ifCond .ge off, 3)) (ht : (pc : Int) + off = (tgt : Int)) (kt : 0 ≤ x → wx X M L tgt lv st) (kf : ¬ 0 ≤ x → wx X M L (pc + 3) lv st) : wx X M L pc lv (.int x :: st) := fun H locs ls hH hS h => lv_if_ge C.hx C.hb hd ht (fun q => kt q H locs ls hH hS h) (fun q => kf q H locs ls hH hS h)
theorem wx_icmp_ge (C : Cx X cc nL own ret d) {x y : Int32} {off : Int} (tgt : Nat) (hd : decode cc pc = .ok (.if_icmp .ge off, 3)) (ht : (pc : Int) + off = (tgt : Int)) (kt : y ≤ x → wx X M L tgt lv st) (kf : ¬ y ≤ x → wx X M L (pc + 3) lv st) : wx X M L pc lv (.int y :: .int x :: st) := fun H locs ls hH hS h => lv_icmp_ge C.hx C.hb hd ht (fun q => kt q H locs ls hH hS h) (fun q => kf q H locs ls hH hS h)
theorem wx_if_gt (C : Cx X cc nL own ret d) {x : Int32} {off : Int} (tgt : Nat) (hd : decode cc pc = .ok (.ifCond .gt off, 3)) (ht : (pc : Int) + off = (tgt : Int)) (kt : 0 < x → wx X M L tgt lv st) (kf : ¬ 0 < x → wx X M L (pc + 3) lv st) : wx X M L pc lv (.int x :: st) := fun H locs ls hH hS h => lv_if_gt C.hx C.hb hd ht (fun q => kt q H locs ls hH hS h) (fun q => kf q H locs ls hH hS h)
theorem wx_icmp_gt (C : Cx X cc nL own ret d) {x y : Int32} {off : Int} (tgt : Nat) (hd : decode cc pc = .ok (.if_icmp .gt off, 3)) (ht : (pc : Int) + off = (tgt : Int)) (kt : y < x → wx X M L tgt lv st) (kf : ¬ y < x → wx X M L (pc + 3) lv st) : wx X M L pc lv (.int y :: .int x :: st) := fun H locs ls hH hS h => lv_icmp_gt C.hx C.hb hd ht (fun q => kt q H locs ls hH hS h) (fun q => kf q H locs ls hH hS h)
theorem wx_if_le (C : Cx X cc nL own ret d) {x : Int32} {off : Int} (tgt : Nat) (hd : decode cc pc = .ok (.ifCond .le off, 3)) (ht : (pc : Int) + off = (tgt : Int)) (kt : x ≤ 0 → wx X M L tgt lv st) (kf : ¬ x ≤ 0 → wx X M L (pc + 3) lv st) : wx X M L pc lv (.int x :: st) := fun H locs ls hH hS h => lv_if_le C.hx C.hb hd ht (fun q => kt q H locs ls hH hS h) (fun q => kf q H locs ls hH hS h)
theorem wx_icmp_le (C : Cx X cc nL own ret d) {x y : Int32} {off : Int} (tgt : Nat) (hd : decode cc pc = .ok (.if_icmp .le off, 3)) (ht : (pc : Int) + off = (tgt : Int)) (kt : x ≤ y → wx X M L tgt lv st) (kf : ¬ x ≤ y → wx X M L (pc + 3) lv st) : wx X M L pc lv (.int y :: .int x :: st) := fun H locs ls hH hS h => lv_icmp_le C.hx C.hb hd ht (fun q => kt q H locs ls hH hS h) (fun q => kf q H locs ls hH hS h)
end WX
end
section
/-! ===== reading and writing the memory, calls, ends ===== -/
def g_Qc (G : g_G) (Qr : Option Value → g_M → g_L → Prop) : Array Value → State → Outcome → State → Prop := fun _ st oc t => (∃ (r : Option Value) (M : g_M) (L : g_L), oc = .returned r ∧ Qr r M L ∧ g_H G M L t.heap ∧ va_K G.2.1 vwCl (g_tys G) t) ∧ va_F (g_A G) st t
def Rx (X : g_X) (Qr : Option Value → g_M → g_L → Prop) : Prop := xQ X = MQ (xb X) (g_Qc X.1 Qr) (xa X) (xs X) (xk X) (xo X) (g_A X.1)
def rm (d : Nat) : Room := { frames := d, cells := 0, slots := 0, locals := 40 * d }
/-- a method's contract: from the memory M, L with these arguments it comes back, and what it answers and leaves is as Qr says -/
def mt (G : g_G) (y : MethodName) (cd : Cond) (d : Nat) (av : List Value) (M : g_M) (L : g_L) (Qr : Option Value → g_M → g_L → Prop) : Prop :=
  ∀ l : Launch, Met l y (cd :: g_tb) (rm d) (va_Pc av (fun U => g_H G M L U.heap ∧ va_K G.2.1 vwCl (g_tys G) U)) (g_Qc G Qr) 0 0 (g_A G)
def qI (P : Int32 → g_M → g_L → Prop) : Option Value → g_M → g_L → Prop := fun r M L => ∃ v, r = some (.int v) ∧ P v M L
def qL (P : Int64 → g_M → g_L → Prop) : Option Value → g_M → g_L → Prop := fun r M L => ∃ v, r = some (.long v) ∧ P v M L
def qV (P : g_M → g_L → Prop) : Option Value → g_M → g_L → Prop := fun r M L => r = none ∧ P M L
def qR (b : Nat) (P : Nat → g_M → g_L → Prop) : Option Value → g_M → g_L → Prop := fun r M L => ∃ k, r = some (.ref (b + k)) ∧ P k M L
def qN (b : Nat) (P : Option Nat → g_M → g_L → Prop) : Option Value → g_M → g_L → Prop := fun r M L => (r = some .null ∧ P none M L) ∨ ∃ k, r = some (.ref (b + k)) ∧ P (some k) M L
theorem g_wsl_good : GoodIn g_tb g_tb := fun w h => ⟨h, (g_tb_good w h).2⟩
theorem g_ws_good {cd : Cond} (h : cd ∈ g_tb) : GoodIn g_tb (cd :: g_tb) := fun w hw => by
  rcases List.mem_cons.mp hw with rfl | h2
  · exact g_wsl_good _ h
  · exact g_wsl_good _ h2
section WR
variable {X : g_X} {cc : ByteArray} {nL : Nat} {own : String} {ret : Option FieldType} {d : Nat} {M : g_M} {L : g_L} {pc : Nat} {lv : List (Nat × Value)} {st : List Value} {Qr : Option Value → g_M → g_L → Prop}
theorem wx_get (C : Cx X cc nL own ret d) (k j : Nat) {ci N index : Nat} {fs : List Value} {ref Cn : String} {T : u_T} {v : Value} (hk : k < 168) (he : g_sh X.1 k (M k) (L k) = .inr (ci, fs)) (hc : vwCl[ci]? = some (Cn, T, N)) (hin : ∀ w ∈ u_ws Cn T N, w ∈ g_tb) (hj : j < N) (hw : Cond.fieldLink own index ref (T j).2.1 (T j).2.2.1 ∈ g_tb) (href : ref = (T j).1) (hv : fs[j]? = some v) (hd : decode cc pc = .ok (.getfield index, 3)) (kk : wx X M L (pc + 3) lv (v :: st)) : wx X M L pc lv (.ref (X.1.1 + k) :: st) :=
  fun H locs ls hH hS h => va_get (D := X.1.2.1) C.hx C.hb C.ht hin C.ho C.hK hH k (g_cell hk he) hc j hj (C.ht _ hw) (by rw [href]; exact fun _ h => h) hv hd (kk H locs ls hH hS h)
theorem wx_put (C : Cx X cc nL own ret d) (k j : Nat) {ci N index : Nat} {fs : List Value} {ref Cn : String} {T : u_T} {x : Int32} {ty : FieldType} (ty0 : Nat → FieldType) (hk : k < 168) (he : g_sh X.1 k (M k) (L k) = .inr (ci, fs)) (he2 : g_sh X.1 k (upd (M k) j x) (L k) = .inr (ci, fs.set j (.int x))) (hc : vwCl[ci]? = some (Cn, T, N)) (hin : ∀ w ∈ u_ws Cn T N, w ∈ g_tb) (hty : ∀ k, k < N → parseFieldDescriptor (T k).2.2.1 = some (ty0 k)) (hnm : ∀ a, a < N → ∀ b, b < N → a ≠ b → (T a).2.1 ≠ (T b).2.1) (hj : j < N) (hw : Cond.fieldLink own index ref (T j).2.1 (T j).2.2.1 ∈ g_tb) (href : ref = (T j).1) (hfin : (T j).2.2.2 = false) (hpd : parseFieldDescriptor (T j).2.2.1 = some ty) (hn : narrow ty (.int x) = .int x) (hfit : fits ty (.int x) = true) (hl : j < fs.length) (hd : decode cc pc = .ok (.putfield index, 3)) (kk : wx X (g_st M k j x) L (pc + 3) lv st) : wx X M L pc lv (.int x :: .ref (X.1.1 + k) :: st) :=
  fun H locs ls hH hS h => va_put (D := X.1.2.1) C.hx C.hb C.ht hin ty0 hty hnm C.ho C.hK hH (g_ws_D (fun _ q => q)) hS k (g_cell hk he) hc j hj (C.ht _ hw) (by rw [href]; exact fun _ h => h) hfin hpd hn hfit hl hd (fun H1 locs1 hP1 _ hS1 => kk H1 locs1 ls (by rw [g_ws_set, ← he2, g_E_st] at hP1; exact hP1) hS1 h)
theorem wx_putl (C : Cx X cc nL own ret d) (k j : Nat) {ci N index : Nat} {fs : List Value} {ref Cn : String} {T : u_T} {x : Int64} {ty : FieldType} (ty0 : Nat → FieldType) (hk : k < 168) (he : g_sh X.1 k (M k) (L k) = .inr (ci, fs)) (he2 : g_sh X.1 k (M k) (vp_updL (L k) j x) = .inr (ci, fs.set j (.long x))) (hc : vwCl[ci]? = some (Cn, T, N)) (hin : ∀ w ∈ u_ws Cn T N, w ∈ g_tb) (hty : ∀ k, k < N → parseFieldDescriptor (T k).2.2.1 = some (ty0 k)) (hnm : ∀ a, a < N → ∀ b, b < N → a ≠ b → (T a).2.1 ≠ (T b).2.1) (hj : j < N) (hw : Cond.fieldLink own index ref (T j).2.1 (T j).2.2.1 ∈ g_tb) (href : ref = (T j).1) (hfin : (T j).2.2.2 = false) (hpd : parseFieldDescriptor (T j).2.2.1 = some ty) (hn : narrow ty (.long x) = .long x) (hfit : fits ty (.long x) = true) (hl : j < fs.length) (hd : decode cc pc = .ok (.putfield index, 3)) (kk : wx X M (g_sl L k j x) (pc + 3) lv st) : wx X M L pc lv (.long x :: .ref (X.1.1 + k) :: st) :=
  fun H locs ls hH hS h => va_put (D := X.1.2.1) C.hx C.hb C.ht hin ty0 hty hnm C.ho C.hK hH (g_ws_D (fun _ q => q)) hS k (g_cell hk he) hc j hj (C.ht _ hw) (by rw [href]; exact fun _ h => h) hfin hpd hn hfit hl hd (fun H1 locs1 hP1 _ hS1 => kk H1 locs1 ls (by rw [g_ws_set, ← he2, g_E_sl] at hP1; exact hP1) hS1 h)
theorem wx_iald (C : Cx X cc nL own ret d) (k j : Nat) {n : Nat} {i : Int32} (hk : k < 168) (he : ∀ f g, g_sh X.1 k f g = g_ai X.1 n f) (hn : n < 2 ^ 31) (hd : decode cc pc = .ok (.iaload, 1)) (hi : i = nI j) (hj : j < n) (kk : wx X M L (pc + 1) lv (.int (M k j) :: st)) : wx X M L pc lv (.int i :: .ref (X.1.1 + k) :: st) := by
  intro H locs ls hH hS h
  subst hi
  refine va_iald (D := X.1.2.1) C.hx C.hb C.hK hH k 0 (g_cell hk (he _ _)) rfl (vp_in_nI hj hn) hd ?_
  rw [nI_clamp (by omega)]
  exact kk H locs ls hH hS h
theorem wx_zald (C : Cx X cc nL own ret d) (k j : Nat) {n : Nat} {i : Int32} (hk : k < 168) (he : ∀ f g, g_sh X.1 k f g = g_az X.1 n f) (hn : n < 2 ^ 31) (hd : decode cc pc = .ok (.baload, 1)) (hi : i = nI j) (hj : j < n) (kk : wx X M L (pc + 1) lv (.int (M k j) :: st)) : wx X M L pc lv (.int i :: .ref (X.1.1 + k) :: st) := by
  intro H locs ls hH hS h
  subst hi
  refine va_zald (D := X.1.2.1) C.hx C.hb C.hK hH k 1 (g_cell hk (he _ _)) rfl (vp_in_nI hj hn) hd ?_
  rw [nI_clamp (by omega)]
  exact kk H locs ls hH hS h
theorem wx_iast (C : Cx X cc nL own ret d) (k j : Nat) {n : Nat} {i x : Int32} (hk : k < 168) (he : ∀ f g, g_sh X.1 k f g = g_ai X.1 n f) (hn : n < 2 ^ 31) (hd : decode cc pc = .ok (.iastore, 1)) (hi : i = nI j) (hj : j < n) (kk : wx X (g_st M k j x) L (pc + 1) lv st) : wx X M L pc lv (.int x :: .int i :: .ref (X.1.1 + k) :: st) := by
  intro H locs ls hH hS h
  subst hi
  refine va_iast (D := X.1.2.1) C.hx C.hb C.hK hH (g_ws_D (fun _ q => q)) hS k 0 (g_cell hk (he _ _)) rfl (vp_in_nI hj hn) hd (fun H1 locs1 hP1 _ hS1 => kk H1 locs1 ls ?_ hS1 h)
  rw [nI_clamp (by omega), g_ws_set] at hP1
  have e : (Sum.inl (X.1.2.2 0, n, Sum.inl (upd (M k) j x)) : va_E) = g_sh X.1 k (upd (M k) j x) (L k) := (he _ _).symm
  rw [e, g_E_st] at hP1
  exact hP1
theorem wx_zast (C : Cx X cc nL own ret d) (k j : Nat) {n : Nat} {i x : Int32} (hk : k < 168) (he : ∀ f g, g_sh X.1 k f g = g_az X.1 n f) (hn : n < 2 ^ 31) (hd : decode cc pc = .ok (.bastore, 1)) (hi : i = nI j) (hj : j < n) (hx : vp_nar .boolean x = x) (kk : wx X (g_st M k j x) L (pc + 1) lv st) : wx X M L pc lv (.int x :: .int i :: .ref (X.1.1 + k) :: st) := by
  intro H locs ls hH hS h
  subst hi
  refine va_zast (D := X.1.2.1) C.hx C.hb C.hK hH (g_ws_D (fun _ q => q)) hS k 1 (g_cell hk (he _ _)) rfl (vp_in_nI hj hn) hd (fun H1 locs1 hP1 _ hS1 => kk H1 locs1 ls ?_ hS1 h)
  rw [nI_clamp (by omega), g_ws_set, hx] at hP1
  have e : (Sum.inl (X.1.2.2 1, n, Sum.inl (upd (M k) j x)) : va_E) = g_sh X.1 k (upd (M k) j x) (L k) := (he _ _).symm
  rw [e, g_E_st] at hP1
  exact hP1
theorem wx_aaldW (C : Cx X cc nL own ret d) (j : Nat) {i : Int32} (hd : decode cc pc = .ok (.aaload, 1)) (hi : i = nI j) (hj : j < 12) (kk : wx X M L (pc + 1) lv (.ref (X.1.1 + (18 + 3 * j)) :: st)) : wx X M L pc lv (.int i :: .ref (X.1.1 + 17) :: st) := by
  intro H locs ls hH hS h
  subst hi
  refine va_aldq (D := X.1.2.1) C.hx C.hb C.hK hH 17 2 (g_cell (by decide) rfl) rfl (vp_in_nI hj (by decide)) hd ?_
  rw [nI_clamp (by omega)]
  exact kk H locs ls hH hS h
theorem wx_aaldA (C : Cx X cc nL own ret d) (j : Nat) {i : Int32} (hd : decode cc pc = .ok (.aaload, 1)) (hi : i = nI j) (hj : j < 30) (kk : wx X M L (pc + 1) lv (.ref (X.1.1 + (56 + 3 * j)) :: st)) : wx X M L pc lv (.int i :: .ref (X.1.1 + 55) :: st) := by
  intro H locs ls hH hS h
  subst hi
  refine va_aldq (D := X.1.2.1) C.hx C.hb C.hK hH 55 3 (g_cell (by decide) rfl) rfl (vp_in_nI hj (by decide)) hd ?_
  rw [nI_clamp (by omega)]
  exact kk H locs ls hH hS h
theorem wx_mmax (C : Cx X cc nL own ret d) {index : Nat} {x y : Int32} (hw : Cond.methodLink own index Lib.Math.max.name ∈ g_tb) (w1 : Cond.static Lib.Math.max.name ∈ g_tb) (w2 : Cond.initialized "java/lang/Math" ∈ g_tb) (w3 : Cond.code Lib.Math.max.name Lib.Math.max.code 2 (some .int) ∈ g_tb) (hd1 : 1 ≤ d) (hcat : (st.map fun v => v.category).sum ≤ 8) (hd : decode cc pc = .ok (.invokestatic index, 3)) (kk : wx X M L (pc + 3) lv (.int (if x < y then y else x) :: st)) : wx X M L pc lv (.int y :: .int x :: st) :=
  fun H locs ls hH hS h => va_mmax C.hx C.hb (by rw [C.hm, h.1, C.hn]) C.ho (C.ht _ hw) (C.ht _ w1) (C.ht _ w2) (C.ht _ w3) (Nat.le_trans hd1 C.hd.1) (by have := C.hd.2; omega) C.hc.1 C.hc.2 hd (kk H locs ls hH hS h)
theorem wx_mmin (C : Cx X cc nL own ret d) {index : Nat} {x y : Int32} (hw : Cond.methodLink own index Lib.Math.min.name ∈ g_tb) (w1 : Cond.static Lib.Math.min.name ∈ g_tb) (w2 : Cond.initialized "java/lang/Math" ∈ g_tb) (w3 : Cond.code Lib.Math.min.name Lib.Math.min.code 2 (some .int) ∈ g_tb) (hd1 : 1 ≤ d) (hcat : (st.map fun v => v.category).sum ≤ 8) (hd : decode cc pc = .ok (.invokestatic index, 3)) (kk : wx X M L (pc + 3) lv (.int (if y < x then y else x) :: st)) : wx X M L pc lv (.int y :: .int x :: st) :=
  fun H locs ls hH hS h => va_mmin C.hx C.hb (by rw [C.hm, h.1, C.hn]) C.ho (C.ht _ hw) (C.ht _ w1) (C.ht _ w2) (C.ht _ w3) (Nat.le_trans hd1 C.hd.1) (by have := C.hd.2; omega) C.hc.1 C.hc.2 hd (kk H locs ls hH hS h)
theorem wx_iret (C : Cx X cc nL own (some .int) d) (hQ : Rx X Qr) {v : Int32} (hd : decode cc pc = .ok (.ireturn, 1)) (hp : Qr (some (.int v)) M L) : wx X M L pc lv [.int v] := fun H locs ls hH hS h => by
  rw [hQ]
  exact W.iret C.hx C.hb C.hr (fun t ht hW => ⟨⟨_, M, L, rfl, hp, by rw [ht]; exact hH, va_K.moved hW.alike C.hK⟩, hS.F ht⟩) hS.2.2 hd C.hlk
theorem wx_zret (C : Cx X cc nL own (some .boolean) d) (hQ : Rx X Qr) {v : Int32} (hd : decode cc pc = .ok (.ireturn, 1)) (hn : narrow .boolean (.int v) = .int v) (hp : Qr (some (.int v)) M L) : wx X M L pc lv [.int v] := fun H locs ls hH hS h => by
  rw [hQ]
  exact W.zret C.hx C.hb C.hr hn (fun t ht hW => ⟨⟨_, M, L, rfl, hp, by rw [ht]; exact hH, va_K.moved hW.alike C.hK⟩, hS.F ht⟩) hS.2.2 hd C.hlk
theorem wx_lret (C : Cx X cc nL own (some .long) d) (hQ : Rx X Qr) {v : Int64} (hd : decode cc pc = .ok (.lreturn, 1)) (hp : Qr (some (.long v)) M L) : wx X M L pc lv [.long v] := fun H locs ls hH hS h => by
  rw [hQ]
  exact W.lret C.hx C.hb C.hr (fun t ht hW => ⟨⟨_, M, L, rfl, hp, by rw [ht]; exact hH, va_K.moved hW.alike C.hK⟩, hS.F ht⟩) hS.2.2 hd C.hlk
theorem wx_vret (C : Cx X cc nL own none d) (hQ : Rx X Qr) (hd : decode cc pc = .ok (.return_, 1)) (hp : Qr none M L) : wx X M L pc lv [] := fun H locs ls hH hS h => by
  rw [hQ]
  exact W.vret C.hx C.hb C.hr (fun t ht hW => ⟨⟨_, M, L, rfl, hp, by rw [ht]; exact hH, va_K.moved hW.alike C.hK⟩, hS.F ht⟩) hS.2.2 hd C.hlk
theorem wx_aret {rt : FieldType} (C : Cx X cc nL own (some rt) d) (hQ : Rx X Qr) {v : Value} (hd : decode cc pc = .ok (.areturn, 1)) (hrt : (∃ n, rt = .object n) ∨ ∃ t, rt = .array t) (hv : v = .null ∨ ∃ a, v = .ref a) (hp : Qr (some v) M L) : wx X M L pc lv [v] := fun H locs ls hH hS h => by
  rw [hQ]
  exact W.aret C.hx C.hb C.hr hrt hv (fun t ht hW => ⟨⟨_, M, L, rfl, hp, by rw [ht]; exact hH, va_K.moved hW.alike C.hK⟩, hS.F ht⟩) hS.2.2 hd C.hlk
theorem wx_run {rest : List Value} {av : Array Value} (hr : ∀ (H : Heap) (locs : List Loc) (ls : Array Slot), g_H X.1 M L H → lv_has ls (xn X) lv → va_Run (xp X) (xl X) (xe X) (xR X) (xs X) (xm X) (xa X) (xb X) (xh X) (xc X) H locs (xk X) (xo X) 0 0 (F0 (xm X) pc ls st) rest (g_Qc X.1 Qr av) (g_A X.1)) (kk : ∀ (r : Option Value) (M1 : g_M) (L1 : g_L), Qr r M1 L1 → wx X M1 L1 (pc + 3) lv (r.toList ++ rest)) : wx X M L pc lv st := by
  intro H locs ls hH hS hl T hT St
  obtain ⟨v, st₀, t, T', Lc, h0, X', hL, e1, e2, ⟨⟨r, M1, L1, hv, hq, hH1, hK1⟩, hz, hk⟩, stp⟩ := hr H locs ls hH hl T hT St
  cases hv
  rw [h0] at hz hk
  obtain ⟨t2, a1, b1⟩ := kk v M1 L1 hq T'.heap (locs ++ Lc) ls (by rw [e1]; exact hH1)
    ⟨Nat.le_trans hS.1 (by rw [e1]; exact hz), fun q h1 h2 => by rw [e1, hk q (Nat.lt_of_lt_of_le h1 hS.1) h2]; exact hS.2.1 q h1 h2, fun q hq => by
      rcases List.mem_append.mp hq with h | h
      · exact hS.2.2 q h
      · exact hL q h⟩ hl T' rfl X'
  exact ⟨t2, stp t2 a1, b1⟩
theorem mt_blind {G : g_G} {av : List Value} : FrameBlind (va_Pc av (fun U => g_H G M L U.heap ∧ va_K G.2.1 vwCl (g_tys G) U)) := fun a U g mk q => by
  obtain ⟨q0, qP, qK⟩ := q
  exact ⟨q0, qP, va_K.moved (u := U) (U := U.calling g mk a) (Vm.Alike.refl U.vm) qK⟩
theorem wx_callV (C : Cx X cc nL own ret d) {k ci N index n maxL dC : Nat} {y : MethodName} {bytes : ByteArray} {rt : Option FieldType} {Cn : String} {T : u_T} {fs As rest : List Value} (hM : mt X.1 y (.code y bytes maxL rt) dC (.ref (X.1.1 + k) :: As) M L Qr) (hk : k < 168) (he : g_sh X.1 k (M k) (L k) = .inr (ci, fs)) (hc : vwCl[ci]? = some (Cn, T, N)) (w1 : Cond.methodLink own index y ∈ g_tb) (w2 : Cond.instanceMethod y ∈ g_tb) (w3 : Cond.selects Cn y y ∈ g_tb) (w4 : Cond.initialized y.cls ∈ g_tb) (w5 : Cond.code y bytes maxL rt ∈ g_tb) (hy : y.cls ≠ "java/lang/invoke/MethodHandle" ∧ y.cls ≠ "java/lang/invoke/VarHandle" ∧ (parseMethodDescriptor y.desc).map (fun d => d.parameters.length) = some n) (hml : maxL ≤ 21) (hdep : dC + 1 ≤ d) (hn : As.length = n) (hst : st = As.reverse ++ .ref (X.1.1 + k) :: rest) (hcat : (rest.map fun v => v.category).sum ≤ 8) (hd : decode cc pc = .ok (.invokevirtual index, 3)) (kk : ∀ (r : Option Value) (M1 : g_M) (L1 : g_L), Qr r M1 L1 → wx X M1 L1 (pc + 3) lv (r.toList ++ rest)) : wx X M L pc lv st := by
  refine wx_run (Qr := Qr) (rest := rest) (av := (Value.ref (X.1.1 + k) :: As).toArray) (fun H locs ls hH hl => ?_) kk
  have hr : (rm dC).frames + 1 ≤ (xR X).frames ∧ 8 + (maxL + 11) + (rm dC).locals ≤ (xR X).locals := by
    have := C.hd
    simp only [rm]
    omega
  refine va_runV (bytes := bytes) (maxL := maxL) (ret := rt) (n := n) (As := As) (rest := rest) ⟨C.hx, C.hb, C.hm, C.ho, C.ht⟩ (hM (xl X)) ⟨callB_of n C.ht (g_ws_good w5) rfl rfl rfl (C.ht _ w4) (C.ht _ w1) hy hr, C.ht _ w2, C.ht _ w3⟩ ⟨mt_blind, va_recv C.hK hH hc (g_cell hk he), fun U hU hW => ⟨rfl, by rw [hU]; exact hH, va_K.moved hW.alike C.hK⟩⟩ rfl hn (by rw [hl.1]; exact C.hn) hst (lv_room hcat) hd ⟨C.hc.1, C.hc.2⟩
theorem wx_callS (C : Cx X cc nL own ret d) {index n maxL dC : Nat} {y : MethodName} {bytes : ByteArray} {rt : Option FieldType} {As rest : List Value} (hM : mt X.1 y (.code y bytes maxL rt) dC As M L Qr) (w1 : Cond.methodLink own index y ∈ g_tb) (w2 : Cond.static y ∈ g_tb) (w4 : Cond.initialized y.cls ∈ g_tb) (w5 : Cond.code y bytes maxL rt ∈ g_tb) (hy : y.cls ≠ "java/lang/invoke/MethodHandle" ∧ y.cls ≠ "java/lang/invoke/VarHandle" ∧ (parseMethodDescriptor y.desc).map (fun d => d.parameters.length) = some n) (hml : maxL ≤ 21) (hdep : dC + 1 ≤ d) (hn : As.length = n) (hst : st = As.reverse ++ rest) (hcat : (rest.map fun v => v.category).sum ≤ 8) (hd : decode cc pc = .ok (.invokestatic index, 3)) (kk : ∀ (r : Option Value) (M1 : g_M) (L1 : g_L), Qr r M1 L1 → wx X M1 L1 (pc + 3) lv (r.toList ++ rest)) : wx X M L pc lv st := by
  refine wx_run (Qr := Qr) (rest := rest) (av := As.toArray) (fun H locs ls hH hl => ?_) kk
  have hr : (rm dC).frames + 1 ≤ (xR X).frames ∧ 8 + (maxL + 11) + (rm dC).locals ≤ (xR X).locals := by
    have := C.hd
    simp only [rm]
    omega
  refine va_runS (bytes := bytes) (maxL := maxL) (ret := rt) (n := n) (As := As) (rest := rest) ⟨C.hx, C.hb, C.hm, C.ho, C.ht⟩ (hM (xl X)) ⟨callB_of n C.ht (g_ws_good w5) rfl rfl rfl (C.ht _ w4) (C.ht _ w1) hy hr, C.ht _ w2⟩ ⟨mt_blind, fun U hU hW => ⟨rfl, by rw [hU]; exact hH, va_K.moved hW.alike C.hK⟩⟩ rfl hn (by rw [hl.1]; exact C.hn) hst (lv_room hcat) hd ⟨C.hc.1, C.hc.2⟩
theorem kI {P : Int32 → g_M → g_L → Prop} {rest : List Value} (k : ∀ v M1 L1, P v M1 L1 → wx X M1 L1 pc lv (.int v :: rest)) : ∀ (r : Option Value) (M1 : g_M) (L1 : g_L), qI P r M1 L1 → wx X M1 L1 pc lv (r.toList ++ rest) := fun r M1 L1 ⟨v, e, h⟩ => by subst e; exact k v M1 L1 h
theorem kL {P : Int64 → g_M → g_L → Prop} {rest : List Value} (k : ∀ v M1 L1, P v M1 L1 → wx X M1 L1 pc lv (.long v :: rest)) : ∀ (r : Option Value) (M1 : g_M) (L1 : g_L), qL P r M1 L1 → wx X M1 L1 pc lv (r.toList ++ rest) := fun r M1 L1 ⟨v, e, h⟩ => by subst e; exact k v M1 L1 h
theorem kV {P : g_M → g_L → Prop} {rest : List Value} (k : ∀ M1 L1, P M1 L1 → wx X M1 L1 pc lv rest) : ∀ (r : Option Value) (M1 : g_M) (L1 : g_L), qV P r M1 L1 → wx X M1 L1 pc lv (r.toList ++ rest) := fun r M1 L1 ⟨e, h⟩ => by subst e; exact k M1 L1 h
theorem kR {P : Nat → g_M → g_L → Prop} {rest : List Value} (k : ∀ v M1 L1, P v M1 L1 → wx X M1 L1 pc lv (.ref (X.1.1 + v) :: rest)) : ∀ (r : Option Value) (M1 : g_M) (L1 : g_L), qR X.1.1 P r M1 L1 → wx X M1 L1 pc lv (r.toList ++ rest) := fun r M1 L1 ⟨v, e, h⟩ => by subst e; exact k v M1 L1 h
theorem kN {P : Option Nat → g_M → g_L → Prop} {rest : List Value} (k0 : ∀ M1 L1, P none M1 L1 → wx X M1 L1 pc lv (.null :: rest)) (k : ∀ v M1 L1, P (some v) M1 L1 → wx X M1 L1 pc lv (.ref (X.1.1 + v) :: rest)) : ∀ (r : Option Value) (M1 : g_M) (L1 : g_L), qN X.1.1 P r M1 L1 → wx X M1 L1 pc lv (r.toList ++ rest) := fun r M1 L1 h => by
  rcases h with ⟨e, h⟩ | ⟨v, e, h⟩
  · subst e; exact k0 M1 L1 h
  · subst e; exact k v M1 L1 h
end WR
theorem mt_of {G : g_G} {y : MethodName} {cc : ByteArray} {maxL d : Nat} {ret : Option FieldType} {av : List Value} {M : g_M} {L : g_L} {Qr : Option Value → g_M → g_L → Prop} {own : String} (hy : plainName y.cls = true) (hown : y.cls = own) (hn : (lg_sl av).length ≤ maxL) (lv : List (Nat × Value)) (hlv : lv_args 0 av = lv) (body : ∀ X : g_X, X.1 = G → Cx X cc maxL own ret d → Rx X Qr → wx X M L 0 lv []) : mt G y (.code y cc maxL ret) d av M L Qr := by
  intro l
  refine Met.ofW (cc := cc) (maxL := maxL) (ret := ret) hy rfl ?_
  intro p e s m args below meth c s₁ B hml hv
  obtain ⟨rfl, hH, hK⟩ := hv
  have hts := atoms_spec (ws := Cond.code y cc maxL ret :: g_tb) B.pre
  have hl := lv_entry av (n := maxL) hn
  rw [lg_entry_eq]
  rw [hlv] at hl
  exact body (G, p, l, e, rm d, s, m, av.toArray, below, meth, c, 0, 0, MQ below (g_Qc G Qr) av.toArray s 0 0 (g_A G), maxL) rfl ⟨B.exec, B.bytes, hml, rfl, by rw [← hown]; exact findClass_of_methodNamed B.named, fun w hw => hts w (List.mem_cons_of_mem _ hw), hK, B.returns, B.notSynchronized, ⟨Nat.le_refl _, Nat.le_refl _⟩, Nat.le_refl _, Nat.le_refl _⟩ rfl s.heap [] _ hH va_S.rf hl
end
section
/-! ===== names for values; the kit's Math rows; rows by places ===== -/
section WM
variable {X : g_X} {cc : ByteArray} {nL : Nat} {own : String} {ret : Option FieldType} {d : Nat} {M : g_M} {L : g_L} {pc : Nat} {lv : List (Nat × Value)} {st : List Value}
theorem wx_nmi {x : Int32} (k : ∀ y : Int32, y = x → wx X M L pc lv (.int y :: st)) : wx X M L pc lv (.int x :: st) := k x rfl
theorem wx_nml {x : Int64} (k : ∀ y : Int64, y = x → wx X M L pc lv (.long y :: st)) : wx X M L pc lv (.long x :: st) := k x rfl
theorem wx_nmM (k : ∀ M1 : g_M, M1 = M → wx X M1 L pc lv st) : wx X M L pc lv st := k M rfl
theorem wx_nmL (k : ∀ L1 : g_L, L1 = L → wx X M L1 pc lv st) : wx X M L pc lv st := k L rfl
theorem wx_mabs (C : Cx X cc nL own ret d) {index : Nat} {x : Int32} (hw : Cond.methodLink own index Lib.Math.abs.name ∈ g_tb) (w1 : Cond.static Lib.Math.abs.name ∈ g_tb) (w2 : Cond.initialized "java/lang/Math" ∈ g_tb) (w3 : Cond.code Lib.Math.abs.name Lib.Math.abs.code 1 (some .int) ∈ g_tb) (hd1 : 1 ≤ d) (hcat : (st.map fun v => v.category).sum ≤ 8) (hd : decode cc pc = .ok (.invokestatic index, 3)) (kk : wx X M L (pc + 3) lv (.int (if 0 ≤ x then x else 0 - x) :: st)) : wx X M L pc lv (.int x :: st) :=
  fun H locs ls hH hS h => va_mabs C.hx C.hb (by rw [C.hm, h.1, C.hn]) C.ho (C.ht _ hw) (C.ht _ w1) (C.ht _ w2) (C.ht _ w3) (Nat.le_trans hd1 C.hd.1) (by have := C.hd.2; omega) C.hc.1 C.hc.2 hd (kk H locs ls hH hS h)
theorem wx_mmaxl (C : Cx X cc nL own ret d) {index : Nat} {x y : Int64} (hw : Cond.methodLink own index Lib.MathLoose.max_long.x ∈ g_tb) (w1 : Cond.static Lib.MathLoose.max_long.x ∈ g_tb) (w2 : Cond.initialized "java/lang/Math" ∈ g_tb) (w3 : Cond.code Lib.MathLoose.max_long.x Lib.MathLoose.max_long.code 4 (some .long) ∈ g_tb) (hd1 : 1 ≤ d) (hcat : (st.map fun v => v.category).sum ≤ 8) (hd : decode cc pc = .ok (.invokestatic index, 3)) (kk : wx X M L (pc + 3) lv (.long (if y < x then x else y) :: st)) : wx X M L pc lv (.long y :: .long x :: st) :=
  fun H locs ls hH hS h => va_mmax_long C.hx C.hb (by rw [C.hm, h.1, C.hn]) C.ho (C.ht _ hw) (C.ht _ w1) (C.ht _ w2) (C.ht _ w3) (Nat.le_trans hd1 C.hd.1) (by have := C.hd.2; omega) C.hc.1 C.hc.2 hd (kk H locs ls hH hS h)
theorem wx_mminl (C : Cx X cc nL own ret d) {index : Nat} {x y : Int64} (hw : Cond.methodLink own index Lib.MathLoose.min_long.x ∈ g_tb) (w1 : Cond.static Lib.MathLoose.min_long.x ∈ g_tb) (w2 : Cond.initialized "java/lang/Math" ∈ g_tb) (w3 : Cond.code Lib.MathLoose.min_long.x Lib.MathLoose.min_long.code 4 (some .long) ∈ g_tb) (hd1 : 1 ≤ d) (hcat : (st.map fun v => v.category).sum ≤ 8) (hd : decode cc pc = .ok (.invokestatic index, 3)) (kk : wx X M L (pc + 3) lv (.long (if y < x then y else x) :: st)) : wx X M L pc lv (.long y :: .long x :: st) :=
  fun H locs ls hH hS h => va_mmin_long C.hx C.hb (by rw [C.hm, h.1, C.hn]) C.ho (C.ht _ hw) (C.ht _ w1) (C.ht _ w2) (C.ht _ w3) (Nat.le_trans hd1 C.hd.1) (by have := C.hd.2; omega) C.hc.1 C.hc.2 hd (kk H locs ls hH hS h)
theorem wx_mabsl (C : Cx X cc nL own ret d) {index : Nat} {x : Int64} (hw : Cond.methodLink own index Lib.MathLoose.abs_long.x ∈ g_tb) (w1 : Cond.static Lib.MathLoose.abs_long.x ∈ g_tb) (w2 : Cond.initialized "java/lang/Math" ∈ g_tb) (w3 : Cond.code Lib.MathLoose.abs_long.x Lib.MathLoose.abs_long.code 2 (some .long) ∈ g_tb) (hd1 : 1 ≤ d) (hcat : (st.map fun v => v.category).sum ≤ 8) (hd : decode cc pc = .ok (.invokestatic index, 3)) (kk : wx X M L (pc + 3) lv (.long (if 0 < x then x else -x) :: st)) : wx X M L pc lv (.long x :: st) :=
  fun H locs ls hH hS h => va_mabs_long C.hx C.hb (by rw [C.hm, h.1, C.hn]) C.ho (C.ht _ hw) (C.ht _ w1) (C.ht _ w2) (C.ht _ w3) (Nat.le_trans hd1 C.hd.1) (by have := C.hd.2; omega) C.hc.1 C.hc.2 hd (kk H locs ls hH hS h)
theorem wx_anull (C : Cx X cc nL own ret d) (hd : decode cc pc = .ok (.aconst_null, 1)) (k : wx X M L (pc + 1) lv (.null :: st)) : wx X M L pc lv st := fun H locs ls hH hS hl => lv_null C.hx C.hb hd (k H locs ls hH hS hl)
end WM
theorem rw_14 : g_row 14 := Or.inl rfl
theorem rw_147 : g_row 147 := Or.inr (Or.inl rfl)
theorem rw_w {p : Nat} (h : p < 12) : g_row (19 + 3 * p) := Or.inr (Or.inr (Or.inl ⟨p, h, rfl⟩))
theorem rw_a {i : Nat} (h : i < 30) : g_row (57 + 3 * i) := Or.inr (Or.inr (Or.inr ⟨i, h, rfl⟩))
theorem g_row_lt1 {k : Nat} (h : g_row k) : k < 168 := by have := g_row_lt h; omega
theorem g_row_lt2 {k : Nat} (h : g_row k) : k + 1 < 168 := g_row_lt h
theorem sw_ne {x : Int32} {n : Nat} (hn : n < 2 ^ 31) (h : ¬ x = nI n) : x.toInt ≠ (n : Int) := fun e => h (Int32.toInt_inj.mp (by rw [nI_toInt hn]; exact e))
theorem sw_out4 {x : Int32} (h : ¬ (x = 0 ∨ x = 1 ∨ x = 2 ∨ x = 3)) : x.toInt < 0 ∨ 3 < x.toInt := by
  have h0 := sw_ne (x := x) (n := 0) (by decide) (fun e => h (Or.inl e))
  have h1 := sw_ne (x := x) (n := 1) (by decide) (fun e => h (Or.inr (Or.inl e)))
  have h2 := sw_ne (x := x) (n := 2) (by decide) (fun e => h (Or.inr (Or.inr (Or.inl e))))
  have h3 := sw_ne (x := x) (n := 3) (by decide) (fun e => h (Or.inr (Or.inr (Or.inr e))))
  omega
theorem sw_out6 {x : Int32} (h : ¬ (x = 0 ∨ x = 1 ∨ x = 2 ∨ x = 3 ∨ x = 4 ∨ x = 5)) : x.toInt < 0 ∨ 5 < x.toInt := by
  have h0 := sw_ne (x := x) (n := 0) (by decide) (fun e => h (Or.inl e))
  have h1 := sw_ne (x := x) (n := 1) (by decide) (fun e => h (Or.inr (Or.inl e)))
  have h2 := sw_ne (x := x) (n := 2) (by decide) (fun e => h (Or.inr (Or.inr (Or.inl e))))
  have h3 := sw_ne (x := x) (n := 3) (by decide) (fun e => h (Or.inr (Or.inr (Or.inr (Or.inl e)))))
  have h4 := sw_ne (x := x) (n := 4) (by decide) (fun e => h (Or.inr (Or.inr (Or.inr (Or.inr (Or.inl e))))))
  have h5 := sw_ne (x := x) (n := 5) (by decide) (fun e => h (Or.inr (Or.inr (Or.inr (Or.inr (Or.inr e))))))
  omega
theorem sw_out8 {x : Int32} (h : ¬ (x = 0 ∨ x = 1 ∨ x = 2 ∨ x = 3 ∨ x = 4 ∨ x = 5 ∨ x = 6 ∨ x = 7)) : x.toInt < 0 ∨ 7 < x.toInt := by
  have h0 := sw_ne (x := x) (n := 0) (by decide) (fun e => h (Or.inl e))
  have h1 := sw_ne (x := x) (n := 1) (by decide) (fun e => h (Or.inr (Or.inl e)))
  have h2 := sw_ne (x := x) (n := 2) (by decide) (fun e => h (Or.inr (Or.inr (Or.inl e))))
  have h3 := sw_ne (x := x) (n := 3) (by decide) (fun e => h (Or.inr (Or.inr (Or.inr (Or.inl e)))))
  have h4 := sw_ne (x := x) (n := 4) (by decide) (fun e => h (Or.inr (Or.inr (Or.inr (Or.inr (Or.inl e))))))
  have h5 := sw_ne (x := x) (n := 5) (by decide) (fun e => h (Or.inr (Or.inr (Or.inr (Or.inr (Or.inr (Or.inl e)))))))
  have h6 := sw_ne (x := x) (n := 6) (by decide) (fun e => h (Or.inr (Or.inr (Or.inr (Or.inr (Or.inr (Or.inr (Or.inl e))))))))
  have h7 := sw_ne (x := x) (n := 7) (by decide) (fun e => h (Or.inr (Or.inr (Or.inr (Or.inr (Or.inr (Or.inr (Or.inr e))))))))
  omega
end
section
section WF
variable {X : g_X} {cc : ByteArray} {nL : Nat} {ret : Option FieldType} {d : Nat} {M : g_M} {L : g_L} {pc : Nat} {lv : List (Nat × Value)} {st : List Value}
theorem gf_X1_11 (C : Cx X cc nL RX1 ret d) (hd : decode cc pc = .ok (.getfield 11, 3)) (kk : wx X M L (pc + 3) lv (.ref (X.1.1 + 55) :: st)) : wx X M L pc lv (.ref (X.1.1 + 54) :: st) := wx_get C 54 0 (by decide) rfl rfl inX1 (by decide) w2_5 rfl rfl hd kk
theorem gf_X1_18 (C : Cx X cc nL RX1 ret d) (hd : decode cc pc = .ok (.getfield 18, 3)) (kk : wx X M L (pc + 3) lv (.int (M 54 1) :: st)) : wx X M L pc lv (.ref (X.1.1 + 54) :: st) := wx_get C 54 1 (by decide) rfl rfl inX1 (by decide) w2_6 rfl rfl hd kk
theorem gf_X1_32 (C : Cx X cc nL RX1 ret d) {p : Nat} (hp : p < 30) (hd : decode cc pc = .ok (.getfield 32, 3)) (kk : wx X M L (pc + 3) lv (.ref (X.1.1 + (57 + 3 * p)) :: st)) : wx X M L pc lv (.ref (X.1.1 + (56 + 3 * p)) :: st) := wx_get C (56 + 3 * p) 3 (by omega) (sh_act hp _ _) rfl inX0 (by decide) w1_234 rfl rfl hd kk
theorem gf_X1_42 (C : Cx X cc nL RX1 ret d) (hd : decode cc pc = .ok (.getfield 42, 3)) (kk : wx X M L (pc + 3) lv (.int (M 54 2) :: st)) : wx X M L pc lv (.ref (X.1.1 + 54) :: st) := wx_get C 54 2 (by decide) rfl rfl inX1 (by decide) w2_7 rfl rfl hd kk
theorem gf_X10_14 (C : Cx X cc nL RX10 ret d) (hd : decode cc pc = .ok (.getfield 14, 3)) (kk : wx X M L (pc + 3) lv (.ref (X.1.1 + 1) :: st)) : wx X M L pc lv (.ref (X.1.1 + 0) :: st) := wx_get C 0 0 (by decide) rfl rfl inX10 (by decide) w2_42 rfl rfl hd kk
theorem gf_X10_23 (C : Cx X cc nL RX10 ret d) (hd : decode cc pc = .ok (.getfield 23, 3)) (kk : wx X M L (pc + 3) lv (.ref (X.1.1 + 7) :: st)) : wx X M L pc lv (.ref (X.1.1 + 0) :: st) := wx_get C 0 1 (by decide) rfl rfl inX10 (by decide) w2_43 rfl rfl hd kk
theorem gf_X10_30 (C : Cx X cc nL RX10 ret d) (hd : decode cc pc = .ok (.getfield 30, 3)) (kk : wx X M L (pc + 3) lv (.ref (X.1.1 + 8) :: st)) : wx X M L pc lv (.ref (X.1.1 + 0) :: st) := wx_get C 0 2 (by decide) rfl rfl inX10 (by decide) w2_44 rfl rfl hd kk
theorem gf_X10_39 (C : Cx X cc nL RX10 ret d) (hd : decode cc pc = .ok (.getfield 39, 3)) (kk : wx X M L (pc + 3) lv (.ref (X.1.1 + 9) :: st)) : wx X M L pc lv (.ref (X.1.1 + 0) :: st) := wx_get C 0 3 (by decide) rfl rfl inX10 (by decide) w2_45 rfl rfl hd kk
theorem gf_X10_46 (C : Cx X cc nL RX10 ret d) (hd : decode cc pc = .ok (.getfield 46, 3)) (kk : wx X M L (pc + 3) lv (.ref (X.1.1 + 16) :: st)) : wx X M L pc lv (.ref (X.1.1 + 0) :: st) := wx_get C 0 4 (by decide) rfl rfl inX10 (by decide) w2_46 rfl rfl hd kk
theorem gf_X10_53 (C : Cx X cc nL RX10 ret d) (hd : decode cc pc = .ok (.getfield 53, 3)) (kk : wx X M L (pc + 3) lv (.ref (X.1.1 + 54) :: st)) : wx X M L pc lv (.ref (X.1.1 + 0) :: st) := wx_get C 0 5 (by decide) rfl rfl inX10 (by decide) w2_47 rfl rfl hd kk
theorem gf_X10_60 (C : Cx X cc nL RX10 ret d) (hd : decode cc pc = .ok (.getfield 60, 3)) (kk : wx X M L (pc + 3) lv (.ref (X.1.1 + 146) :: st)) : wx X M L pc lv (.ref (X.1.1 + 0) :: st) := wx_get C 0 6 (by decide) rfl rfl inX10 (by decide) w2_48 rfl rfl hd kk
theorem gf_X10_67 (C : Cx X cc nL RX10 ret d) (hd : decode cc pc = .ok (.getfield 67, 3)) (kk : wx X M L (pc + 3) lv (.ref (X.1.1 + 147) :: st)) : wx X M L pc lv (.ref (X.1.1 + 0) :: st) := wx_get C 0 7 (by decide) rfl rfl inX10 (by decide) w2_49 rfl rfl hd kk
theorem gf_X10_89 (C : Cx X cc nL RX10 ret d) (hd : decode cc pc = .ok (.getfield 89, 3)) (kk : wx X M L (pc + 3) lv (.int (M 8 1) :: st)) : wx X M L pc lv (.ref (X.1.1 + 8) :: st) := wx_get C 8 1 (by decide) rfl rfl inX2 (by decide) w1_94 rfl rfl hd kk
theorem gf_X10_93 (C : Cx X cc nL RX10 ret d) (hd : decode cc pc = .ok (.getfield 93, 3)) (kk : wx X M L (pc + 3) lv (.int (M 7 1) :: st)) : wx X M L pc lv (.ref (X.1.1 + 7) :: st) := wx_get C 7 1 (by decide) rfl rfl inX4 (by decide) w1_70 rfl rfl hd kk
theorem gf_X10_96 (C : Cx X cc nL RX10 ret d) (hd : decode cc pc = .ok (.getfield 96, 3)) (kk : wx X M L (pc + 3) lv (.int (M 7 2) :: st)) : wx X M L pc lv (.ref (X.1.1 + 7) :: st) := wx_get C 7 2 (by decide) rfl rfl inX4 (by decide) w1_72 rfl rfl hd kk
theorem gf_X10_103 (C : Cx X cc nL RX10 ret d) (hd : decode cc pc = .ok (.getfield 103, 3)) (kk : wx X M L (pc + 3) lv (.ref (X.1.1 + 2) :: st)) : wx X M L pc lv (.ref (X.1.1 + 1) :: st) := wx_get C 1 0 (by decide) rfl rfl inX7 (by decide) w1_33 rfl rfl hd kk
theorem gf_X10_107 (C : Cx X cc nL RX10 ret d) (hd : decode cc pc = .ok (.getfield 107, 3)) (kk : wx X M L (pc + 3) lv (.ref (X.1.1 + 3) :: st)) : wx X M L pc lv (.ref (X.1.1 + 1) :: st) := wx_get C 1 1 (by decide) rfl rfl inX7 (by decide) w1_36 rfl rfl hd kk
theorem gf_X10_110 (C : Cx X cc nL RX10 ret d) (hd : decode cc pc = .ok (.getfield 110, 3)) (kk : wx X M L (pc + 3) lv (.ref (X.1.1 + 4) :: st)) : wx X M L pc lv (.ref (X.1.1 + 1) :: st) := wx_get C 1 2 (by decide) rfl rfl inX7 (by decide) w1_39 rfl rfl hd kk
theorem gf_X10_113 (C : Cx X cc nL RX10 ret d) (hd : decode cc pc = .ok (.getfield 113, 3)) (kk : wx X M L (pc + 3) lv (.ref (X.1.1 + 5) :: st)) : wx X M L pc lv (.ref (X.1.1 + 1) :: st) := wx_get C 1 3 (by decide) rfl rfl inX7 (by decide) w1_41 rfl rfl hd kk
theorem gf_X10_120 (C : Cx X cc nL RX10 ret d) (hd : decode cc pc = .ok (.getfield 120, 3)) (kk : wx X M L (pc + 3) lv (.ref (X.1.1 + 6) :: st)) : wx X M L pc lv (.ref (X.1.1 + 1) :: st) := wx_get C 1 4 (by decide) rfl rfl inX7 (by decide) w1_43 rfl rfl hd kk
theorem gf_X10_130 (C : Cx X cc nL RX10 ret d) (hd : decode cc pc = .ok (.getfield 130, 3)) (kk : wx X M L (pc + 3) lv (.int (M 8 2) :: st)) : wx X M L pc lv (.ref (X.1.1 + 8) :: st) := wx_get C 8 2 (by decide) rfl rfl inX2 (by decide) w1_96 rfl rfl hd kk
theorem gf_X10_133 (C : Cx X cc nL RX10 ret d) (hd : decode cc pc = .ok (.getfield 133, 3)) (kk : wx X M L (pc + 3) lv (.int (M 8 3) :: st)) : wx X M L pc lv (.ref (X.1.1 + 8) :: st) := wx_get C 8 3 (by decide) rfl rfl inX2 (by decide) w1_98 rfl rfl hd kk
theorem gf_X10_137 (C : Cx X cc nL RX10 ret d) (hd : decode cc pc = .ok (.getfield 137, 3)) (kk : wx X M L (pc + 3) lv (.ref (X.1.1 + 10) :: st)) : wx X M L pc lv (.ref (X.1.1 + 9) :: st) := wx_get C 9 3 (by decide) rfl rfl inX5 (by decide) w1_139 rfl rfl hd kk
theorem gf_X10_140 (C : Cx X cc nL RX10 ret d) (hd : decode cc pc = .ok (.getfield 140, 3)) (kk : wx X M L (pc + 3) lv (.ref (X.1.1 + 11) :: st)) : wx X M L pc lv (.ref (X.1.1 + 9) :: st) := wx_get C 9 4 (by decide) rfl rfl inX5 (by decide) w1_141 rfl rfl hd kk
theorem gf_X10_167 (C : Cx X cc nL RX10 ret d) (hd : decode cc pc = .ok (.getfield 167, 3)) (kk : wx X M L (pc + 3) lv (.ref (X.1.1 + 17) :: st)) : wx X M L pc lv (.ref (X.1.1 + 16) :: st) := wx_get C 16 1 (by decide) rfl rfl inX9 (by decide) w1_202 rfl rfl hd kk
theorem gf_X10_171 (C : Cx X cc nL RX10 ret d) {p : Nat} (hp : p < 12) (hd : decode cc pc = .ok (.getfield 171, 3)) (kk : wx X M L (pc + 3) lv (.ref (X.1.1 + (19 + 3 * p)) :: st)) : wx X M L pc lv (.ref (X.1.1 + (18 + 3 * p)) :: st) := wx_get C (18 + 3 * p) 2 (by omega) (sh_wan hp _ _) rfl inX8 (by decide) w1_192 rfl rfl hd kk
theorem gf_X10_183 (C : Cx X cc nL RX10 ret d) {k : Nat} (hk : g_row k) (hd : decode cc pc = .ok (.getfield 183, 3)) (kk : wx X M L (pc + 3) lv (.int (M k 1) :: st)) : wx X M L pc lv (.ref (X.1.1 + k) :: st) := wx_get C k 1 (g_row_lt1 hk) (sh_row hk _ _) rfl inX6 (by decide) w1_129 rfl rfl hd kk
theorem gf_X10_189 (C : Cx X cc nL RX10 ret d) (hd : decode cc pc = .ok (.getfield 189, 3)) (kk : wx X M L (pc + 3) lv (.int (M 16 2) :: st)) : wx X M L pc lv (.ref (X.1.1 + 16) :: st) := wx_get C 16 2 (by decide) rfl rfl inX9 (by decide) w1_204 rfl rfl hd kk
theorem gf_X10_192 (C : Cx X cc nL RX10 ret d) {p : Nat} (hp : p < 12) (hd : decode cc pc = .ok (.getfield 192, 3)) (kk : wx X M L (pc + 3) lv (.int (M (18 + 3 * p) 0) :: st)) : wx X M L pc lv (.ref (X.1.1 + (18 + 3 * p)) :: st) := wx_get C (18 + 3 * p) 0 (by omega) (sh_wan hp _ _) rfl inX8 (by decide) w1_187 rfl rfl hd kk
theorem gf_X10_195 (C : Cx X cc nL RX10 ret d) {p : Nat} (hp : p < 12) (hd : decode cc pc = .ok (.getfield 195, 3)) (kk : wx X M L (pc + 3) lv (.int (M (18 + 3 * p) 1) :: st)) : wx X M L pc lv (.ref (X.1.1 + (18 + 3 * p)) :: st) := wx_get C (18 + 3 * p) 1 (by omega) (sh_wan hp _ _) rfl inX8 (by decide) w1_189 rfl rfl hd kk
theorem gf_X10_234 (C : Cx X cc nL RX10 ret d) (hd : decode cc pc = .ok (.getfield 234, 3)) (kk : wx X M L (pc + 3) lv (.long (L 146 3) :: st)) : wx X M L pc lv (.ref (X.1.1 + 146) :: st) := wx_get C 146 3 (by decide) rfl rfl inX3 (by decide) w2_26 rfl rfl hd kk
theorem gf_X10_238 (C : Cx X cc nL RX10 ret d) (hd : decode cc pc = .ok (.getfield 238, 3)) (kk : wx X M L (pc + 3) lv (.long (L 146 4) :: st)) : wx X M L pc lv (.ref (X.1.1 + 146) :: st) := wx_get C 146 4 (by decide) rfl rfl inX3 (by decide) w2_28 rfl rfl hd kk
theorem gf_X10_241 (C : Cx X cc nL RX10 ret d) {k : Nat} (hk : g_row k) (hd : decode cc pc = .ok (.getfield 241, 3)) (kk : wx X M L (pc + 3) lv (.ref (X.1.1 + (k + 1)) :: st)) : wx X M L pc lv (.ref (X.1.1 + k) :: st) := wx_get C k 0 (g_row_lt1 hk) (sh_row hk _ _) rfl inX6 (by decide) w1_124 rfl rfl hd kk
theorem gf_X10_276 (C : Cx X cc nL RX10 ret d) {p : Nat} (hp : p < 30) (hd : decode cc pc = .ok (.getfield 276, 3)) (kk : wx X M L (pc + 3) lv (.int (M (56 + 3 * p) 2) :: st)) : wx X M L pc lv (.ref (X.1.1 + (56 + 3 * p)) :: st) := wx_get C (56 + 3 * p) 2 (by omega) (sh_act hp _ _) rfl inX0 (by decide) w1_232 rfl rfl hd kk
theorem gf_X10_285 (C : Cx X cc nL RX10 ret d) {p : Nat} (hp : p < 30) (hd : decode cc pc = .ok (.getfield 285, 3)) (kk : wx X M L (pc + 3) lv (.int (M (56 + 3 * p) 0) :: st)) : wx X M L pc lv (.ref (X.1.1 + (56 + 3 * p)) :: st) := wx_get C (56 + 3 * p) 0 (by omega) (sh_act hp _ _) rfl inX0 (by decide) w1_228 rfl rfl hd kk
theorem gf_X10_287 (C : Cx X cc nL RX10 ret d) {p : Nat} (hp : p < 30) (hd : decode cc pc = .ok (.getfield 287, 3)) (kk : wx X M L (pc + 3) lv (.ref (X.1.1 + (57 + 3 * p)) :: st)) : wx X M L pc lv (.ref (X.1.1 + (56 + 3 * p)) :: st) := wx_get C (56 + 3 * p) 3 (by omega) (sh_act hp _ _) rfl inX0 (by decide) w1_235 rfl rfl hd kk
theorem gf_X10_294 (C : Cx X cc nL RX10 ret d) {p : Nat} (hp : p < 30) (hd : decode cc pc = .ok (.getfield 294, 3)) (kk : wx X M L (pc + 3) lv (.int (M (56 + 3 * p) 1) :: st)) : wx X M L pc lv (.ref (X.1.1 + (56 + 3 * p)) :: st) := wx_get C (56 + 3 * p) 1 (by omega) (sh_act hp _ _) rfl inX0 (by decide) w1_230 rfl rfl hd kk
theorem gf_X10_300 (C : Cx X cc nL RX10 ret d) (hd : decode cc pc = .ok (.getfield 300, 3)) (kk : wx X M L (pc + 3) lv (.int (M 54 2) :: st)) : wx X M L pc lv (.ref (X.1.1 + 54) :: st) := wx_get C 54 2 (by decide) rfl rfl inX1 (by decide) w2_8 rfl rfl hd kk
theorem gf_X10_303 (C : Cx X cc nL RX10 ret d) (hd : decode cc pc = .ok (.getfield 303, 3)) (kk : wx X M L (pc + 3) lv (.int (M 1 5) :: st)) : wx X M L pc lv (.ref (X.1.1 + 1) :: st) := wx_get C 1 5 (by decide) rfl rfl inX7 (by decide) w1_47 rfl rfl hd kk
theorem gf_X11_7 (C : Cx X cc nL RX11 ret d) (hd : decode cc pc = .ok (.getfield 7, 3)) (kk : wx X M L (pc + 3) lv (.int (M 149 2) :: st)) : wx X M L pc lv (.ref (X.1.1 + 149) :: st) := wx_get C 149 2 (by decide) rfl rfl inX11 (by decide) w3_199 rfl rfl hd kk
theorem gf_X11_13 (C : Cx X cc nL RX11 ret d) (hd : decode cc pc = .ok (.getfield 13, 3)) (kk : wx X M L (pc + 3) lv (.int (M 149 3) :: st)) : wx X M L pc lv (.ref (X.1.1 + 149) :: st) := wx_get C 149 3 (by decide) rfl rfl inX11 (by decide) w3_200 rfl rfl hd kk
theorem gf_X11_16 (C : Cx X cc nL RX11 ret d) (hd : decode cc pc = .ok (.getfield 16, 3)) (kk : wx X M L (pc + 3) lv (.int (M 149 4) :: st)) : wx X M L pc lv (.ref (X.1.1 + 149) :: st) := wx_get C 149 4 (by decide) rfl rfl inX11 (by decide) w3_201 rfl rfl hd kk
theorem gf_X11_19 (C : Cx X cc nL RX11 ret d) (hd : decode cc pc = .ok (.getfield 19, 3)) (kk : wx X M L (pc + 3) lv (.ref (X.1.1 + 150) :: st)) : wx X M L pc lv (.ref (X.1.1 + 149) :: st) := wx_get C 149 5 (by decide) rfl rfl inX11 (by decide) w3_202 rfl rfl hd kk
theorem gf_X11_23 (C : Cx X cc nL RX11 ret d) (hd : decode cc pc = .ok (.getfield 23, 3)) (kk : wx X M L (pc + 3) lv (.ref (X.1.1 + 151) :: st)) : wx X M L pc lv (.ref (X.1.1 + 149) :: st) := wx_get C 149 6 (by decide) rfl rfl inX11 (by decide) w3_203 rfl rfl hd kk
theorem gf_X11_26 (C : Cx X cc nL RX11 ret d) (hd : decode cc pc = .ok (.getfield 26, 3)) (kk : wx X M L (pc + 3) lv (.ref (X.1.1 + 152) :: st)) : wx X M L pc lv (.ref (X.1.1 + 149) :: st) := wx_get C 149 7 (by decide) rfl rfl inX11 (by decide) w3_204 rfl rfl hd kk
theorem gf_X11_29 (C : Cx X cc nL RX11 ret d) (hd : decode cc pc = .ok (.getfield 29, 3)) (kk : wx X M L (pc + 3) lv (.ref (X.1.1 + 153) :: st)) : wx X M L pc lv (.ref (X.1.1 + 149) :: st) := wx_get C 149 8 (by decide) rfl rfl inX11 (by decide) w3_205 rfl rfl hd kk
theorem gf_X11_32 (C : Cx X cc nL RX11 ret d) (hd : decode cc pc = .ok (.getfield 32, 3)) (kk : wx X M L (pc + 3) lv (.ref (X.1.1 + 154) :: st)) : wx X M L pc lv (.ref (X.1.1 + 149) :: st) := wx_get C 149 9 (by decide) rfl rfl inX11 (by decide) w3_206 rfl rfl hd kk
theorem gf_X11_35 (C : Cx X cc nL RX11 ret d) (hd : decode cc pc = .ok (.getfield 35, 3)) (kk : wx X M L (pc + 3) lv (.ref (X.1.1 + 155) :: st)) : wx X M L pc lv (.ref (X.1.1 + 149) :: st) := wx_get C 149 10 (by decide) rfl rfl inX11 (by decide) w3_207 rfl rfl hd kk
theorem gf_X11_38 (C : Cx X cc nL RX11 ret d) (hd : decode cc pc = .ok (.getfield 38, 3)) (kk : wx X M L (pc + 3) lv (.ref (X.1.1 + 156) :: st)) : wx X M L pc lv (.ref (X.1.1 + 149) :: st) := wx_get C 149 11 (by decide) rfl rfl inX11 (by decide) w3_208 rfl rfl hd kk
theorem gf_X11_41 (C : Cx X cc nL RX11 ret d) (hd : decode cc pc = .ok (.getfield 41, 3)) (kk : wx X M L (pc + 3) lv (.ref (X.1.1 + 157) :: st)) : wx X M L pc lv (.ref (X.1.1 + 149) :: st) := wx_get C 149 12 (by decide) rfl rfl inX11 (by decide) w3_209 rfl rfl hd kk
theorem gf_X11_44 (C : Cx X cc nL RX11 ret d) (hd : decode cc pc = .ok (.getfield 44, 3)) (kk : wx X M L (pc + 3) lv (.ref (X.1.1 + 158) :: st)) : wx X M L pc lv (.ref (X.1.1 + 149) :: st) := wx_get C 149 13 (by decide) rfl rfl inX11 (by decide) w3_210 rfl rfl hd kk
theorem gf_X11_48 (C : Cx X cc nL RX11 ret d) (hd : decode cc pc = .ok (.getfield 48, 3)) (kk : wx X M L (pc + 3) lv (.ref (X.1.1 + 159) :: st)) : wx X M L pc lv (.ref (X.1.1 + 149) :: st) := wx_get C 149 14 (by decide) rfl rfl inX11 (by decide) w3_211 rfl rfl hd kk
theorem gf_X11_51 (C : Cx X cc nL RX11 ret d) (hd : decode cc pc = .ok (.getfield 51, 3)) (kk : wx X M L (pc + 3) lv (.ref (X.1.1 + 160) :: st)) : wx X M L pc lv (.ref (X.1.1 + 149) :: st) := wx_get C 149 20 (by decide) rfl rfl inX11 (by decide) w3_217 rfl rfl hd kk
theorem gf_X11_54 (C : Cx X cc nL RX11 ret d) (hd : decode cc pc = .ok (.getfield 54, 3)) (kk : wx X M L (pc + 3) lv (.ref (X.1.1 + 161) :: st)) : wx X M L pc lv (.ref (X.1.1 + 149) :: st) := wx_get C 149 21 (by decide) rfl rfl inX11 (by decide) w3_218 rfl rfl hd kk
theorem gf_X11_57 (C : Cx X cc nL RX11 ret d) (hd : decode cc pc = .ok (.getfield 57, 3)) (kk : wx X M L (pc + 3) lv (.ref (X.1.1 + 162) :: st)) : wx X M L pc lv (.ref (X.1.1 + 149) :: st) := wx_get C 149 23 (by decide) rfl rfl inX11 (by decide) w3_220 rfl rfl hd kk
theorem gf_X11_60 (C : Cx X cc nL RX11 ret d) (hd : decode cc pc = .ok (.getfield 60, 3)) (kk : wx X M L (pc + 3) lv (.ref (X.1.1 + 163) :: st)) : wx X M L pc lv (.ref (X.1.1 + 149) :: st) := wx_get C 149 24 (by decide) rfl rfl inX11 (by decide) w3_221 rfl rfl hd kk
theorem gf_X11_63 (C : Cx X cc nL RX11 ret d) (hd : decode cc pc = .ok (.getfield 63, 3)) (kk : wx X M L (pc + 3) lv (.ref (X.1.1 + 164) :: st)) : wx X M L pc lv (.ref (X.1.1 + 149) :: st) := wx_get C 149 28 (by decide) rfl rfl inX11 (by decide) w3_225 rfl rfl hd kk
theorem gf_X11_66 (C : Cx X cc nL RX11 ret d) (hd : decode cc pc = .ok (.getfield 66, 3)) (kk : wx X M L (pc + 3) lv (.ref (X.1.1 + 165) :: st)) : wx X M L pc lv (.ref (X.1.1 + 149) :: st) := wx_get C 149 29 (by decide) rfl rfl inX11 (by decide) w3_226 rfl rfl hd kk
theorem gf_X11_69 (C : Cx X cc nL RX11 ret d) (hd : decode cc pc = .ok (.getfield 69, 3)) (kk : wx X M L (pc + 3) lv (.ref (X.1.1 + 166) :: st)) : wx X M L pc lv (.ref (X.1.1 + 149) :: st) := wx_get C 149 30 (by decide) rfl rfl inX11 (by decide) w3_227 rfl rfl hd kk
theorem gf_X11_72 (C : Cx X cc nL RX11 ret d) (hd : decode cc pc = .ok (.getfield 72, 3)) (kk : wx X M L (pc + 3) lv (.ref (X.1.1 + 167) :: st)) : wx X M L pc lv (.ref (X.1.1 + 149) :: st) := wx_get C 149 31 (by decide) rfl rfl inX11 (by decide) w3_228 rfl rfl hd kk
theorem gf_X11_75 (C : Cx X cc nL RX11 ret d) (hd : decode cc pc = .ok (.getfield 75, 3)) (kk : wx X M L (pc + 3) lv (.int (M 149 0) :: st)) : wx X M L pc lv (.ref (X.1.1 + 149) :: st) := wx_get C 149 0 (by decide) rfl rfl inX11 (by decide) w3_197 rfl rfl hd kk
theorem gf_X11_82 (C : Cx X cc nL RX11 ret d) (hd : decode cc pc = .ok (.getfield 82, 3)) (kk : wx X M L (pc + 3) lv (.int (M 149 1) :: st)) : wx X M L pc lv (.ref (X.1.1 + 149) :: st) := wx_get C 149 1 (by decide) rfl rfl inX11 (by decide) w3_198 rfl rfl hd kk
theorem gf_X11_85 (C : Cx X cc nL RX11 ret d) (hd : decode cc pc = .ok (.getfield 85, 3)) (kk : wx X M L (pc + 3) lv (.int (M 149 26) :: st)) : wx X M L pc lv (.ref (X.1.1 + 149) :: st) := wx_get C 149 26 (by decide) rfl rfl inX11 (by decide) w3_223 rfl rfl hd kk
theorem gf_X11_96 (C : Cx X cc nL RX11 ret d) (hd : decode cc pc = .ok (.getfield 96, 3)) (kk : wx X M L (pc + 3) lv (.int (M 149 15) :: st)) : wx X M L pc lv (.ref (X.1.1 + 149) :: st) := wx_get C 149 15 (by decide) rfl rfl inX11 (by decide) w3_212 rfl rfl hd kk
theorem gf_X11_114 (C : Cx X cc nL RX11 ret d) (hd : decode cc pc = .ok (.getfield 114, 3)) (kk : wx X M L (pc + 3) lv (.int (M 149 16) :: st)) : wx X M L pc lv (.ref (X.1.1 + 149) :: st) := wx_get C 149 16 (by decide) rfl rfl inX11 (by decide) w3_213 rfl rfl hd kk
theorem gf_X11_117 (C : Cx X cc nL RX11 ret d) (hd : decode cc pc = .ok (.getfield 117, 3)) (kk : wx X M L (pc + 3) lv (.int (M 149 17) :: st)) : wx X M L pc lv (.ref (X.1.1 + 149) :: st) := wx_get C 149 17 (by decide) rfl rfl inX11 (by decide) w3_214 rfl rfl hd kk
theorem gf_X11_135 (C : Cx X cc nL RX11 ret d) (hd : decode cc pc = .ok (.getfield 135, 3)) (kk : wx X M L (pc + 3) lv (.long (L 149 18) :: st)) : wx X M L pc lv (.ref (X.1.1 + 149) :: st) := wx_get C 149 18 (by decide) rfl rfl inX11 (by decide) w3_215 rfl rfl hd kk
theorem gf_X11_142 (C : Cx X cc nL RX11 ret d) (hd : decode cc pc = .ok (.getfield 142, 3)) (kk : wx X M L (pc + 3) lv (.long (L 149 19) :: st)) : wx X M L pc lv (.ref (X.1.1 + 149) :: st) := wx_get C 149 19 (by decide) rfl rfl inX11 (by decide) w3_216 rfl rfl hd kk
theorem gf_X11_150 (C : Cx X cc nL RX11 ret d) (hd : decode cc pc = .ok (.getfield 150, 3)) (kk : wx X M L (pc + 3) lv (.int (M 149 22) :: st)) : wx X M L pc lv (.ref (X.1.1 + 149) :: st) := wx_get C 149 22 (by decide) rfl rfl inX11 (by decide) w3_219 rfl rfl hd kk
theorem gf_X11_160 (C : Cx X cc nL RX11 ret d) (hd : decode cc pc = .ok (.getfield 160, 3)) (kk : wx X M L (pc + 3) lv (.int (M 149 25) :: st)) : wx X M L pc lv (.ref (X.1.1 + 149) :: st) := wx_get C 149 25 (by decide) rfl rfl inX11 (by decide) w3_222 rfl rfl hd kk
theorem gf_X11_169 (C : Cx X cc nL RX11 ret d) (hd : decode cc pc = .ok (.getfield 169, 3)) (kk : wx X M L (pc + 3) lv (.int (M 149 27) :: st)) : wx X M L pc lv (.ref (X.1.1 + 149) :: st) := wx_get C 149 27 (by decide) rfl rfl inX11 (by decide) w3_224 rfl rfl hd kk
theorem gf_X11_201 (C : Cx X cc nL RX11 ret d) (hd : decode cc pc = .ok (.getfield 201, 3)) (kk : wx X M L (pc + 3) lv (.long (L 149 34) :: st)) : wx X M L pc lv (.ref (X.1.1 + 149) :: st) := wx_get C 149 34 (by decide) rfl rfl inX11 (by decide) w3_231 rfl rfl hd kk
theorem gf_X11_204 (C : Cx X cc nL RX11 ret d) (hd : decode cc pc = .ok (.getfield 204, 3)) (kk : wx X M L (pc + 3) lv (.long (L 149 32) :: st)) : wx X M L pc lv (.ref (X.1.1 + 149) :: st) := wx_get C 149 32 (by decide) rfl rfl inX11 (by decide) w3_229 rfl rfl hd kk
theorem gf_X11_207 (C : Cx X cc nL RX11 ret d) (hd : decode cc pc = .ok (.getfield 207, 3)) (kk : wx X M L (pc + 3) lv (.long (L 149 35) :: st)) : wx X M L pc lv (.ref (X.1.1 + 149) :: st) := wx_get C 149 35 (by decide) rfl rfl inX11 (by decide) w3_232 rfl rfl hd kk
theorem gf_X11_210 (C : Cx X cc nL RX11 ret d) (hd : decode cc pc = .ok (.getfield 210, 3)) (kk : wx X M L (pc + 3) lv (.long (L 149 33) :: st)) : wx X M L pc lv (.ref (X.1.1 + 149) :: st) := wx_get C 149 33 (by decide) rfl rfl inX11 (by decide) w3_230 rfl rfl hd kk
theorem gf_X2_7 (C : Cx X cc nL RX2 ret d) (hd : decode cc pc = .ok (.getfield 7, 3)) (kk : wx X M L (pc + 3) lv (.int (M 8 1) :: st)) : wx X M L pc lv (.ref (X.1.1 + 8) :: st) := wx_get C 8 1 (by decide) rfl rfl inX2 (by decide) w1_93 rfl rfl hd kk
theorem gf_X2_13 (C : Cx X cc nL RX2 ret d) (hd : decode cc pc = .ok (.getfield 13, 3)) (kk : wx X M L (pc + 3) lv (.ref (X.1.1 + 1) :: st)) : wx X M L pc lv (.ref (X.1.1 + 8) :: st) := wx_get C 8 0 (by decide) rfl rfl inX2 (by decide) w1_92 rfl rfl hd kk
theorem gf_X2_17 (C : Cx X cc nL RX2 ret d) (hd : decode cc pc = .ok (.getfield 17, 3)) (kk : wx X M L (pc + 3) lv (.ref (X.1.1 + 2) :: st)) : wx X M L pc lv (.ref (X.1.1 + 1) :: st) := wx_get C 1 0 (by decide) rfl rfl inX7 (by decide) w1_30 rfl rfl hd kk
theorem gf_X2_31 (C : Cx X cc nL RX2 ret d) (hd : decode cc pc = .ok (.getfield 31, 3)) (kk : wx X M L (pc + 3) lv (.ref (X.1.1 + 3) :: st)) : wx X M L pc lv (.ref (X.1.1 + 1) :: st) := wx_get C 1 1 (by decide) rfl rfl inX7 (by decide) w1_35 rfl rfl hd kk
theorem gf_X2_39 (C : Cx X cc nL RX2 ret d) (hd : decode cc pc = .ok (.getfield 39, 3)) (kk : wx X M L (pc + 3) lv (.ref (X.1.1 + 4) :: st)) : wx X M L pc lv (.ref (X.1.1 + 1) :: st) := wx_get C 1 2 (by decide) rfl rfl inX7 (by decide) w1_38 rfl rfl hd kk
theorem gf_X2_42 (C : Cx X cc nL RX2 ret d) (hd : decode cc pc = .ok (.getfield 42, 3)) (kk : wx X M L (pc + 3) lv (.int (M 1 5) :: st)) : wx X M L pc lv (.ref (X.1.1 + 1) :: st) := wx_get C 1 5 (by decide) rfl rfl inX7 (by decide) w1_45 rfl rfl hd kk
theorem gf_X3_9 (C : Cx X cc nL RX3 ret d) {k : Nat} (hk : g_row k) (hd : decode cc pc = .ok (.getfield 9, 3)) (kk : wx X M L (pc + 3) lv (.int (M k 1) :: st)) : wx X M L pc lv (.ref (X.1.1 + k) :: st) := wx_get C k 1 (g_row_lt1 hk) (sh_row hk _ _) rfl inX6 (by decide) w1_126 rfl rfl hd kk
theorem gf_X3_15 (C : Cx X cc nL RX3 ret d) (hd : decode cc pc = .ok (.getfield 15, 3)) (kk : wx X M L (pc + 3) lv (.long (L 146 0) :: st)) : wx X M L pc lv (.ref (X.1.1 + 146) :: st) := wx_get C 146 0 (by decide) rfl rfl inX3 (by decide) w2_22 rfl rfl hd kk
theorem gf_X3_21 (C : Cx X cc nL RX3 ret d) (hd : decode cc pc = .ok (.getfield 21, 3)) (kk : wx X M L (pc + 3) lv (.long (L 146 1) :: st)) : wx X M L pc lv (.ref (X.1.1 + 146) :: st) := wx_get C 146 1 (by decide) rfl rfl inX3 (by decide) w2_23 rfl rfl hd kk
theorem gf_X3_24 (C : Cx X cc nL RX3 ret d) (hd : decode cc pc = .ok (.getfield 24, 3)) (kk : wx X M L (pc + 3) lv (.long (L 146 2) :: st)) : wx X M L pc lv (.ref (X.1.1 + 146) :: st) := wx_get C 146 2 (by decide) rfl rfl inX3 (by decide) w2_24 rfl rfl hd kk
theorem gf_X3_27 (C : Cx X cc nL RX3 ret d) (hd : decode cc pc = .ok (.getfield 27, 3)) (kk : wx X M L (pc + 3) lv (.ref (X.1.1 + 2) :: st)) : wx X M L pc lv (.ref (X.1.1 + 1) :: st) := wx_get C 1 0 (by decide) rfl rfl inX7 (by decide) w1_31 rfl rfl hd kk
theorem gf_X3_33 (C : Cx X cc nL RX3 ret d) {k : Nat} (hk : g_row k) (hd : decode cc pc = .ok (.getfield 33, 3)) (kk : wx X M L (pc + 3) lv (.ref (X.1.1 + (k + 1)) :: st)) : wx X M L pc lv (.ref (X.1.1 + k) :: st) := wx_get C k 0 (g_row_lt1 hk) (sh_row hk _ _) rfl inX6 (by decide) w1_122 rfl rfl hd kk
theorem gf_X3_39 (C : Cx X cc nL RX3 ret d) (hd : decode cc pc = .ok (.getfield 39, 3)) (kk : wx X M L (pc + 3) lv (.long (L 146 3) :: st)) : wx X M L pc lv (.ref (X.1.1 + 146) :: st) := wx_get C 146 3 (by decide) rfl rfl inX3 (by decide) w2_25 rfl rfl hd kk
theorem gf_X3_42 (C : Cx X cc nL RX3 ret d) (hd : decode cc pc = .ok (.getfield 42, 3)) (kk : wx X M L (pc + 3) lv (.long (L 146 4) :: st)) : wx X M L pc lv (.ref (X.1.1 + 146) :: st) := wx_get C 146 4 (by decide) rfl rfl inX3 (by decide) w2_27 rfl rfl hd kk
theorem gf_X4_9 (C : Cx X cc nL RX4 ret d) (hd : decode cc pc = .ok (.getfield 9, 3)) (kk : wx X M L (pc + 3) lv (.int (M 7 1) :: st)) : wx X M L pc lv (.ref (X.1.1 + 7) :: st) := wx_get C 7 1 (by decide) rfl rfl inX4 (by decide) w1_69 rfl rfl hd kk
theorem gf_X4_15 (C : Cx X cc nL RX4 ret d) (hd : decode cc pc = .ok (.getfield 15, 3)) (kk : wx X M L (pc + 3) lv (.int (M 7 2) :: st)) : wx X M L pc lv (.ref (X.1.1 + 7) :: st) := wx_get C 7 2 (by decide) rfl rfl inX4 (by decide) w1_71 rfl rfl hd kk
theorem gf_X4_18 (C : Cx X cc nL RX4 ret d) (hd : decode cc pc = .ok (.getfield 18, 3)) (kk : wx X M L (pc + 3) lv (.ref (X.1.1 + 1) :: st)) : wx X M L pc lv (.ref (X.1.1 + 7) :: st) := wx_get C 7 0 (by decide) rfl rfl inX4 (by decide) w1_68 rfl rfl hd kk
theorem gf_X4_22 (C : Cx X cc nL RX4 ret d) {k : Nat} (hk : g_row k) (hd : decode cc pc = .ok (.getfield 22, 3)) (kk : wx X M L (pc + 3) lv (.int (M k 1) :: st)) : wx X M L pc lv (.ref (X.1.1 + k) :: st) := wx_get C k 1 (g_row_lt1 hk) (sh_row hk _ _) rfl inX6 (by decide) w1_127 rfl rfl hd kk
theorem gf_X4_27 (C : Cx X cc nL RX4 ret d) {k : Nat} (hk : g_row k) (hd : decode cc pc = .ok (.getfield 27, 3)) (kk : wx X M L (pc + 3) lv (.ref (X.1.1 + (k + 1)) :: st)) : wx X M L pc lv (.ref (X.1.1 + k) :: st) := wx_get C k 0 (g_row_lt1 hk) (sh_row hk _ _) rfl inX6 (by decide) w1_121 rfl rfl hd kk
theorem gf_X4_37 (C : Cx X cc nL RX4 ret d) (hd : decode cc pc = .ok (.getfield 37, 3)) (kk : wx X M L (pc + 3) lv (.ref (X.1.1 + 2) :: st)) : wx X M L pc lv (.ref (X.1.1 + 1) :: st) := wx_get C 1 0 (by decide) rfl rfl inX7 (by decide) w1_32 rfl rfl hd kk
theorem gf_X4_51 (C : Cx X cc nL RX4 ret d) (hd : decode cc pc = .ok (.getfield 51, 3)) (kk : wx X M L (pc + 3) lv (.int (M 7 3) :: st)) : wx X M L pc lv (.ref (X.1.1 + 7) :: st) := wx_get C 7 3 (by decide) rfl rfl inX4 (by decide) w1_73 rfl rfl hd kk
theorem gf_X4_54 (C : Cx X cc nL RX4 ret d) (hd : decode cc pc = .ok (.getfield 54, 3)) (kk : wx X M L (pc + 3) lv (.int (M 7 4) :: st)) : wx X M L pc lv (.ref (X.1.1 + 7) :: st) := wx_get C 7 4 (by decide) rfl rfl inX4 (by decide) w1_74 rfl rfl hd kk
theorem gf_X5_9 (C : Cx X cc nL RX5 ret d) (hd : decode cc pc = .ok (.getfield 9, 3)) (kk : wx X M L (pc + 3) lv (.ref (X.1.1 + 10) :: st)) : wx X M L pc lv (.ref (X.1.1 + 9) :: st) := wx_get C 9 3 (by decide) rfl rfl inX5 (by decide) w1_138 rfl rfl hd kk
theorem gf_X5_15 (C : Cx X cc nL RX5 ret d) (hd : decode cc pc = .ok (.getfield 15, 3)) (kk : wx X M L (pc + 3) lv (.ref (X.1.1 + 11) :: st)) : wx X M L pc lv (.ref (X.1.1 + 9) :: st) := wx_get C 9 4 (by decide) rfl rfl inX5 (by decide) w1_140 rfl rfl hd kk
theorem gf_X5_18 (C : Cx X cc nL RX5 ret d) (hd : decode cc pc = .ok (.getfield 18, 3)) (kk : wx X M L (pc + 3) lv (.ref (X.1.1 + 12) :: st)) : wx X M L pc lv (.ref (X.1.1 + 9) :: st) := wx_get C 9 5 (by decide) rfl rfl inX5 (by decide) w1_142 rfl rfl hd kk
theorem gf_X5_21 (C : Cx X cc nL RX5 ret d) (hd : decode cc pc = .ok (.getfield 21, 3)) (kk : wx X M L (pc + 3) lv (.ref (X.1.1 + 13) :: st)) : wx X M L pc lv (.ref (X.1.1 + 9) :: st) := wx_get C 9 6 (by decide) rfl rfl inX5 (by decide) w1_143 rfl rfl hd kk
theorem gf_X5_27 (C : Cx X cc nL RX5 ret d) (hd : decode cc pc = .ok (.getfield 27, 3)) (kk : wx X M L (pc + 3) lv (.ref (X.1.1 + 14) :: st)) : wx X M L pc lv (.ref (X.1.1 + 9) :: st) := wx_get C 9 7 (by decide) rfl rfl inX5 (by decide) w1_144 rfl rfl hd kk
theorem gf_X5_31 (C : Cx X cc nL RX5 ret d) (hd : decode cc pc = .ok (.getfield 31, 3)) (kk : wx X M L (pc + 3) lv (.ref (X.1.1 + 1) :: st)) : wx X M L pc lv (.ref (X.1.1 + 9) :: st) := wx_get C 9 0 (by decide) rfl rfl inX5 (by decide) w1_135 rfl rfl hd kk
theorem gf_X5_35 (C : Cx X cc nL RX5 ret d) (hd : decode cc pc = .ok (.getfield 35, 3)) (kk : wx X M L (pc + 3) lv (.ref (X.1.1 + 7) :: st)) : wx X M L pc lv (.ref (X.1.1 + 9) :: st) := wx_get C 9 1 (by decide) rfl rfl inX5 (by decide) w1_136 rfl rfl hd kk
theorem gf_X5_39 (C : Cx X cc nL RX5 ret d) (hd : decode cc pc = .ok (.getfield 39, 3)) (kk : wx X M L (pc + 3) lv (.ref (X.1.1 + 8) :: st)) : wx X M L pc lv (.ref (X.1.1 + 9) :: st) := wx_get C 9 2 (by decide) rfl rfl inX5 (by decide) w1_137 rfl rfl hd kk
theorem gf_X5_43 (C : Cx X cc nL RX5 ret d) (hd : decode cc pc = .ok (.getfield 43, 3)) (kk : wx X M L (pc + 3) lv (.int (M 9 10) :: st)) : wx X M L pc lv (.ref (X.1.1 + 9) :: st) := wx_get C 9 10 (by decide) rfl rfl inX5 (by decide) w1_147 rfl rfl hd kk
theorem gf_X5_53 (C : Cx X cc nL RX5 ret d) (hd : decode cc pc = .ok (.getfield 53, 3)) (kk : wx X M L (pc + 3) lv (.int (M 9 8) :: st)) : wx X M L pc lv (.ref (X.1.1 + 9) :: st) := wx_get C 9 8 (by decide) rfl rfl inX5 (by decide) w1_145 rfl rfl hd kk
theorem gf_X5_57 (C : Cx X cc nL RX5 ret d) (hd : decode cc pc = .ok (.getfield 57, 3)) (kk : wx X M L (pc + 3) lv (.int (M 9 9) :: st)) : wx X M L pc lv (.ref (X.1.1 + 9) :: st) := wx_get C 9 9 (by decide) rfl rfl inX5 (by decide) w1_146 rfl rfl hd kk
theorem gf_X5_67 (C : Cx X cc nL RX5 ret d) (hd : decode cc pc = .ok (.getfield 67, 3)) (kk : wx X M L (pc + 3) lv (.int (M 1 5) :: st)) : wx X M L pc lv (.ref (X.1.1 + 1) :: st) := wx_get C 1 5 (by decide) rfl rfl inX7 (by decide) w1_46 rfl rfl hd kk
theorem gf_X6_11 (C : Cx X cc nL RX6 ret d) {k : Nat} (hk : g_row k) (hd : decode cc pc = .ok (.getfield 11, 3)) (kk : wx X M L (pc + 3) lv (.ref (X.1.1 + (k + 1)) :: st)) : wx X M L pc lv (.ref (X.1.1 + k) :: st) := wx_get C k 0 (g_row_lt1 hk) (sh_row hk _ _) rfl inX6 (by decide) w1_120 rfl rfl hd kk
theorem gf_X6_15 (C : Cx X cc nL RX6 ret d) {k : Nat} (hk : g_row k) (hd : decode cc pc = .ok (.getfield 15, 3)) (kk : wx X M L (pc + 3) lv (.int (M k 1) :: st)) : wx X M L pc lv (.ref (X.1.1 + k) :: st) := wx_get C k 1 (g_row_lt1 hk) (sh_row hk _ _) rfl inX6 (by decide) w1_125 rfl rfl hd kk
theorem gf_X7_9 (C : Cx X cc nL RX7 ret d) (hd : decode cc pc = .ok (.getfield 9, 3)) (kk : wx X M L (pc + 3) lv (.ref (X.1.1 + 2) :: st)) : wx X M L pc lv (.ref (X.1.1 + 1) :: st) := wx_get C 1 0 (by decide) rfl rfl inX7 (by decide) w1_29 rfl rfl hd kk
theorem gf_X7_15 (C : Cx X cc nL RX7 ret d) (hd : decode cc pc = .ok (.getfield 15, 3)) (kk : wx X M L (pc + 3) lv (.ref (X.1.1 + 3) :: st)) : wx X M L pc lv (.ref (X.1.1 + 1) :: st) := wx_get C 1 1 (by decide) rfl rfl inX7 (by decide) w1_34 rfl rfl hd kk
theorem gf_X7_18 (C : Cx X cc nL RX7 ret d) (hd : decode cc pc = .ok (.getfield 18, 3)) (kk : wx X M L (pc + 3) lv (.ref (X.1.1 + 4) :: st)) : wx X M L pc lv (.ref (X.1.1 + 1) :: st) := wx_get C 1 2 (by decide) rfl rfl inX7 (by decide) w1_37 rfl rfl hd kk
theorem gf_X7_21 (C : Cx X cc nL RX7 ret d) (hd : decode cc pc = .ok (.getfield 21, 3)) (kk : wx X M L (pc + 3) lv (.ref (X.1.1 + 5) :: st)) : wx X M L pc lv (.ref (X.1.1 + 1) :: st) := wx_get C 1 3 (by decide) rfl rfl inX7 (by decide) w1_40 rfl rfl hd kk
theorem gf_X7_24 (C : Cx X cc nL RX7 ret d) (hd : decode cc pc = .ok (.getfield 24, 3)) (kk : wx X M L (pc + 3) lv (.ref (X.1.1 + 6) :: st)) : wx X M L pc lv (.ref (X.1.1 + 1) :: st) := wx_get C 1 4 (by decide) rfl rfl inX7 (by decide) w1_42 rfl rfl hd kk
theorem gf_X7_27 (C : Cx X cc nL RX7 ret d) (hd : decode cc pc = .ok (.getfield 27, 3)) (kk : wx X M L (pc + 3) lv (.int (M 1 5) :: st)) : wx X M L pc lv (.ref (X.1.1 + 1) :: st) := wx_get C 1 5 (by decide) rfl rfl inX7 (by decide) w1_44 rfl rfl hd kk
theorem gf_X7_35 (C : Cx X cc nL RX7 ret d) {k : Nat} (hk : g_row k) (hd : decode cc pc = .ok (.getfield 35, 3)) (kk : wx X M L (pc + 3) lv (.int (M k 1) :: st)) : wx X M L pc lv (.ref (X.1.1 + k) :: st) := wx_get C k 1 (g_row_lt1 hk) (sh_row hk _ _) rfl inX6 (by decide) w1_128 rfl rfl hd kk
theorem gf_X7_40 (C : Cx X cc nL RX7 ret d) {k : Nat} (hk : g_row k) (hd : decode cc pc = .ok (.getfield 40, 3)) (kk : wx X M L (pc + 3) lv (.ref (X.1.1 + (k + 1)) :: st)) : wx X M L pc lv (.ref (X.1.1 + k) :: st) := wx_get C k 0 (g_row_lt1 hk) (sh_row hk _ _) rfl inX6 (by decide) w1_123 rfl rfl hd kk
theorem gf_X9_11 (C : Cx X cc nL RX9 ret d) (hd : decode cc pc = .ok (.getfield 11, 3)) (kk : wx X M L (pc + 3) lv (.ref (X.1.1 + 17) :: st)) : wx X M L pc lv (.ref (X.1.1 + 16) :: st) := wx_get C 16 1 (by decide) rfl rfl inX9 (by decide) w1_201 rfl rfl hd kk
theorem gf_X9_17 (C : Cx X cc nL RX9 ret d) (hd : decode cc pc = .ok (.getfield 17, 3)) (kk : wx X M L (pc + 3) lv (.ref (X.1.1 + 1) :: st)) : wx X M L pc lv (.ref (X.1.1 + 16) :: st) := wx_get C 16 0 (by decide) rfl rfl inX9 (by decide) w1_200 rfl rfl hd kk
theorem gf_X9_22 (C : Cx X cc nL RX9 ret d) (hd : decode cc pc = .ok (.getfield 22, 3)) (kk : wx X M L (pc + 3) lv (.int (M 16 2) :: st)) : wx X M L pc lv (.ref (X.1.1 + 16) :: st) := wx_get C 16 2 (by decide) rfl rfl inX9 (by decide) w1_203 rfl rfl hd kk
theorem gf_X9_26 (C : Cx X cc nL RX9 ret d) {p : Nat} (hp : p < 12) (hd : decode cc pc = .ok (.getfield 26, 3)) (kk : wx X M L (pc + 3) lv (.int (M (18 + 3 * p) 1) :: st)) : wx X M L pc lv (.ref (X.1.1 + (18 + 3 * p)) :: st) := wx_get C (18 + 3 * p) 1 (by omega) (sh_wan hp _ _) rfl inX8 (by decide) w1_188 rfl rfl hd kk
theorem gf_X9_37 (C : Cx X cc nL RX9 ret d) {p : Nat} (hp : p < 12) (hd : decode cc pc = .ok (.getfield 37, 3)) (kk : wx X M L (pc + 3) lv (.ref (X.1.1 + (19 + 3 * p)) :: st)) : wx X M L pc lv (.ref (X.1.1 + (18 + 3 * p)) :: st) := wx_get C (18 + 3 * p) 2 (by omega) (sh_wan hp _ _) rfl inX8 (by decide) w1_191 rfl rfl hd kk
theorem pf_X1_18 (C : Cx X cc nL RX1 ret d) {x : Int32} (hd : decode cc pc = .ok (.putfield 18, 3)) (kk : wx X (g_st M 54 1 x) L (pc + 3) lv st) : wx X M L pc lv (.int x :: .ref (X.1.1 + 54) :: st) := wx_put (ty := .int) C 54 1 tyX1 (by decide) rfl rfl rfl inX1 tyX1_ok nmX1 (by decide) w2_6 rfl rfl (by decide +kernel) rfl rfl (Nat.le_of_ble_eq_true rfl) hd kk
theorem pf_X1_22 (C : Cx X cc nL RX1 ret d) {p : Nat} {x : Int32} (hp : p < 30) (hd : decode cc pc = .ok (.putfield 22, 3)) (kk : wx X (g_st M (56 + 3 * p) 0 x) L (pc + 3) lv st) : wx X M L pc lv (.int x :: .ref (X.1.1 + (56 + 3 * p)) :: st) := wx_put (ty := .int) C (56 + 3 * p) 0 tyX0 (by omega) (sh_act hp _ _) (sh_act hp _ _) rfl inX0 tyX0_ok nmX0 (by decide) w1_227 rfl rfl (by decide +kernel) rfl rfl (Nat.le_of_ble_eq_true rfl) hd kk
theorem pf_X1_25 (C : Cx X cc nL RX1 ret d) {p : Nat} {x : Int32} (hp : p < 30) (hn : narrow .boolean (.int x) = .int x) (hf : fits .boolean (.int x) = true) (hd : decode cc pc = .ok (.putfield 25, 3)) (kk : wx X (g_st M (56 + 3 * p) 1 x) L (pc + 3) lv st) : wx X M L pc lv (.int x :: .ref (X.1.1 + (56 + 3 * p)) :: st) := wx_put (ty := .boolean) C (56 + 3 * p) 1 tyX0 (by omega) (sh_act hp _ _) (sh_act hp _ _) rfl inX0 tyX0_ok nmX0 (by decide) w1_229 rfl rfl (by decide +kernel) hn hf (Nat.le_of_ble_eq_true rfl) hd kk
theorem pf_X1_29 (C : Cx X cc nL RX1 ret d) {p : Nat} {x : Int32} (hp : p < 30) (hd : decode cc pc = .ok (.putfield 29, 3)) (kk : wx X (g_st M (56 + 3 * p) 2 x) L (pc + 3) lv st) : wx X M L pc lv (.int x :: .ref (X.1.1 + (56 + 3 * p)) :: st) := wx_put (ty := .int) C (56 + 3 * p) 2 tyX0 (by omega) (sh_act hp _ _) (sh_act hp _ _) rfl inX0 tyX0_ok nmX0 (by decide) w1_231 rfl rfl (by decide +kernel) rfl rfl (Nat.le_of_ble_eq_true rfl) hd kk
theorem pf_X1_42 (C : Cx X cc nL RX1 ret d) {x : Int32} (hd : decode cc pc = .ok (.putfield 42, 3)) (kk : wx X (g_st M 54 2 x) L (pc + 3) lv st) : wx X M L pc lv (.int x :: .ref (X.1.1 + 54) :: st) := wx_put (ty := .int) C 54 2 tyX1 (by decide) rfl rfl rfl inX1 tyX1_ok nmX1 (by decide) w2_7 rfl rfl (by decide +kernel) rfl rfl (Nat.le_of_ble_eq_true rfl) hd kk
theorem pf_X10_89 (C : Cx X cc nL RX10 ret d) {x : Int32} (hd : decode cc pc = .ok (.putfield 89, 3)) (kk : wx X (g_st M 8 1 x) L (pc + 3) lv st) : wx X M L pc lv (.int x :: .ref (X.1.1 + 8) :: st) := wx_put (ty := .int) C 8 1 tyX2 (by decide) rfl rfl rfl inX2 tyX2_ok nmX2 (by decide) w1_94 rfl rfl (by decide +kernel) rfl rfl (Nat.le_of_ble_eq_true rfl) hd kk
theorem pf_X10_93 (C : Cx X cc nL RX10 ret d) {x : Int32} (hd : decode cc pc = .ok (.putfield 93, 3)) (kk : wx X (g_st M 7 1 x) L (pc + 3) lv st) : wx X M L pc lv (.int x :: .ref (X.1.1 + 7) :: st) := wx_put (ty := .int) C 7 1 tyX4 (by decide) rfl rfl rfl inX4 tyX4_ok nmX4 (by decide) w1_70 rfl rfl (by decide +kernel) rfl rfl (Nat.le_of_ble_eq_true rfl) hd kk
theorem pf_X10_96 (C : Cx X cc nL RX10 ret d) {x : Int32} (hd : decode cc pc = .ok (.putfield 96, 3)) (kk : wx X (g_st M 7 2 x) L (pc + 3) lv st) : wx X M L pc lv (.int x :: .ref (X.1.1 + 7) :: st) := wx_put (ty := .int) C 7 2 tyX4 (by decide) rfl rfl rfl inX4 tyX4_ok nmX4 (by decide) w1_72 rfl rfl (by decide +kernel) rfl rfl (Nat.le_of_ble_eq_true rfl) hd kk
theorem pf_X10_195 (C : Cx X cc nL RX10 ret d) {p : Nat} {x : Int32} (hp : p < 12) (hn : narrow .boolean (.int x) = .int x) (hf : fits .boolean (.int x) = true) (hd : decode cc pc = .ok (.putfield 195, 3)) (kk : wx X (g_st M (18 + 3 * p) 1 x) L (pc + 3) lv st) : wx X M L pc lv (.int x :: .ref (X.1.1 + (18 + 3 * p)) :: st) := wx_put (ty := .boolean) C (18 + 3 * p) 1 tyX8 (by omega) (sh_wan hp _ _) (sh_wan hp _ _) rfl inX8 tyX8_ok nmX8 (by decide) w1_189 rfl rfl (by decide +kernel) hn hf (Nat.le_of_ble_eq_true rfl) hd kk
theorem pf_X10_276 (C : Cx X cc nL RX10 ret d) {p : Nat} {x : Int32} (hp : p < 30) (hd : decode cc pc = .ok (.putfield 276, 3)) (kk : wx X (g_st M (56 + 3 * p) 2 x) L (pc + 3) lv st) : wx X M L pc lv (.int x :: .ref (X.1.1 + (56 + 3 * p)) :: st) := wx_put (ty := .int) C (56 + 3 * p) 2 tyX0 (by omega) (sh_act hp _ _) (sh_act hp _ _) rfl inX0 tyX0_ok nmX0 (by decide) w1_232 rfl rfl (by decide +kernel) rfl rfl (Nat.le_of_ble_eq_true rfl) hd kk
theorem pf_X10_294 (C : Cx X cc nL RX10 ret d) {p : Nat} {x : Int32} (hp : p < 30) (hn : narrow .boolean (.int x) = .int x) (hf : fits .boolean (.int x) = true) (hd : decode cc pc = .ok (.putfield 294, 3)) (kk : wx X (g_st M (56 + 3 * p) 1 x) L (pc + 3) lv st) : wx X M L pc lv (.int x :: .ref (X.1.1 + (56 + 3 * p)) :: st) := wx_put (ty := .boolean) C (56 + 3 * p) 1 tyX0 (by omega) (sh_act hp _ _) (sh_act hp _ _) rfl inX0 tyX0_ok nmX0 (by decide) w1_230 rfl rfl (by decide +kernel) hn hf (Nat.le_of_ble_eq_true rfl) hd kk
theorem pf_X11_7 (C : Cx X cc nL RX11 ret d) {x : Int32} (hd : decode cc pc = .ok (.putfield 7, 3)) (kk : wx X (g_st M 149 2 x) L (pc + 3) lv st) : wx X M L pc lv (.int x :: .ref (X.1.1 + 149) :: st) := wx_put (ty := .int) C 149 2 tyX11 (by decide) rfl rfl rfl inX11 tyX11_ok nmX11 (by decide) w3_199 rfl rfl (by decide +kernel) rfl rfl (Nat.le_of_ble_eq_true rfl) hd kk
theorem pf_X11_13 (C : Cx X cc nL RX11 ret d) {x : Int32} (hd : decode cc pc = .ok (.putfield 13, 3)) (kk : wx X (g_st M 149 3 x) L (pc + 3) lv st) : wx X M L pc lv (.int x :: .ref (X.1.1 + 149) :: st) := wx_put (ty := .int) C 149 3 tyX11 (by decide) rfl rfl rfl inX11 tyX11_ok nmX11 (by decide) w3_200 rfl rfl (by decide +kernel) rfl rfl (Nat.le_of_ble_eq_true rfl) hd kk
theorem pf_X11_16 (C : Cx X cc nL RX11 ret d) {x : Int32} (hd : decode cc pc = .ok (.putfield 16, 3)) (kk : wx X (g_st M 149 4 x) L (pc + 3) lv st) : wx X M L pc lv (.int x :: .ref (X.1.1 + 149) :: st) := wx_put (ty := .int) C 149 4 tyX11 (by decide) rfl rfl rfl inX11 tyX11_ok nmX11 (by decide) w3_201 rfl rfl (by decide +kernel) rfl rfl (Nat.le_of_ble_eq_true rfl) hd kk
theorem pf_X11_75 (C : Cx X cc nL RX11 ret d) {x : Int32} (hd : decode cc pc = .ok (.putfield 75, 3)) (kk : wx X (g_st M 149 0 x) L (pc + 3) lv st) : wx X M L pc lv (.int x :: .ref (X.1.1 + 149) :: st) := wx_put (ty := .int) C 149 0 tyX11 (by decide) rfl rfl rfl inX11 tyX11_ok nmX11 (by decide) w3_197 rfl rfl (by decide +kernel) rfl rfl (Nat.le_of_ble_eq_true rfl) hd kk
theorem pf_X11_82 (C : Cx X cc nL RX11 ret d) {x : Int32} (hd : decode cc pc = .ok (.putfield 82, 3)) (kk : wx X (g_st M 149 1 x) L (pc + 3) lv st) : wx X M L pc lv (.int x :: .ref (X.1.1 + 149) :: st) := wx_put (ty := .int) C 149 1 tyX11 (by decide) rfl rfl rfl inX11 tyX11_ok nmX11 (by decide) w3_198 rfl rfl (by decide +kernel) rfl rfl (Nat.le_of_ble_eq_true rfl) hd kk
theorem pf_X11_85 (C : Cx X cc nL RX11 ret d) {x : Int32} (hd : decode cc pc = .ok (.putfield 85, 3)) (kk : wx X (g_st M 149 26 x) L (pc + 3) lv st) : wx X M L pc lv (.int x :: .ref (X.1.1 + 149) :: st) := wx_put (ty := .int) C 149 26 tyX11 (by decide) rfl rfl rfl inX11 tyX11_ok nmX11 (by decide) w3_223 rfl rfl (by decide +kernel) rfl rfl (Nat.le_of_ble_eq_true rfl) hd kk
theorem pf_X11_96 (C : Cx X cc nL RX11 ret d) {x : Int32} (hd : decode cc pc = .ok (.putfield 96, 3)) (kk : wx X (g_st M 149 15 x) L (pc + 3) lv st) : wx X M L pc lv (.int x :: .ref (X.1.1 + 149) :: st) := wx_put (ty := .int) C 149 15 tyX11 (by decide) rfl rfl rfl inX11 tyX11_ok nmX11 (by decide) w3_212 rfl rfl (by decide +kernel) rfl rfl (Nat.le_of_ble_eq_true rfl) hd kk
theorem pf_X11_114 (C : Cx X cc nL RX11 ret d) {x : Int32} (hd : decode cc pc = .ok (.putfield 114, 3)) (kk : wx X (g_st M 149 16 x) L (pc + 3) lv st) : wx X M L pc lv (.int x :: .ref (X.1.1 + 149) :: st) := wx_put (ty := .int) C 149 16 tyX11 (by decide) rfl rfl rfl inX11 tyX11_ok nmX11 (by decide) w3_213 rfl rfl (by decide +kernel) rfl rfl (Nat.le_of_ble_eq_true rfl) hd kk
theorem pf_X11_117 (C : Cx X cc nL RX11 ret d) {x : Int32} (hd : decode cc pc = .ok (.putfield 117, 3)) (kk : wx X (g_st M 149 17 x) L (pc + 3) lv st) : wx X M L pc lv (.int x :: .ref (X.1.1 + 149) :: st) := wx_put (ty := .int) C 149 17 tyX11 (by decide) rfl rfl rfl inX11 tyX11_ok nmX11 (by decide) w3_214 rfl rfl (by decide +kernel) rfl rfl (Nat.le_of_ble_eq_true rfl) hd kk
theorem pf_X11_135 (C : Cx X cc nL RX11 ret d) {x : Int64} (hd : decode cc pc = .ok (.putfield 135, 3)) (kk : wx X M (g_sl L 149 18 x) (pc + 3) lv st) : wx X M L pc lv (.long x :: .ref (X.1.1 + 149) :: st) := wx_putl (ty := .long) C 149 18 tyX11 (by decide) rfl rfl rfl inX11 tyX11_ok nmX11 (by decide) w3_215 rfl rfl (by decide +kernel) rfl rfl (Nat.le_of_ble_eq_true rfl) hd kk
theorem pf_X11_142 (C : Cx X cc nL RX11 ret d) {x : Int64} (hd : decode cc pc = .ok (.putfield 142, 3)) (kk : wx X M (g_sl L 149 19 x) (pc + 3) lv st) : wx X M L pc lv (.long x :: .ref (X.1.1 + 149) :: st) := wx_putl (ty := .long) C 149 19 tyX11 (by decide) rfl rfl rfl inX11 tyX11_ok nmX11 (by decide) w3_216 rfl rfl (by decide +kernel) rfl rfl (Nat.le_of_ble_eq_true rfl) hd kk
theorem pf_X11_150 (C : Cx X cc nL RX11 ret d) {x : Int32} (hd : decode cc pc = .ok (.putfield 150, 3)) (kk : wx X (g_st M 149 22 x) L (pc + 3) lv st) : wx X M L pc lv (.int x :: .ref (X.1.1 + 149) :: st) := wx_put (ty := .int) C 149 22 tyX11 (by decide) rfl rfl rfl inX11 tyX11_ok nmX11 (by decide) w3_219 rfl rfl (by decide +kernel) rfl rfl (Nat.le_of_ble_eq_true rfl) hd kk
theorem pf_X11_160 (C : Cx X cc nL RX11 ret d) {x : Int32} (hd : decode cc pc = .ok (.putfield 160, 3)) (kk : wx X (g_st M 149 25 x) L (pc + 3) lv st) : wx X M L pc lv (.int x :: .ref (X.1.1 + 149) :: st) := wx_put (ty := .int) C 149 25 tyX11 (by decide) rfl rfl rfl inX11 tyX11_ok nmX11 (by decide) w3_222 rfl rfl (by decide +kernel) rfl rfl (Nat.le_of_ble_eq_true rfl) hd kk
theorem pf_X11_169 (C : Cx X cc nL RX11 ret d) {x : Int32} (hd : decode cc pc = .ok (.putfield 169, 3)) (kk : wx X (g_st M 149 27 x) L (pc + 3) lv st) : wx X M L pc lv (.int x :: .ref (X.1.1 + 149) :: st) := wx_put (ty := .int) C 149 27 tyX11 (by decide) rfl rfl rfl inX11 tyX11_ok nmX11 (by decide) w3_224 rfl rfl (by decide +kernel) rfl rfl (Nat.le_of_ble_eq_true rfl) hd kk
theorem pf_X11_201 (C : Cx X cc nL RX11 ret d) {x : Int64} (hd : decode cc pc = .ok (.putfield 201, 3)) (kk : wx X M (g_sl L 149 34 x) (pc + 3) lv st) : wx X M L pc lv (.long x :: .ref (X.1.1 + 149) :: st) := wx_putl (ty := .long) C 149 34 tyX11 (by decide) rfl rfl rfl inX11 tyX11_ok nmX11 (by decide) w3_231 rfl rfl (by decide +kernel) rfl rfl (Nat.le_of_ble_eq_true rfl) hd kk
theorem pf_X11_204 (C : Cx X cc nL RX11 ret d) {x : Int64} (hd : decode cc pc = .ok (.putfield 204, 3)) (kk : wx X M (g_sl L 149 32 x) (pc + 3) lv st) : wx X M L pc lv (.long x :: .ref (X.1.1 + 149) :: st) := wx_putl (ty := .long) C 149 32 tyX11 (by decide) rfl rfl rfl inX11 tyX11_ok nmX11 (by decide) w3_229 rfl rfl (by decide +kernel) rfl rfl (Nat.le_of_ble_eq_true rfl) hd kk
theorem pf_X11_207 (C : Cx X cc nL RX11 ret d) {x : Int64} (hd : decode cc pc = .ok (.putfield 207, 3)) (kk : wx X M (g_sl L 149 35 x) (pc + 3) lv st) : wx X M L pc lv (.long x :: .ref (X.1.1 + 149) :: st) := wx_putl (ty := .long) C 149 35 tyX11 (by decide) rfl rfl rfl inX11 tyX11_ok nmX11 (by decide) w3_232 rfl rfl (by decide +kernel) rfl rfl (Nat.le_of_ble_eq_true rfl) hd kk
theorem pf_X11_210 (C : Cx X cc nL RX11 ret d) {x : Int64} (hd : decode cc pc = .ok (.putfield 210, 3)) (kk : wx X M (g_sl L 149 33 x) (pc + 3) lv st) : wx X M L pc lv (.long x :: .ref (X.1.1 + 149) :: st) := wx_putl (ty := .long) C 149 33 tyX11 (by decide) rfl rfl rfl inX11 tyX11_ok nmX11 (by decide) w3_230 rfl rfl (by decide +kernel) rfl rfl (Nat.le_of_ble_eq_true rfl) hd kk
theorem pf_X2_49 (C : Cx X cc nL RX2 ret d) {x : Int32} (hd : decode cc pc = .ok (.putfield 49, 3)) (kk : wx X (g_st M 8 2 x) L (pc + 3) lv st) : wx X M L pc lv (.int x :: .ref (X.1.1 + 8) :: st) := wx_put (ty := .int) C 8 2 tyX2 (by decide) rfl rfl rfl inX2 tyX2_ok nmX2 (by decide) w1_95 rfl rfl (by decide +kernel) rfl rfl (Nat.le_of_ble_eq_true rfl) hd kk
theorem pf_X2_52 (C : Cx X cc nL RX2 ret d) {x : Int32} (hd : decode cc pc = .ok (.putfield 52, 3)) (kk : wx X (g_st M 8 3 x) L (pc + 3) lv st) : wx X M L pc lv (.int x :: .ref (X.1.1 + 8) :: st) := wx_put (ty := .int) C 8 3 tyX2 (by decide) rfl rfl rfl inX2 tyX2_ok nmX2 (by decide) w1_97 rfl rfl (by decide +kernel) rfl rfl (Nat.le_of_ble_eq_true rfl) hd kk
theorem pf_X3_15 (C : Cx X cc nL RX3 ret d) {x : Int64} (hd : decode cc pc = .ok (.putfield 15, 3)) (kk : wx X M (g_sl L 146 0 x) (pc + 3) lv st) : wx X M L pc lv (.long x :: .ref (X.1.1 + 146) :: st) := wx_putl (ty := .long) C 146 0 tyX3 (by decide) rfl rfl rfl inX3 tyX3_ok nmX3 (by decide) w2_22 rfl rfl (by decide +kernel) rfl rfl (Nat.le_of_ble_eq_true rfl) hd kk
theorem pf_X3_21 (C : Cx X cc nL RX3 ret d) {x : Int64} (hd : decode cc pc = .ok (.putfield 21, 3)) (kk : wx X M (g_sl L 146 1 x) (pc + 3) lv st) : wx X M L pc lv (.long x :: .ref (X.1.1 + 146) :: st) := wx_putl (ty := .long) C 146 1 tyX3 (by decide) rfl rfl rfl inX3 tyX3_ok nmX3 (by decide) w2_23 rfl rfl (by decide +kernel) rfl rfl (Nat.le_of_ble_eq_true rfl) hd kk
theorem pf_X3_24 (C : Cx X cc nL RX3 ret d) {x : Int64} (hd : decode cc pc = .ok (.putfield 24, 3)) (kk : wx X M (g_sl L 146 2 x) (pc + 3) lv st) : wx X M L pc lv (.long x :: .ref (X.1.1 + 146) :: st) := wx_putl (ty := .long) C 146 2 tyX3 (by decide) rfl rfl rfl inX3 tyX3_ok nmX3 (by decide) w2_24 rfl rfl (by decide +kernel) rfl rfl (Nat.le_of_ble_eq_true rfl) hd kk
theorem pf_X3_39 (C : Cx X cc nL RX3 ret d) {x : Int64} (hd : decode cc pc = .ok (.putfield 39, 3)) (kk : wx X M (g_sl L 146 3 x) (pc + 3) lv st) : wx X M L pc lv (.long x :: .ref (X.1.1 + 146) :: st) := wx_putl (ty := .long) C 146 3 tyX3 (by decide) rfl rfl rfl inX3 tyX3_ok nmX3 (by decide) w2_25 rfl rfl (by decide +kernel) rfl rfl (Nat.le_of_ble_eq_true rfl) hd kk
theorem pf_X3_42 (C : Cx X cc nL RX3 ret d) {x : Int64} (hd : decode cc pc = .ok (.putfield 42, 3)) (kk : wx X M (g_sl L 146 4 x) (pc + 3) lv st) : wx X M L pc lv (.long x :: .ref (X.1.1 + 146) :: st) := wx_putl (ty := .long) C 146 4 tyX3 (by decide) rfl rfl rfl inX3 tyX3_ok nmX3 (by decide) w2_27 rfl rfl (by decide +kernel) rfl rfl (Nat.le_of_ble_eq_true rfl) hd kk
theorem pf_X4_51 (C : Cx X cc nL RX4 ret d) {x : Int32} (hd : decode cc pc = .ok (.putfield 51, 3)) (kk : wx X (g_st M 7 3 x) L (pc + 3) lv st) : wx X M L pc lv (.int x :: .ref (X.1.1 + 7) :: st) := wx_put (ty := .int) C 7 3 tyX4 (by decide) rfl rfl rfl inX4 tyX4_ok nmX4 (by decide) w1_73 rfl rfl (by decide +kernel) rfl rfl (Nat.le_of_ble_eq_true rfl) hd kk
theorem pf_X4_54 (C : Cx X cc nL RX4 ret d) {x : Int32} (hd : decode cc pc = .ok (.putfield 54, 3)) (kk : wx X (g_st M 7 4 x) L (pc + 3) lv st) : wx X M L pc lv (.int x :: .ref (X.1.1 + 7) :: st) := wx_put (ty := .int) C 7 4 tyX4 (by decide) rfl rfl rfl inX4 tyX4_ok nmX4 (by decide) w1_74 rfl rfl (by decide +kernel) rfl rfl (Nat.le_of_ble_eq_true rfl) hd kk
theorem pf_X5_43 (C : Cx X cc nL RX5 ret d) {x : Int32} (hn : narrow .boolean (.int x) = .int x) (hf : fits .boolean (.int x) = true) (hd : decode cc pc = .ok (.putfield 43, 3)) (kk : wx X (g_st M 9 10 x) L (pc + 3) lv st) : wx X M L pc lv (.int x :: .ref (X.1.1 + 9) :: st) := wx_put (ty := .boolean) C 9 10 tyX5 (by decide) rfl rfl rfl inX5 tyX5_ok nmX5 (by decide) w1_147 rfl rfl (by decide +kernel) hn hf (Nat.le_of_ble_eq_true rfl) hd kk
theorem pf_X5_53 (C : Cx X cc nL RX5 ret d) {x : Int32} (hd : decode cc pc = .ok (.putfield 53, 3)) (kk : wx X (g_st M 9 8 x) L (pc + 3) lv st) : wx X M L pc lv (.int x :: .ref (X.1.1 + 9) :: st) := wx_put (ty := .int) C 9 8 tyX5 (by decide) rfl rfl rfl inX5 tyX5_ok nmX5 (by decide) w1_145 rfl rfl (by decide +kernel) rfl rfl (Nat.le_of_ble_eq_true rfl) hd kk
theorem pf_X5_57 (C : Cx X cc nL RX5 ret d) {x : Int32} (hd : decode cc pc = .ok (.putfield 57, 3)) (kk : wx X (g_st M 9 9 x) L (pc + 3) lv st) : wx X M L pc lv (.int x :: .ref (X.1.1 + 9) :: st) := wx_put (ty := .int) C 9 9 tyX5 (by decide) rfl rfl rfl inX5 tyX5_ok nmX5 (by decide) w1_146 rfl rfl (by decide +kernel) rfl rfl (Nat.le_of_ble_eq_true rfl) hd kk
theorem pf_X6_15 (C : Cx X cc nL RX6 ret d) {k : Nat} {x : Int32} (hk : g_row k) (hd : decode cc pc = .ok (.putfield 15, 3)) (kk : wx X (g_st M k 1 x) L (pc + 3) lv st) : wx X M L pc lv (.int x :: .ref (X.1.1 + k) :: st) := wx_put (ty := .int) C k 1 tyX6 (g_row_lt1 hk) (sh_row hk _ _) (sh_row hk _ _) rfl inX6 tyX6_ok nmX6 (by decide) w1_125 rfl rfl (by decide +kernel) rfl rfl (Nat.le_of_ble_eq_true rfl) hd kk
theorem pf_X7_27 (C : Cx X cc nL RX7 ret d) {x : Int32} (hd : decode cc pc = .ok (.putfield 27, 3)) (kk : wx X (g_st M 1 5 x) L (pc + 3) lv st) : wx X M L pc lv (.int x :: .ref (X.1.1 + 1) :: st) := wx_put (ty := .int) C 1 5 tyX7 (by decide) rfl rfl rfl inX7 tyX7_ok nmX7 (by decide) w1_44 rfl rfl (by decide +kernel) rfl rfl (Nat.le_of_ble_eq_true rfl) hd kk
theorem pf_X9_22 (C : Cx X cc nL RX9 ret d) {x : Int32} (hd : decode cc pc = .ok (.putfield 22, 3)) (kk : wx X (g_st M 16 2 x) L (pc + 3) lv st) : wx X M L pc lv (.int x :: .ref (X.1.1 + 16) :: st) := wx_put (ty := .int) C 16 2 tyX9 (by decide) rfl rfl rfl inX9 tyX9_ok nmX9 (by decide) w1_203 rfl rfl (by decide +kernel) rfl rfl (Nat.le_of_ble_eq_true rfl) hd kk
theorem pf_X9_26 (C : Cx X cc nL RX9 ret d) {p : Nat} {x : Int32} (hp : p < 12) (hn : narrow .boolean (.int x) = .int x) (hf : fits .boolean (.int x) = true) (hd : decode cc pc = .ok (.putfield 26, 3)) (kk : wx X (g_st M (18 + 3 * p) 1 x) L (pc + 3) lv st) : wx X M L pc lv (.int x :: .ref (X.1.1 + (18 + 3 * p)) :: st) := wx_put (ty := .boolean) C (18 + 3 * p) 1 tyX8 (by omega) (sh_wan hp _ _) (sh_wan hp _ _) rfl inX8 tyX8_ok nmX8 (by decide) w1_188 rfl rfl (by decide +kernel) hn hf (Nat.le_of_ble_eq_true rfl) hd kk
theorem pf_X9_30 (C : Cx X cc nL RX9 ret d) {p : Nat} {x : Int32} (hp : p < 12) (hd : decode cc pc = .ok (.putfield 30, 3)) (kk : wx X (g_st M (18 + 3 * p) 0 x) L (pc + 3) lv st) : wx X M L pc lv (.int x :: .ref (X.1.1 + (18 + 3 * p)) :: st) := wx_put (ty := .int) C (18 + 3 * p) 0 tyX8 (by omega) (sh_wan hp _ _) (sh_wan hp _ _) rfl inX8 tyX8_ok nmX8 (by decide) w1_186 rfl rfl (by decide +kernel) rfl rfl (Nat.le_of_ble_eq_true rfl) hd kk
theorem ca_L_13 (C : Cx X cc nL RL ret d) {k dC : Nat} {fs As rest : List Value} {Qr : Option Value → g_M → g_L → Prop} (hM : mt X.1 yX10_dot (Cond.code yX10_dot cX10_dot 7 (some .int)) dC (.ref (X.1.1 + k) :: As) M L Qr) (hk : k < 168) (he : g_sh X.1 k (M k) (L k) = .inr (10, fs)) (hdep : dC + 1 ≤ d) (hn : As.length = 4) (hst : st = As.reverse ++ .ref (X.1.1 + k) :: rest) (hcat : (rest.map fun v => v.category).sum ≤ 8) (hd : decode cc pc = .ok (.invokevirtual 13, 3)) (kk : ∀ (r : Option Value) (M1 : g_M) (L1 : g_L), Qr r M1 L1 → wx X M1 L1 (pc + 3) lv (r.toList ++ rest)) : wx X M L pc lv st := wx_callV C hM hk he rfl w2_67 w2_68 w2_69 w1_1 w2_70 (by decide +kernel) (by decide) hdep hn hst hcat hd kk
theorem ca_L_17 (C : Cx X cc nL RL ret d) {k dC : Nat} {fs As rest : List Value} {Qr : Option Value → g_M → g_L → Prop} (hM : mt X.1 yX11_dot (Cond.code yX11_dot cX11_dot 6 (some .int)) dC (.ref (X.1.1 + k) :: As) M L Qr) (hk : k < 168) (he : g_sh X.1 k (M k) (L k) = .inr (11, fs)) (hdep : dC + 1 ≤ d) (hn : As.length = 4) (hst : st = As.reverse ++ .ref (X.1.1 + k) :: rest) (hcat : (rest.map fun v => v.category).sum ≤ 8) (hd : decode cc pc = .ok (.invokevirtual 17, 3)) (kk : ∀ (r : Option Value) (M1 : g_M) (L1 : g_L), Qr r M1 L1 → wx X M1 L1 (pc + 3) lv (r.toList ++ rest)) : wx X M L pc lv st := wx_callV C hM hk he rfl w4_67 w4_68 w4_69 w1_12 w4_70 (by decide +kernel) (by decide) hdep hn hst hcat hd kk
theorem ca_L_18 (C : Cx X cc nL RL ret d) {k dC : Nat} {fs As rest : List Value} {Qr : Option Value → g_M → g_L → Prop} (hM : mt X.1 yX10_pace (Cond.code yX10_pace cX10_pace 3 (some .int)) dC (.ref (X.1.1 + k) :: As) M L Qr) (hk : k < 168) (he : g_sh X.1 k (M k) (L k) = .inr (10, fs)) (hdep : dC + 1 ≤ d) (hn : As.length = 1) (hst : st = As.reverse ++ .ref (X.1.1 + k) :: rest) (hcat : (rest.map fun v => v.category).sum ≤ 8) (hd : decode cc pc = .ok (.invokevirtual 18, 3)) (kk : ∀ (r : Option Value) (M1 : g_M) (L1 : g_L), Qr r M1 L1 → wx X M1 L1 (pc + 3) lv (r.toList ++ rest)) : wx X M L pc lv st := wx_callV C hM hk he rfl w2_90 w2_91 w2_92 w1_1 w2_93 (by decide +kernel) (by decide) hdep hn hst hcat hd kk
theorem ca_L_22 (C : Cx X cc nL RL ret d) {k dC : Nat} {fs As rest : List Value} {Qr : Option Value → g_M → g_L → Prop} (hM : mt X.1 yX11_pace (Cond.code yX11_pace cX11_pace 3 (some .int)) dC (.ref (X.1.1 + k) :: As) M L Qr) (hk : k < 168) (he : g_sh X.1 k (M k) (L k) = .inr (11, fs)) (hdep : dC + 1 ≤ d) (hn : As.length = 1) (hst : st = As.reverse ++ .ref (X.1.1 + k) :: rest) (hcat : (rest.map fun v => v.category).sum ≤ 8) (hd : decode cc pc = .ok (.invokevirtual 22, 3)) (kk : ∀ (r : Option Value) (M1 : g_M) (L1 : g_L), Qr r M1 L1 → wx X M1 L1 (pc + 3) lv (r.toList ++ rest)) : wx X M L pc lv st := wx_callV C hM hk he rfl w4_74 w4_75 w4_76 w1_12 w4_77 (by decide +kernel) (by decide) hdep hn hst hcat hd kk
theorem ca_L_23 (C : Cx X cc nL RL ret d) {k dC : Nat} {fs As rest : List Value} {Qr : Option Value → g_M → g_L → Prop} (hM : mt X.1 yX10_net (Cond.code yX10_net cX10_net 3 (some .int)) dC (.ref (X.1.1 + k) :: As) M L Qr) (hk : k < 168) (he : g_sh X.1 k (M k) (L k) = .inr (10, fs)) (hdep : dC + 1 ≤ d) (hn : As.length = 2) (hst : st = As.reverse ++ .ref (X.1.1 + k) :: rest) (hcat : (rest.map fun v => v.category).sum ≤ 8) (hd : decode cc pc = .ok (.invokevirtual 23, 3)) (kk : ∀ (r : Option Value) (M1 : g_M) (L1 : g_L), Qr r M1 L1 → wx X M1 L1 (pc + 3) lv (r.toList ++ rest)) : wx X M L pc lv st := wx_callV C hM hk he rfl w2_94 w2_95 w2_96 w1_1 w2_97 (by decide +kernel) (by decide) hdep hn hst hcat hd kk
theorem ca_L_27 (C : Cx X cc nL RL ret d) {k dC : Nat} {fs As rest : List Value} {Qr : Option Value → g_M → g_L → Prop} (hM : mt X.1 yX11_net (Cond.code yX11_net cX11_net 3 (some .int)) dC (.ref (X.1.1 + k) :: As) M L Qr) (hk : k < 168) (he : g_sh X.1 k (M k) (L k) = .inr (11, fs)) (hdep : dC + 1 ≤ d) (hn : As.length = 2) (hst : st = As.reverse ++ .ref (X.1.1 + k) :: rest) (hcat : (rest.map fun v => v.category).sum ≤ 8) (hd : decode cc pc = .ok (.invokevirtual 27, 3)) (kk : ∀ (r : Option Value) (M1 : g_M) (L1 : g_L), Qr r M1 L1 → wx X M1 L1 (pc + 3) lv (r.toList ++ rest)) : wx X M L pc lv st := wx_callV C hM hk he rfl w4_78 w4_79 w4_80 w1_12 w4_81 (by decide +kernel) (by decide) hdep hn hst hcat hd kk
theorem ca_L_28 (C : Cx X cc nL RL ret d) {k dC : Nat} {fs As rest : List Value} {Qr : Option Value → g_M → g_L → Prop} (hM : mt X.1 yX10_about (Cond.code yX10_about cX10_about 3 (some .int)) dC (.ref (X.1.1 + k) :: As) M L Qr) (hk : k < 168) (he : g_sh X.1 k (M k) (L k) = .inr (10, fs)) (hdep : dC + 1 ≤ d) (hn : As.length = 2) (hst : st = As.reverse ++ .ref (X.1.1 + k) :: rest) (hcat : (rest.map fun v => v.category).sum ≤ 8) (hd : decode cc pc = .ok (.invokevirtual 28, 3)) (kk : ∀ (r : Option Value) (M1 : g_M) (L1 : g_L), Qr r M1 L1 → wx X M1 L1 (pc + 3) lv (r.toList ++ rest)) : wx X M L pc lv st := wx_callV C hM hk he rfl w2_98 w2_99 w2_100 w1_1 w2_101 (by decide +kernel) (by decide) hdep hn hst hcat hd kk
theorem ca_L_31 (C : Cx X cc nL RL ret d) {k dC : Nat} {fs As rest : List Value} {Qr : Option Value → g_M → g_L → Prop} (hM : mt X.1 yX11_about (Cond.code yX11_about cX11_about 3 (some .int)) dC (.ref (X.1.1 + k) :: As) M L Qr) (hk : k < 168) (he : g_sh X.1 k (M k) (L k) = .inr (11, fs)) (hdep : dC + 1 ≤ d) (hn : As.length = 2) (hst : st = As.reverse ++ .ref (X.1.1 + k) :: rest) (hcat : (rest.map fun v => v.category).sum ≤ 8) (hd : decode cc pc = .ok (.invokevirtual 31, 3)) (kk : ∀ (r : Option Value) (M1 : g_M) (L1 : g_L), Qr r M1 L1 → wx X M1 L1 (pc + 3) lv (r.toList ++ rest)) : wx X M L pc lv st := wx_callV C hM hk he rfl w4_82 w4_83 w4_84 w1_12 w4_85 (by decide +kernel) (by decide) hdep hn hst hcat hd kk
theorem ca_L_32 (C : Cx X cc nL RL ret d) {k dC : Nat} {fs As rest : List Value} {Qr : Option Value → g_M → g_L → Prop} (hM : mt X.1 yX10_bits (Cond.code yX10_bits cX10_bits 1 (some .int)) dC (.ref (X.1.1 + k) :: As) M L Qr) (hk : k < 168) (he : g_sh X.1 k (M k) (L k) = .inr (10, fs)) (hdep : dC + 1 ≤ d) (hn : As.length = 0) (hst : st = As.reverse ++ .ref (X.1.1 + k) :: rest) (hcat : (rest.map fun v => v.category).sum ≤ 8) (hd : decode cc pc = .ok (.invokevirtual 32, 3)) (kk : ∀ (r : Option Value) (M1 : g_M) (L1 : g_L), Qr r M1 L1 → wx X M1 L1 (pc + 3) lv (r.toList ++ rest)) : wx X M L pc lv st := wx_callV C hM hk he rfl w2_110 w2_111 w2_112 w1_1 w2_113 (by decide +kernel) (by decide) hdep hn hst hcat hd kk
theorem ca_L_36 (C : Cx X cc nL RL ret d) {k dC : Nat} {fs As rest : List Value} {Qr : Option Value → g_M → g_L → Prop} (hM : mt X.1 yX11_bits (Cond.code yX11_bits cX11_bits 1 (some .int)) dC (.ref (X.1.1 + k) :: As) M L Qr) (hk : k < 168) (he : g_sh X.1 k (M k) (L k) = .inr (11, fs)) (hdep : dC + 1 ≤ d) (hn : As.length = 0) (hst : st = As.reverse ++ .ref (X.1.1 + k) :: rest) (hcat : (rest.map fun v => v.category).sum ≤ 8) (hd : decode cc pc = .ok (.invokevirtual 36, 3)) (kk : ∀ (r : Option Value) (M1 : g_M) (L1 : g_L), Qr r M1 L1 → wx X M1 L1 (pc + 3) lv (r.toList ++ rest)) : wx X M L pc lv st := wx_callV C hM hk he rfl w4_94 w4_95 w4_96 w1_12 w4_97 (by decide +kernel) (by decide) hdep hn hst hcat hd kk
theorem ca_L_37 (C : Cx X cc nL RL ret d) {k dC : Nat} {fs As rest : List Value} {Qr : Option Value → g_M → g_L → Prop} (hM : mt X.1 yX10_bit (Cond.code yX10_bit cX10_bit 3 (some .int)) dC (.ref (X.1.1 + k) :: As) M L Qr) (hk : k < 168) (he : g_sh X.1 k (M k) (L k) = .inr (10, fs)) (hdep : dC + 1 ≤ d) (hn : As.length = 2) (hst : st = As.reverse ++ .ref (X.1.1 + k) :: rest) (hcat : (rest.map fun v => v.category).sum ≤ 8) (hd : decode cc pc = .ok (.invokevirtual 37, 3)) (kk : ∀ (r : Option Value) (M1 : g_M) (L1 : g_L), Qr r M1 L1 → wx X M1 L1 (pc + 3) lv (r.toList ++ rest)) : wx X M L pc lv st := wx_callV C hM hk he rfl w2_130 w2_131 w2_132 w1_1 w2_133 (by decide +kernel) (by decide) hdep hn hst hcat hd kk
theorem ca_L_40 (C : Cx X cc nL RL ret d) {k dC : Nat} {fs As rest : List Value} {Qr : Option Value → g_M → g_L → Prop} (hM : mt X.1 yX11_bit (Cond.code yX11_bit cX11_bit 3 (some .int)) dC (.ref (X.1.1 + k) :: As) M L Qr) (hk : k < 168) (he : g_sh X.1 k (M k) (L k) = .inr (11, fs)) (hdep : dC + 1 ≤ d) (hn : As.length = 2) (hst : st = As.reverse ++ .ref (X.1.1 + k) :: rest) (hcat : (rest.map fun v => v.category).sum ≤ 8) (hd : decode cc pc = .ok (.invokevirtual 40, 3)) (kk : ∀ (r : Option Value) (M1 : g_M) (L1 : g_L), Qr r M1 L1 → wx X M1 L1 (pc + 3) lv (r.toList ++ rest)) : wx X M L pc lv st := wx_callV C hM hk he rfl w4_107 w4_108 w4_109 w1_12 w4_110 (by decide +kernel) (by decide) hdep hn hst hcat hd kk
theorem ca_L_41 (C : Cx X cc nL RL ret d) {k dC : Nat} {fs As rest : List Value} {Qr : Option Value → g_M → g_L → Prop} (hM : mt X.1 yX10_pairs (Cond.code yX10_pairs cX10_pairs 1 (some .int)) dC (.ref (X.1.1 + k) :: As) M L Qr) (hk : k < 168) (he : g_sh X.1 k (M k) (L k) = .inr (10, fs)) (hdep : dC + 1 ≤ d) (hn : As.length = 0) (hst : st = As.reverse ++ .ref (X.1.1 + k) :: rest) (hcat : (rest.map fun v => v.category).sum ≤ 8) (hd : decode cc pc = .ok (.invokevirtual 41, 3)) (kk : ∀ (r : Option Value) (M1 : g_M) (L1 : g_L), Qr r M1 L1 → wx X M1 L1 (pc + 3) lv (r.toList ++ rest)) : wx X M L pc lv st := wx_callV C hM hk he rfl w2_138 w2_139 w2_140 w1_1 w2_141 (by decide +kernel) (by decide) hdep hn hst hcat hd kk
theorem ca_L_44 (C : Cx X cc nL RL ret d) {k dC : Nat} {fs As rest : List Value} {Qr : Option Value → g_M → g_L → Prop} (hM : mt X.1 yX11_pairs (Cond.code yX11_pairs cX11_pairs 1 (some .int)) dC (.ref (X.1.1 + k) :: As) M L Qr) (hk : k < 168) (he : g_sh X.1 k (M k) (L k) = .inr (11, fs)) (hdep : dC + 1 ≤ d) (hn : As.length = 0) (hst : st = As.reverse ++ .ref (X.1.1 + k) :: rest) (hcat : (rest.map fun v => v.category).sum ≤ 8) (hd : decode cc pc = .ok (.invokevirtual 44, 3)) (kk : ∀ (r : Option Value) (M1 : g_M) (L1 : g_L), Qr r M1 L1 → wx X M1 L1 (pc + 3) lv (r.toList ++ rest)) : wx X M L pc lv st := wx_callV C hM hk he rfl w4_111 w4_112 w4_113 w1_12 w4_114 (by decide +kernel) (by decide) hdep hn hst hcat hd kk
theorem ca_L_45 (C : Cx X cc nL RL ret d) {k dC : Nat} {fs As rest : List Value} {Qr : Option Value → g_M → g_L → Prop} (hM : mt X.1 yX10_pair (Cond.code yX10_pair cX10_pair 3 (some .int)) dC (.ref (X.1.1 + k) :: As) M L Qr) (hk : k < 168) (he : g_sh X.1 k (M k) (L k) = .inr (10, fs)) (hdep : dC + 1 ≤ d) (hn : As.length = 2) (hst : st = As.reverse ++ .ref (X.1.1 + k) :: rest) (hcat : (rest.map fun v => v.category).sum ≤ 8) (hd : decode cc pc = .ok (.invokevirtual 45, 3)) (kk : ∀ (r : Option Value) (M1 : g_M) (L1 : g_L), Qr r M1 L1 → wx X M1 L1 (pc + 3) lv (r.toList ++ rest)) : wx X M L pc lv st := wx_callV C hM hk he rfl w2_205 w2_206 w2_207 w1_1 w2_208 (by decide +kernel) (by decide) hdep hn hst hcat hd kk
theorem ca_L_48 (C : Cx X cc nL RL ret d) {k dC : Nat} {fs As rest : List Value} {Qr : Option Value → g_M → g_L → Prop} (hM : mt X.1 yX11_pair (Cond.code yX11_pair cX11_pair 3 (some .int)) dC (.ref (X.1.1 + k) :: As) M L Qr) (hk : k < 168) (he : g_sh X.1 k (M k) (L k) = .inr (11, fs)) (hdep : dC + 1 ≤ d) (hn : As.length = 2) (hst : st = As.reverse ++ .ref (X.1.1 + k) :: rest) (hcat : (rest.map fun v => v.category).sum ≤ 8) (hd : decode cc pc = .ok (.invokevirtual 48, 3)) (kk : ∀ (r : Option Value) (M1 : g_M) (L1 : g_L), Qr r M1 L1 → wx X M1 L1 (pc + 3) lv (r.toList ++ rest)) : wx X M L pc lv st := wx_callV C hM hk he rfl w4_142 w4_143 w4_144 w1_12 w4_145 (by decide +kernel) (by decide) hdep hn hst hcat hd kk
theorem ca_L_49 (C : Cx X cc nL RL ret d) {k dC : Nat} {fs As rest : List Value} {Qr : Option Value → g_M → g_L → Prop} (hM : mt X.1 yX10_start (Cond.code yX10_start cX10_start 3 (some .int)) dC (.ref (X.1.1 + k) :: As) M L Qr) (hk : k < 168) (he : g_sh X.1 k (M k) (L k) = .inr (10, fs)) (hdep : dC + 1 ≤ d) (hn : As.length = 2) (hst : st = As.reverse ++ .ref (X.1.1 + k) :: rest) (hcat : (rest.map fun v => v.category).sum ≤ 8) (hd : decode cc pc = .ok (.invokevirtual 49, 3)) (kk : ∀ (r : Option Value) (M1 : g_M) (L1 : g_L), Qr r M1 L1 → wx X M1 L1 (pc + 3) lv (r.toList ++ rest)) : wx X M L pc lv st := wx_callV C hM hk he rfl w2_209 w2_210 w2_211 w1_1 w2_212 (by decide +kernel) (by decide) hdep hn hst hcat hd kk
theorem ca_L_52 (C : Cx X cc nL RL ret d) {k dC : Nat} {fs As rest : List Value} {Qr : Option Value → g_M → g_L → Prop} (hM : mt X.1 yX11_start (Cond.code yX11_start cX11_start 4 (some .int)) dC (.ref (X.1.1 + k) :: As) M L Qr) (hk : k < 168) (he : g_sh X.1 k (M k) (L k) = .inr (11, fs)) (hdep : dC + 1 ≤ d) (hn : As.length = 2) (hst : st = As.reverse ++ .ref (X.1.1 + k) :: rest) (hcat : (rest.map fun v => v.category).sum ≤ 8) (hd : decode cc pc = .ok (.invokevirtual 52, 3)) (kk : ∀ (r : Option Value) (M1 : g_M) (L1 : g_L), Qr r M1 L1 → wx X M1 L1 (pc + 3) lv (r.toList ++ rest)) : wx X M L pc lv st := wx_callV C hM hk he rfl w4_154 w4_155 w4_156 w1_12 w4_157 (by decide +kernel) (by decide) hdep hn hst hcat hd kk
theorem ca_L_53 (C : Cx X cc nL RL ret d) {k dC : Nat} {fs As rest : List Value} {Qr : Option Value → g_M → g_L → Prop} (hM : mt X.1 yX10_single (Cond.code yX10_single cX10_single 3 (some .int)) dC (.ref (X.1.1 + k) :: As) M L Qr) (hk : k < 168) (he : g_sh X.1 k (M k) (L k) = .inr (10, fs)) (hdep : dC + 1 ≤ d) (hn : As.length = 2) (hst : st = As.reverse ++ .ref (X.1.1 + k) :: rest) (hcat : (rest.map fun v => v.category).sum ≤ 8) (hd : decode cc pc = .ok (.invokevirtual 53, 3)) (kk : ∀ (r : Option Value) (M1 : g_M) (L1 : g_L), Qr r M1 L1 → wx X M1 L1 (pc + 3) lv (r.toList ++ rest)) : wx X M L pc lv st := wx_callV C hM hk he rfl w3_13 w3_14 w3_15 w1_1 w3_16 (by decide +kernel) (by decide) hdep hn hst hcat hd kk
theorem ca_L_56 (C : Cx X cc nL RL ret d) {k dC : Nat} {fs As rest : List Value} {Qr : Option Value → g_M → g_L → Prop} (hM : mt X.1 yX11_single (Cond.code yX11_single cX11_single 4 (some .int)) dC (.ref (X.1.1 + k) :: As) M L Qr) (hk : k < 168) (he : g_sh X.1 k (M k) (L k) = .inr (11, fs)) (hdep : dC + 1 ≤ d) (hn : As.length = 2) (hst : st = As.reverse ++ .ref (X.1.1 + k) :: rest) (hcat : (rest.map fun v => v.category).sum ≤ 8) (hd : decode cc pc = .ok (.invokevirtual 56, 3)) (kk : ∀ (r : Option Value) (M1 : g_M) (L1 : g_L), Qr r M1 L1 → wx X M1 L1 (pc + 3) lv (r.toList ++ rest)) : wx X M L pc lv st := wx_callV C hM hk he rfl w4_170 w4_171 w4_172 w1_12 w4_173 (by decide +kernel) (by decide) hdep hn hst hcat hd kk
theorem ca_L_57 (C : Cx X cc nL RL ret d) {k dC : Nat} {fs As rest : List Value} {Qr : Option Value → g_M → g_L → Prop} (hM : mt X.1 yX10_join (Cond.code yX10_join cX10_join 3 (some .int)) dC (.ref (X.1.1 + k) :: As) M L Qr) (hk : k < 168) (he : g_sh X.1 k (M k) (L k) = .inr (10, fs)) (hdep : dC + 1 ≤ d) (hn : As.length = 2) (hst : st = As.reverse ++ .ref (X.1.1 + k) :: rest) (hcat : (rest.map fun v => v.category).sum ≤ 8) (hd : decode cc pc = .ok (.invokevirtual 57, 3)) (kk : ∀ (r : Option Value) (M1 : g_M) (L1 : g_L), Qr r M1 L1 → wx X M1 L1 (pc + 3) lv (r.toList ++ rest)) : wx X M L pc lv st := wx_callV C hM hk he rfl w3_21 w3_22 w3_23 w1_1 w3_24 (by decide +kernel) (by decide) hdep hn hst hcat hd kk
theorem ca_L_60 (C : Cx X cc nL RL ret d) {k dC : Nat} {fs As rest : List Value} {Qr : Option Value → g_M → g_L → Prop} (hM : mt X.1 yX11_join (Cond.code yX11_join cX11_join 3 (some .int)) dC (.ref (X.1.1 + k) :: As) M L Qr) (hk : k < 168) (he : g_sh X.1 k (M k) (L k) = .inr (11, fs)) (hdep : dC + 1 ≤ d) (hn : As.length = 2) (hst : st = As.reverse ++ .ref (X.1.1 + k) :: rest) (hcat : (rest.map fun v => v.category).sum ≤ 8) (hd : decode cc pc = .ok (.invokevirtual 60, 3)) (kk : ∀ (r : Option Value) (M1 : g_M) (L1 : g_L), Qr r M1 L1 → wx X M1 L1 (pc + 3) lv (r.toList ++ rest)) : wx X M L pc lv st := wx_callV C hM hk he rfl w4_174 w4_175 w4_176 w1_12 w4_177 (by decide +kernel) (by decide) hdep hn hst hcat hd kk
theorem ca_L_61 (C : Cx X cc nL RL ret d) {k dC : Nat} {fs As rest : List Value} {Qr : Option Value → g_M → g_L → Prop} (hM : mt X.1 yX10_joinBit (Cond.code yX10_joinBit cX10_joinBit 3 (some .int)) dC (.ref (X.1.1 + k) :: As) M L Qr) (hk : k < 168) (he : g_sh X.1 k (M k) (L k) = .inr (10, fs)) (hdep : dC + 1 ≤ d) (hn : As.length = 2) (hst : st = As.reverse ++ .ref (X.1.1 + k) :: rest) (hcat : (rest.map fun v => v.category).sum ≤ 8) (hd : decode cc pc = .ok (.invokevirtual 61, 3)) (kk : ∀ (r : Option Value) (M1 : g_M) (L1 : g_L), Qr r M1 L1 → wx X M1 L1 (pc + 3) lv (r.toList ++ rest)) : wx X M L pc lv st := wx_callV C hM hk he rfl w3_38 w3_39 w3_40 w1_1 w3_41 (by decide +kernel) (by decide) hdep hn hst hcat hd kk
theorem ca_L_64 (C : Cx X cc nL RL ret d) {k dC : Nat} {fs As rest : List Value} {Qr : Option Value → g_M → g_L → Prop} (hM : mt X.1 yX11_joinBit (Cond.code yX11_joinBit cX11_joinBit 4 (some .int)) dC (.ref (X.1.1 + k) :: As) M L Qr) (hk : k < 168) (he : g_sh X.1 k (M k) (L k) = .inr (11, fs)) (hdep : dC + 1 ≤ d) (hn : As.length = 2) (hst : st = As.reverse ++ .ref (X.1.1 + k) :: rest) (hcat : (rest.map fun v => v.category).sum ≤ 8) (hd : decode cc pc = .ok (.invokevirtual 64, 3)) (kk : ∀ (r : Option Value) (M1 : g_M) (L1 : g_L), Qr r M1 L1 → wx X M1 L1 (pc + 3) lv (r.toList ++ rest)) : wx X M L pc lv st := wx_callV C hM hk he rfl w4_186 w4_187 w4_188 w1_12 w4_189 (by decide +kernel) (by decide) hdep hn hst hcat hd kk
theorem ca_L_65 (C : Cx X cc nL RL ret d) {k dC : Nat} {fs As rest : List Value} {Qr : Option Value → g_M → g_L → Prop} (hM : mt X.1 yX10_force (Cond.code yX10_force cX10_force 3 (some .int)) dC (.ref (X.1.1 + k) :: As) M L Qr) (hk : k < 168) (he : g_sh X.1 k (M k) (L k) = .inr (10, fs)) (hdep : dC + 1 ≤ d) (hn : As.length = 2) (hst : st = As.reverse ++ .ref (X.1.1 + k) :: rest) (hcat : (rest.map fun v => v.category).sum ≤ 8) (hd : decode cc pc = .ok (.invokevirtual 65, 3)) (kk : ∀ (r : Option Value) (M1 : g_M) (L1 : g_L), Qr r M1 L1 → wx X M1 L1 (pc + 3) lv (r.toList ++ rest)) : wx X M L pc lv st := wx_callV C hM hk he rfl w3_42 w3_43 w3_44 w1_1 w3_45 (by decide +kernel) (by decide) hdep hn hst hcat hd kk
theorem ca_L_68 (C : Cx X cc nL RL ret d) {k dC : Nat} {fs As rest : List Value} {Qr : Option Value → g_M → g_L → Prop} (hM : mt X.1 yX11_force (Cond.code yX11_force cX11_force 3 (some .int)) dC (.ref (X.1.1 + k) :: As) M L Qr) (hk : k < 168) (he : g_sh X.1 k (M k) (L k) = .inr (11, fs)) (hdep : dC + 1 ≤ d) (hn : As.length = 2) (hst : st = As.reverse ++ .ref (X.1.1 + k) :: rest) (hcat : (rest.map fun v => v.category).sum ≤ 8) (hd : decode cc pc = .ok (.invokevirtual 68, 3)) (kk : ∀ (r : Option Value) (M1 : g_M) (L1 : g_L), Qr r M1 L1 → wx X M1 L1 (pc + 3) lv (r.toList ++ rest)) : wx X M L pc lv st := wx_callV C hM hk he rfl w4_190 w4_191 w4_192 w1_12 w4_193 (by decide +kernel) (by decide) hdep hn hst hcat hd kk
theorem ca_L_69 (C : Cx X cc nL RL ret d) {k dC : Nat} {fs As rest : List Value} {Qr : Option Value → g_M → g_L → Prop} (hM : mt X.1 yX10_path (Cond.code yX10_path cX10_path 4 (some .int)) dC (.ref (X.1.1 + k) :: As) M L Qr) (hk : k < 168) (he : g_sh X.1 k (M k) (L k) = .inr (10, fs)) (hdep : dC + 1 ≤ d) (hn : As.length = 2) (hst : st = As.reverse ++ .ref (X.1.1 + k) :: rest) (hcat : (rest.map fun v => v.category).sum ≤ 8) (hd : decode cc pc = .ok (.invokevirtual 69, 3)) (kk : ∀ (r : Option Value) (M1 : g_M) (L1 : g_L), Qr r M1 L1 → wx X M1 L1 (pc + 3) lv (r.toList ++ rest)) : wx X M L pc lv st := wx_callV C hM hk he rfl w3_46 w3_47 w3_48 w1_1 w3_49 (by decide +kernel) (by decide) hdep hn hst hcat hd kk
theorem ca_L_72 (C : Cx X cc nL RL ret d) {k dC : Nat} {fs As rest : List Value} {Qr : Option Value → g_M → g_L → Prop} (hM : mt X.1 yX11_path (Cond.code yX11_path cX11_path 3 (some .int)) dC (.ref (X.1.1 + k) :: As) M L Qr) (hk : k < 168) (he : g_sh X.1 k (M k) (L k) = .inr (11, fs)) (hdep : dC + 1 ≤ d) (hn : As.length = 2) (hst : st = As.reverse ++ .ref (X.1.1 + k) :: rest) (hcat : (rest.map fun v => v.category).sum ≤ 8) (hd : decode cc pc = .ok (.invokevirtual 72, 3)) (kk : ∀ (r : Option Value) (M1 : g_M) (L1 : g_L), Qr r M1 L1 → wx X M1 L1 (pc + 3) lv (r.toList ++ rest)) : wx X M L pc lv st := wx_callV C hM hk he rfl w4_194 w4_195 w4_196 w1_12 w4_197 (by decide +kernel) (by decide) hdep hn hst hcat hd kk
theorem ca_L_73 (C : Cx X cc nL RL ret d) {k dC : Nat} {fs As rest : List Value} {Qr : Option Value → g_M → g_L → Prop} (hM : mt X.1 yX10_heap (Cond.code yX10_heap cX10_heap 2 (some .long)) dC (.ref (X.1.1 + k) :: As) M L Qr) (hk : k < 168) (he : g_sh X.1 k (M k) (L k) = .inr (10, fs)) (hdep : dC + 1 ≤ d) (hn : As.length = 1) (hst : st = As.reverse ++ .ref (X.1.1 + k) :: rest) (hcat : (rest.map fun v => v.category).sum ≤ 8) (hd : decode cc pc = .ok (.invokevirtual 73, 3)) (kk : ∀ (r : Option Value) (M1 : g_M) (L1 : g_L), Qr r M1 L1 → wx X M1 L1 (pc + 3) lv (r.toList ++ rest)) : wx X M L pc lv st := wx_callV C hM hk he rfl w3_53 w3_54 w3_55 w1_1 w3_56 (by decide +kernel) (by decide) hdep hn hst hcat hd kk
theorem ca_L_77 (C : Cx X cc nL RL ret d) {k dC : Nat} {fs As rest : List Value} {Qr : Option Value → g_M → g_L → Prop} (hM : mt X.1 yX11_heap (Cond.code yX11_heap cX11_heap 2 (some .long)) dC (.ref (X.1.1 + k) :: As) M L Qr) (hk : k < 168) (he : g_sh X.1 k (M k) (L k) = .inr (11, fs)) (hdep : dC + 1 ≤ d) (hn : As.length = 1) (hst : st = As.reverse ++ .ref (X.1.1 + k) :: rest) (hcat : (rest.map fun v => v.category).sum ≤ 8) (hd : decode cc pc = .ok (.invokevirtual 77, 3)) (kk : ∀ (r : Option Value) (M1 : g_M) (L1 : g_L), Qr r M1 L1 → wx X M1 L1 (pc + 3) lv (r.toList ++ rest)) : wx X M L pc lv st := wx_callV C hM hk he rfl w4_202 w4_203 w4_204 w1_12 w4_205 (by decide +kernel) (by decide) hdep hn hst hcat hd kk
theorem ca_L_78 (C : Cx X cc nL RL ret d) {k dC : Nat} {fs As rest : List Value} {Qr : Option Value → g_M → g_L → Prop} (hM : mt X.1 yX10_ahead (Cond.code yX10_ahead cX10_ahead 5 (some .long)) dC (.ref (X.1.1 + k) :: As) M L Qr) (hk : k < 168) (he : g_sh X.1 k (M k) (L k) = .inr (10, fs)) (hdep : dC + 1 ≤ d) (hn : As.length = 3) (hst : st = As.reverse ++ .ref (X.1.1 + k) :: rest) (hcat : (rest.map fun v => v.category).sum ≤ 8) (hd : decode cc pc = .ok (.invokevirtual 78, 3)) (kk : ∀ (r : Option Value) (M1 : g_M) (L1 : g_L), Qr r M1 L1 → wx X M1 L1 (pc + 3) lv (r.toList ++ rest)) : wx X M L pc lv st := wx_callV C hM hk he rfl w3_66 w3_67 w3_68 w1_1 w3_69 (by decide +kernel) (by decide) hdep hn hst hcat hd kk
theorem ca_L_82 (C : Cx X cc nL RL ret d) {k dC : Nat} {fs As rest : List Value} {Qr : Option Value → g_M → g_L → Prop} (hM : mt X.1 yX11_ahead (Cond.code yX11_ahead cX11_ahead 4 (some .long)) dC (.ref (X.1.1 + k) :: As) M L Qr) (hk : k < 168) (he : g_sh X.1 k (M k) (L k) = .inr (11, fs)) (hdep : dC + 1 ≤ d) (hn : As.length = 3) (hst : st = As.reverse ++ .ref (X.1.1 + k) :: rest) (hcat : (rest.map fun v => v.category).sum ≤ 8) (hd : decode cc pc = .ok (.invokevirtual 82, 3)) (kk : ∀ (r : Option Value) (M1 : g_M) (L1 : g_L), Qr r M1 L1 → wx X M1 L1 (pc + 3) lv (r.toList ++ rest)) : wx X M L pc lv st := wx_callV C hM hk he rfl w4_207 w4_208 w4_209 w1_12 w4_210 (by decide +kernel) (by decide) hdep hn hst hcat hd kk
theorem ca_L_83 (C : Cx X cc nL RL ret d) {k dC : Nat} {fs As rest : List Value} {Qr : Option Value → g_M → g_L → Prop} (hM : mt X.1 yX10_tellOff (Cond.code yX10_tellOff cX10_tellOff 4 (some .int)) dC (.ref (X.1.1 + k) :: As) M L Qr) (hk : k < 168) (he : g_sh X.1 k (M k) (L k) = .inr (10, fs)) (hdep : dC + 1 ≤ d) (hn : As.length = 1) (hst : st = As.reverse ++ .ref (X.1.1 + k) :: rest) (hcat : (rest.map fun v => v.category).sum ≤ 8) (hd : decode cc pc = .ok (.invokevirtual 83, 3)) (kk : ∀ (r : Option Value) (M1 : g_M) (L1 : g_L), Qr r M1 L1 → wx X M1 L1 (pc + 3) lv (r.toList ++ rest)) : wx X M L pc lv st := wx_callV C hM hk he rfl w3_76 w3_77 w3_78 w1_1 w3_79 (by decide +kernel) (by decide) hdep hn hst hcat hd kk
theorem ca_L_86 (C : Cx X cc nL RL ret d) {k dC : Nat} {fs As rest : List Value} {Qr : Option Value → g_M → g_L → Prop} (hM : mt X.1 yX11_tellOff (Cond.code yX11_tellOff cX11_tellOff 4 (some .int)) dC (.ref (X.1.1 + k) :: As) M L Qr) (hk : k < 168) (he : g_sh X.1 k (M k) (L k) = .inr (11, fs)) (hdep : dC + 1 ≤ d) (hn : As.length = 1) (hst : st = As.reverse ++ .ref (X.1.1 + k) :: rest) (hcat : (rest.map fun v => v.category).sum ≤ 8) (hd : decode cc pc = .ok (.invokevirtual 86, 3)) (kk : ∀ (r : Option Value) (M1 : g_M) (L1 : g_L), Qr r M1 L1 → wx X M1 L1 (pc + 3) lv (r.toList ++ rest)) : wx X M L pc lv st := wx_callV C hM hk he rfl w4_222 w4_223 w4_224 w1_12 w4_225 (by decide +kernel) (by decide) hdep hn hst hcat hd kk
theorem ca_L_87 (C : Cx X cc nL RL ret d) {k dC : Nat} {fs As rest : List Value} {Qr : Option Value → g_M → g_L → Prop} (hM : mt X.1 yX10_fit (Cond.code yX10_fit cX10_fit 5 (some .long)) dC (.ref (X.1.1 + k) :: As) M L Qr) (hk : k < 168) (he : g_sh X.1 k (M k) (L k) = .inr (10, fs)) (hdep : dC + 1 ≤ d) (hn : As.length = 4) (hst : st = As.reverse ++ .ref (X.1.1 + k) :: rest) (hcat : (rest.map fun v => v.category).sum ≤ 8) (hd : decode cc pc = .ok (.invokevirtual 87, 3)) (kk : ∀ (r : Option Value) (M1 : g_M) (L1 : g_L), Qr r M1 L1 → wx X M1 L1 (pc + 3) lv (r.toList ++ rest)) : wx X M L pc lv st := wx_callV C hM hk he rfl w3_90 w3_91 w3_92 w1_1 w3_93 (by decide +kernel) (by decide) hdep hn hst hcat hd kk
theorem ca_L_91 (C : Cx X cc nL RL ret d) {k dC : Nat} {fs As rest : List Value} {Qr : Option Value → g_M → g_L → Prop} (hM : mt X.1 yX11_fit (Cond.code yX11_fit cX11_fit 5 (some .long)) dC (.ref (X.1.1 + k) :: As) M L Qr) (hk : k < 168) (he : g_sh X.1 k (M k) (L k) = .inr (11, fs)) (hdep : dC + 1 ≤ d) (hn : As.length = 4) (hst : st = As.reverse ++ .ref (X.1.1 + k) :: rest) (hcat : (rest.map fun v => v.category).sum ≤ 8) (hd : decode cc pc = .ok (.invokevirtual 91, 3)) (kk : ∀ (r : Option Value) (M1 : g_M) (L1 : g_L), Qr r M1 L1 → wx X M1 L1 (pc + 3) lv (r.toList ++ rest)) : wx X M L pc lv st := wx_callV C hM hk he rfl w4_230 w4_231 w4_232 w1_12 w4_233 (by decide +kernel) (by decide) hdep hn hst hcat hd kk
theorem ca_L_92 (C : Cx X cc nL RL ret d) {k dC : Nat} {fs As rest : List Value} {Qr : Option Value → g_M → g_L → Prop} (hM : mt X.1 yX10_miss (Cond.code yX10_miss cX10_miss 9 (some .long)) dC (.ref (X.1.1 + k) :: As) M L Qr) (hk : k < 168) (he : g_sh X.1 k (M k) (L k) = .inr (10, fs)) (hdep : dC + 1 ≤ d) (hn : As.length = 4) (hst : st = As.reverse ++ .ref (X.1.1 + k) :: rest) (hcat : (rest.map fun v => v.category).sum ≤ 8) (hd : decode cc pc = .ok (.invokevirtual 92, 3)) (kk : ∀ (r : Option Value) (M1 : g_M) (L1 : g_L), Qr r M1 L1 → wx X M1 L1 (pc + 3) lv (r.toList ++ rest)) : wx X M L pc lv st := wx_callV C hM hk he rfl w3_121 w3_122 w3_123 w1_1 w3_124 (by decide +kernel) (by decide) hdep hn hst hcat hd kk
theorem ca_L_95 (C : Cx X cc nL RL ret d) {k dC : Nat} {fs As rest : List Value} {Qr : Option Value → g_M → g_L → Prop} (hM : mt X.1 yX11_miss (Cond.code yX11_miss cX11_miss 8 (some .long)) dC (.ref (X.1.1 + k) :: As) M L Qr) (hk : k < 168) (he : g_sh X.1 k (M k) (L k) = .inr (11, fs)) (hdep : dC + 1 ≤ d) (hn : As.length = 4) (hst : st = As.reverse ++ .ref (X.1.1 + k) :: rest) (hcat : (rest.map fun v => v.category).sum ≤ 8) (hd : decode cc pc = .ok (.invokevirtual 95, 3)) (kk : ∀ (r : Option Value) (M1 : g_M) (L1 : g_L), Qr r M1 L1 → wx X M1 L1 (pc + 3) lv (r.toList ++ rest)) : wx X M L pc lv st := wx_callV C hM hk he rfl w5_4 w5_5 w5_6 w1_12 w5_7 (by decide +kernel) (by decide) hdep hn hst hcat hd kk
theorem ca_L_96 (C : Cx X cc nL RL ret d) {k dC : Nat} {fs As rest : List Value} {Qr : Option Value → g_M → g_L → Prop} (hM : mt X.1 yX10_part (Cond.code yX10_part cX10_part 5 (some .int)) dC (.ref (X.1.1 + k) :: As) M L Qr) (hk : k < 168) (he : g_sh X.1 k (M k) (L k) = .inr (10, fs)) (hdep : dC + 1 ≤ d) (hn : As.length = 1) (hst : st = As.reverse ++ .ref (X.1.1 + k) :: rest) (hcat : (rest.map fun v => v.category).sum ≤ 8) (hd : decode cc pc = .ok (.invokevirtual 96, 3)) (kk : ∀ (r : Option Value) (M1 : g_M) (L1 : g_L), Qr r M1 L1 → wx X M1 L1 (pc + 3) lv (r.toList ++ rest)) : wx X M L pc lv st := wx_callV C hM hk he rfl w3_132 w3_133 w3_134 w1_1 w3_135 (by decide +kernel) (by decide) hdep hn hst hcat hd kk
theorem ca_L_99 (C : Cx X cc nL RL ret d) {k dC : Nat} {fs As rest : List Value} {Qr : Option Value → g_M → g_L → Prop} (hM : mt X.1 yX11_part (Cond.code yX11_part cX11_part 7 (some .int)) dC (.ref (X.1.1 + k) :: As) M L Qr) (hk : k < 168) (he : g_sh X.1 k (M k) (L k) = .inr (11, fs)) (hdep : dC + 1 ≤ d) (hn : As.length = 1) (hst : st = As.reverse ++ .ref (X.1.1 + k) :: rest) (hcat : (rest.map fun v => v.category).sum ≤ 8) (hd : decode cc pc = .ok (.invokevirtual 99, 3)) (kk : ∀ (r : Option Value) (M1 : g_M) (L1 : g_L), Qr r M1 L1 → wx X M1 L1 (pc + 3) lv (r.toList ++ rest)) : wx X M L pc lv st := wx_callV C hM hk he rfl w5_8 w5_9 w5_10 w1_12 w5_11 (by decide +kernel) (by decide) hdep hn hst hcat hd kk
theorem ca_L_100 (C : Cx X cc nL RL ret d) {k dC : Nat} {fs As rest : List Value} {Qr : Option Value → g_M → g_L → Prop} (hM : mt X.1 yX10_same (Cond.code yX10_same cX10_same 3 (some .int)) dC (.ref (X.1.1 + k) :: As) M L Qr) (hk : k < 168) (he : g_sh X.1 k (M k) (L k) = .inr (10, fs)) (hdep : dC + 1 ≤ d) (hn : As.length = 2) (hst : st = As.reverse ++ .ref (X.1.1 + k) :: rest) (hcat : (rest.map fun v => v.category).sum ≤ 8) (hd : decode cc pc = .ok (.invokevirtual 100, 3)) (kk : ∀ (r : Option Value) (M1 : g_M) (L1 : g_L), Qr r M1 L1 → wx X M1 L1 (pc + 3) lv (r.toList ++ rest)) : wx X M L pc lv st := wx_callV C hM hk he rfl w3_150 w3_151 w3_152 w1_1 w3_153 (by decide +kernel) (by decide) hdep hn hst hcat hd kk
theorem ca_L_103 (C : Cx X cc nL RL ret d) {k dC : Nat} {fs As rest : List Value} {Qr : Option Value → g_M → g_L → Prop} (hM : mt X.1 yX11_same (Cond.code yX11_same cX11_same 3 (some .int)) dC (.ref (X.1.1 + k) :: As) M L Qr) (hk : k < 168) (he : g_sh X.1 k (M k) (L k) = .inr (11, fs)) (hdep : dC + 1 ≤ d) (hn : As.length = 2) (hst : st = As.reverse ++ .ref (X.1.1 + k) :: rest) (hcat : (rest.map fun v => v.category).sum ≤ 8) (hd : decode cc pc = .ok (.invokevirtual 103, 3)) (kk : ∀ (r : Option Value) (M1 : g_M) (L1 : g_L), Qr r M1 L1 → wx X M1 L1 (pc + 3) lv (r.toList ++ rest)) : wx X M L pc lv st := wx_callV C hM hk he rfl w5_19 w5_20 w5_21 w1_12 w5_22 (by decide +kernel) (by decide) hdep hn hst hcat hd kk
theorem ca_L_104 (C : Cx X cc nL RL ret d) {k dC : Nat} {fs As rest : List Value} {Qr : Option Value → g_M → g_L → Prop} (hM : mt X.1 yX10_merge (Cond.code yX10_merge cX10_merge 6 (some .int)) dC (.ref (X.1.1 + k) :: As) M L Qr) (hk : k < 168) (he : g_sh X.1 k (M k) (L k) = .inr (10, fs)) (hdep : dC + 1 ≤ d) (hn : As.length = 2) (hst : st = As.reverse ++ .ref (X.1.1 + k) :: rest) (hcat : (rest.map fun v => v.category).sum ≤ 8) (hd : decode cc pc = .ok (.invokevirtual 104, 3)) (kk : ∀ (r : Option Value) (M1 : g_M) (L1 : g_L), Qr r M1 L1 → wx X M1 L1 (pc + 3) lv (r.toList ++ rest)) : wx X M L pc lv st := wx_callV C hM hk he rfl w3_159 w3_160 w3_161 w1_1 w3_162 (by decide +kernel) (by decide) hdep hn hst hcat hd kk
theorem ca_L_107 (C : Cx X cc nL RL ret d) {k dC : Nat} {fs As rest : List Value} {Qr : Option Value → g_M → g_L → Prop} (hM : mt X.1 yX11_merge (Cond.code yX11_merge cX11_merge 6 (some .int)) dC (.ref (X.1.1 + k) :: As) M L Qr) (hk : k < 168) (he : g_sh X.1 k (M k) (L k) = .inr (11, fs)) (hdep : dC + 1 ≤ d) (hn : As.length = 2) (hst : st = As.reverse ++ .ref (X.1.1 + k) :: rest) (hcat : (rest.map fun v => v.category).sum ≤ 8) (hd : decode cc pc = .ok (.invokevirtual 107, 3)) (kk : ∀ (r : Option Value) (M1 : g_M) (L1 : g_L), Qr r M1 L1 → wx X M1 L1 (pc + 3) lv (r.toList ++ rest)) : wx X M L pc lv st := wx_callV C hM hk he rfl w5_27 w5_28 w5_29 w1_12 w5_30 (by decide +kernel) (by decide) hdep hn hst hcat hd kk
theorem ca_L_108 (C : Cx X cc nL RL ret d) {k dC : Nat} {fs As rest : List Value} {Qr : Option Value → g_M → g_L → Prop} (hM : mt X.1 yX10_undo (Cond.code yX10_undo cX10_undo 2 (some .int)) dC (.ref (X.1.1 + k) :: As) M L Qr) (hk : k < 168) (he : g_sh X.1 k (M k) (L k) = .inr (10, fs)) (hdep : dC + 1 ≤ d) (hn : As.length = 0) (hst : st = As.reverse ++ .ref (X.1.1 + k) :: rest) (hcat : (rest.map fun v => v.category).sum ≤ 8) (hd : decode cc pc = .ok (.invokevirtual 108, 3)) (kk : ∀ (r : Option Value) (M1 : g_M) (L1 : g_L), Qr r M1 L1 → wx X M1 L1 (pc + 3) lv (r.toList ++ rest)) : wx X M L pc lv st := wx_callV C hM hk he rfl w3_165 w3_166 w3_167 w1_1 w3_168 (by decide +kernel) (by decide) hdep hn hst hcat hd kk
theorem ca_L_111 (C : Cx X cc nL RL ret d) {k dC : Nat} {fs As rest : List Value} {Qr : Option Value → g_M → g_L → Prop} (hM : mt X.1 yX11_undo (Cond.code yX11_undo cX11_undo 5 (some .int)) dC (.ref (X.1.1 + k) :: As) M L Qr) (hk : k < 168) (he : g_sh X.1 k (M k) (L k) = .inr (11, fs)) (hdep : dC + 1 ≤ d) (hn : As.length = 0) (hst : st = As.reverse ++ .ref (X.1.1 + k) :: rest) (hcat : (rest.map fun v => v.category).sum ≤ 8) (hd : decode cc pc = .ok (.invokevirtual 111, 3)) (kk : ∀ (r : Option Value) (M1 : g_M) (L1 : g_L), Qr r M1 L1 → wx X M1 L1 (pc + 3) lv (r.toList ++ rest)) : wx X M L pc lv st := wx_callV C hM hk he rfl w4_146 w4_147 w4_148 w1_12 w4_149 (by decide +kernel) (by decide) hdep hn hst hcat hd kk
theorem ca_L_112 (C : Cx X cc nL RL ret d) {k dC : Nat} {fs As rest : List Value} {Qr : Option Value → g_M → g_L → Prop} (hM : mt X.1 yX10_count (Cond.code yX10_count cX10_count 2 (some .int)) dC (.ref (X.1.1 + k) :: As) M L Qr) (hk : k < 168) (he : g_sh X.1 k (M k) (L k) = .inr (10, fs)) (hdep : dC + 1 ≤ d) (hn : As.length = 1) (hst : st = As.reverse ++ .ref (X.1.1 + k) :: rest) (hcat : (rest.map fun v => v.category).sum ≤ 8) (hd : decode cc pc = .ok (.invokevirtual 112, 3)) (kk : ∀ (r : Option Value) (M1 : g_M) (L1 : g_L), Qr r M1 L1 → wx X M1 L1 (pc + 3) lv (r.toList ++ rest)) : wx X M L pc lv st := wx_callV C hM hk he rfl w3_177 w3_178 w3_179 w1_1 w3_180 (by decide +kernel) (by decide) hdep hn hst hcat hd kk
theorem ca_L_115 (C : Cx X cc nL RL ret d) {k dC : Nat} {fs As rest : List Value} {Qr : Option Value → g_M → g_L → Prop} (hM : mt X.1 yX11_count (Cond.code yX11_count cX11_count 4 (some .int)) dC (.ref (X.1.1 + k) :: As) M L Qr) (hk : k < 168) (he : g_sh X.1 k (M k) (L k) = .inr (11, fs)) (hdep : dC + 1 ≤ d) (hn : As.length = 1) (hst : st = As.reverse ++ .ref (X.1.1 + k) :: rest) (hcat : (rest.map fun v => v.category).sum ≤ 8) (hd : decode cc pc = .ok (.invokevirtual 115, 3)) (kk : ∀ (r : Option Value) (M1 : g_M) (L1 : g_L), Qr r M1 L1 → wx X M1 L1 (pc + 3) lv (r.toList ++ rest)) : wx X M L pc lv st := wx_callV C hM hk he rfl w5_31 w5_32 w5_33 w1_12 w5_34 (by decide +kernel) (by decide) hdep hn hst hcat hd kk
theorem ca_X1_36 (C : Cx X cc nL RX1 ret d) {k dC : Nat} {fs As rest : List Value} {Qr : Option Value → g_M → g_L → Prop} (hM : mt X.1 yX6_become (Cond.code yX6_become cX6_become 2 none) dC (.ref (X.1.1 + k) :: As) M L Qr) (hk : k < 168) (he : g_sh X.1 k (M k) (L k) = .inr (6, fs)) (hdep : dC + 1 ≤ d) (hn : As.length = 1) (hst : st = As.reverse ++ .ref (X.1.1 + k) :: rest) (hcat : (rest.map fun v => v.category).sum ≤ 8) (hd : decode cc pc = .ok (.invokevirtual 36, 3)) (kk : ∀ (r : Option Value) (M1 : g_M) (L1 : g_L), Qr r M1 L1 → wx X M1 L1 (pc + 3) lv (r.toList ++ rest)) : wx X M L pc lv st := wx_callV C hM hk he rfl w2_233 w2_234 w2_235 w1_6 w2_236 (by decide +kernel) (by decide) hdep hn hst hcat hd kk
theorem ca_X10_71 (C : Cx X cc nL RX10 ret d) {dC : Nat} {As rest : List Value} {Qr : Option Value → g_M → g_L → Prop} (hM : mt X.1 yX10_isWithin (Cond.code yX10_isWithin cX10_isWithin 3 (some .boolean)) dC As M L Qr) (hdep : dC + 1 ≤ d) (hn : As.length = 3) (hst : st = As.reverse ++ rest) (hcat : (rest.map fun v => v.category).sum ≤ 8) (hd : decode cc pc = .ok (.invokestatic 71, 3)) (kk : ∀ (r : Option Value) (M1 : g_M) (L1 : g_L), Qr r M1 L1 → wx X M1 L1 (pc + 3) lv (r.toList ++ rest)) : wx X M L pc lv st := wx_callS C hM w2_71 w2_72 w1_1 w2_73 (by decide +kernel) (by decide) hdep hn hst hcat hd kk
theorem ca_X10_75 (C : Cx X cc nL RX10 ret d) {k dC : Nat} {fs As rest : List Value} {Qr : Option Value → g_M → g_L → Prop} (hM : mt X.1 yX7_find (Cond.code yX7_find cX7_find 5 (some .int)) dC (.ref (X.1.1 + k) :: As) M L Qr) (hk : k < 168) (he : g_sh X.1 k (M k) (L k) = .inr (7, fs)) (hdep : dC + 1 ≤ d) (hn : As.length = 3) (hst : st = As.reverse ++ .ref (X.1.1 + k) :: rest) (hcat : (rest.map fun v => v.category).sum ≤ 8) (hd : decode cc pc = .ok (.invokevirtual 75, 3)) (kk : ∀ (r : Option Value) (M1 : g_M) (L1 : g_L), Qr r M1 L1 → wx X M1 L1 (pc + 3) lv (r.toList ++ rest)) : wx X M L pc lv st := wx_callV C hM hk he rfl w2_74 w2_75 w2_76 w1_2 w2_77 (by decide +kernel) (by decide) hdep hn hst hcat hd kk
theorem ca_X10_79 (C : Cx X cc nL RX10 ret d) {k dC : Nat} {fs As rest : List Value} {Qr : Option Value → g_M → g_L → Prop} (hM : mt X.1 yX7_add (Cond.code yX7_add cX7_add 6 (some .int)) dC (.ref (X.1.1 + k) :: As) M L Qr) (hk : k < 168) (he : g_sh X.1 k (M k) (L k) = .inr (7, fs)) (hdep : dC + 1 ≤ d) (hn : As.length = 4) (hst : st = As.reverse ++ .ref (X.1.1 + k) :: rest) (hcat : (rest.map fun v => v.category).sum ≤ 8) (hd : decode cc pc = .ok (.invokevirtual 79, 3)) (kk : ∀ (r : Option Value) (M1 : g_M) (L1 : g_L), Qr r M1 L1 → wx X M1 L1 (pc + 3) lv (r.toList ++ rest)) : wx X M L pc lv st := wx_callV C hM hk he rfl w2_78 w2_79 w2_80 w1_2 w2_81 (by decide +kernel) (by decide) hdep hn hst hcat hd kk
theorem ca_X10_83 (C : Cx X cc nL RX10 ret d) {k dC : Nat} {fs As rest : List Value} {Qr : Option Value → g_M → g_L → Prop} (hM : mt X.1 yX1_forgetAll (Cond.code yX1_forgetAll cX1_forgetAll 1 none) dC (.ref (X.1.1 + k) :: As) M L Qr) (hk : k < 168) (he : g_sh X.1 k (M k) (L k) = .inr (1, fs)) (hdep : dC + 1 ≤ d) (hn : As.length = 0) (hst : st = As.reverse ++ .ref (X.1.1 + k) :: rest) (hcat : (rest.map fun v => v.category).sum ≤ 8) (hd : decode cc pc = .ok (.invokevirtual 83, 3)) (kk : ∀ (r : Option Value) (M1 : g_M) (L1 : g_L), Qr r M1 L1 → wx X M1 L1 (pc + 3) lv (r.toList ++ rest)) : wx X M L pc lv st := wx_callV C hM hk he rfl w2_82 w2_83 w2_84 w1_9 w2_85 (by decide +kernel) (by decide) hdep hn hst hcat hd kk
theorem ca_X10_86 (C : Cx X cc nL RX10 ret d) {k dC : Nat} {fs As rest : List Value} {Qr : Option Value → g_M → g_L → Prop} (hM : mt X.1 yX5_forget (Cond.code yX5_forget cX5_forget 1 none) dC (.ref (X.1.1 + k) :: As) M L Qr) (hk : k < 168) (he : g_sh X.1 k (M k) (L k) = .inr (5, fs)) (hdep : dC + 1 ≤ d) (hn : As.length = 0) (hst : st = As.reverse ++ .ref (X.1.1 + k) :: rest) (hcat : (rest.map fun v => v.category).sum ≤ 8) (hd : decode cc pc = .ok (.invokevirtual 86, 3)) (kk : ∀ (r : Option Value) (M1 : g_M) (L1 : g_L), Qr r M1 L1 → wx X M1 L1 (pc + 3) lv (r.toList ++ rest)) : wx X M L pc lv st := wx_callV C hM hk he rfl w2_86 w2_87 w2_88 w1_5 w2_89 (by decide +kernel) (by decide) hdep hn hst hcat hd kk
theorem ca_X10_99 (C : Cx X cc nL RX10 ret d) {k dC : Nat} {fs As rest : List Value} {Qr : Option Value → g_M → g_L → Prop} (hM : mt X.1 yX7_has (Cond.code yX7_has cX7_has 2 (some .boolean)) dC (.ref (X.1.1 + k) :: As) M L Qr) (hk : k < 168) (he : g_sh X.1 k (M k) (L k) = .inr (7, fs)) (hdep : dC + 1 ≤ d) (hn : As.length = 1) (hst : st = As.reverse ++ .ref (X.1.1 + k) :: rest) (hcat : (rest.map fun v => v.category).sum ≤ 8) (hd : decode cc pc = .ok (.invokevirtual 99, 3)) (kk : ∀ (r : Option Value) (M1 : g_M) (L1 : g_L), Qr r M1 L1 → wx X M1 L1 (pc + 3) lv (r.toList ++ rest)) : wx X M L pc lv st := wx_callV C hM hk he rfl w2_102 w2_103 w2_104 w1_2 w2_105 (by decide +kernel) (by decide) hdep hn hst hcat hd kk
theorem ca_X10_116 (C : Cx X cc nL RX10 ret d) {k dC : Nat} {fs As rest : List Value} {Qr : Option Value → g_M → g_L → Prop} (hM : mt X.1 yX7_nightOf (Cond.code yX7_nightOf cX7_nightOf 2 (some .int)) dC (.ref (X.1.1 + k) :: As) M L Qr) (hk : k < 168) (he : g_sh X.1 k (M k) (L k) = .inr (7, fs)) (hdep : dC + 1 ≤ d) (hn : As.length = 1) (hst : st = As.reverse ++ .ref (X.1.1 + k) :: rest) (hcat : (rest.map fun v => v.category).sum ≤ 8) (hd : decode cc pc = .ok (.invokevirtual 116, 3)) (kk : ∀ (r : Option Value) (M1 : g_M) (L1 : g_L), Qr r M1 L1 → wx X M1 L1 (pc + 3) lv (r.toList ++ rest)) : wx X M L pc lv st := wx_callV C hM hk he rfl w2_106 w2_107 w2_108 w1_2 w2_109 (by decide +kernel) (by decide) hdep hn hst hcat hd kk
theorem ca_X10_123 (C : Cx X cc nL RX10 ret d) {k dC : Nat} {fs As rest : List Value} {Qr : Option Value → g_M → g_L → Prop} (hM : mt X.1 yX2_total (Cond.code yX2_total cX2_total 4 (some .int)) dC (.ref (X.1.1 + k) :: As) M L Qr) (hk : k < 168) (he : g_sh X.1 k (M k) (L k) = .inr (2, fs)) (hdep : dC + 1 ≤ d) (hn : As.length = 0) (hst : st = As.reverse ++ .ref (X.1.1 + k) :: rest) (hcat : (rest.map fun v => v.category).sum ≤ 8) (hd : decode cc pc = .ok (.invokevirtual 123, 3)) (kk : ∀ (r : Option Value) (M1 : g_M) (L1 : g_L), Qr r M1 L1 → wx X M1 L1 (pc + 3) lv (r.toList ++ rest)) : wx X M L pc lv st := wx_callV C hM hk he rfl w2_114 w2_115 w2_116 w1_4 w2_117 (by decide +kernel) (by decide) hdep hn hst hcat hd kk
theorem ca_X10_127 (C : Cx X cc nL RX10 ret d) {k dC : Nat} {fs As rest : List Value} {Qr : Option Value → g_M → g_L → Prop} (hM : mt X.1 yX2_seek (Cond.code yX2_seek cX2_seek 5 (some .boolean)) dC (.ref (X.1.1 + k) :: As) M L Qr) (hk : k < 168) (he : g_sh X.1 k (M k) (L k) = .inr (2, fs)) (hdep : dC + 1 ≤ d) (hn : As.length = 1) (hst : st = As.reverse ++ .ref (X.1.1 + k) :: rest) (hcat : (rest.map fun v => v.category).sum ≤ 8) (hd : decode cc pc = .ok (.invokevirtual 127, 3)) (kk : ∀ (r : Option Value) (M1 : g_M) (L1 : g_L), Qr r M1 L1 → wx X M1 L1 (pc + 3) lv (r.toList ++ rest)) : wx X M L pc lv st := wx_callV C hM hk he rfl w2_134 w2_135 w2_136 w1_4 w2_137 (by decide +kernel) (by decide) hdep hn hst hcat hd kk
theorem ca_X10_136 (C : Cx X cc nL RX10 ret d) {k dC : Nat} {fs As rest : List Value} {Qr : Option Value → g_M → g_L → Prop} (hM : mt X.1 yX5_total (Cond.code yX5_total cX5_total 1 (some .int)) dC (.ref (X.1.1 + k) :: As) M L Qr) (hk : k < 168) (he : g_sh X.1 k (M k) (L k) = .inr (5, fs)) (hdep : dC + 1 ≤ d) (hn : As.length = 0) (hst : st = As.reverse ++ .ref (X.1.1 + k) :: rest) (hcat : (rest.map fun v => v.category).sum ≤ 8) (hd : decode cc pc = .ok (.invokevirtual 136, 3)) (kk : ∀ (r : Option Value) (M1 : g_M) (L1 : g_L), Qr r M1 L1 → wx X M1 L1 (pc + 3) lv (r.toList ++ rest)) : wx X M L pc lv st := wx_callV C hM hk he rfl w2_142 w2_143 w2_144 w1_5 w2_145 (by decide +kernel) (by decide) hdep hn hst hcat hd kk
theorem ca_X10_143 (C : Cx X cc nL RX10 ret d) {dC : Nat} {As rest : List Value} {Qr : Option Value → g_M → g_L → Prop} (hM : mt X.1 yX10_isName (Cond.code yX10_isName cX10_isName 1 (some .boolean)) dC As M L Qr) (hdep : dC + 1 ≤ d) (hn : As.length = 1) (hst : st = As.reverse ++ rest) (hcat : (rest.map fun v => v.category).sum ≤ 8) (hd : decode cc pc = .ok (.invokestatic 143, 3)) (kk : ∀ (r : Option Value) (M1 : g_M) (L1 : g_L), Qr r M1 L1 → wx X M1 L1 (pc + 3) lv (r.toList ++ rest)) : wx X M L pc lv st := wx_callS C hM w2_213 w2_214 w1_1 w2_215 (by decide +kernel) (by decide) hdep hn hst hcat hd kk
theorem ca_X10_146 (C : Cx X cc nL RX10 ret d) {k dC : Nat} {fs As rest : List Value} {Qr : Option Value → g_M → g_L → Prop} (hM : mt X.1 yX5_gather (Cond.code yX5_gather cX5_gather 4 none) dC (.ref (X.1.1 + k) :: As) M L Qr) (hk : k < 168) (he : g_sh X.1 k (M k) (L k) = .inr (5, fs)) (hdep : dC + 1 ≤ d) (hn : As.length = 3) (hst : st = As.reverse ++ .ref (X.1.1 + k) :: rest) (hcat : (rest.map fun v => v.category).sum ≤ 8) (hd : decode cc pc = .ok (.invokevirtual 146, 3)) (kk : ∀ (r : Option Value) (M1 : g_M) (L1 : g_L), Qr r M1 L1 → wx X M1 L1 (pc + 3) lv (r.toList ++ rest)) : wx X M L pc lv st := wx_callV C hM hk he rfl w2_216 w2_160 w2_161 w1_5 w2_162 (by decide +kernel) (by decide) hdep hn hst hcat hd kk
theorem ca_X10_150 (C : Cx X cc nL RX10 ret d) {k dC : Nat} {fs As rest : List Value} {Qr : Option Value → g_M → g_L → Prop} (hM : mt X.1 yX10_begin (Cond.code yX10_begin cX10_begin 4 (some .int)) dC (.ref (X.1.1 + k) :: As) M L Qr) (hk : k < 168) (he : g_sh X.1 k (M k) (L k) = .inr (10, fs)) (hdep : dC + 1 ≤ d) (hn : As.length = 1) (hst : st = As.reverse ++ .ref (X.1.1 + k) :: rest) (hcat : (rest.map fun v => v.category).sum ≤ 8) (hd : decode cc pc = .ok (.invokevirtual 150, 3)) (kk : ∀ (r : Option Value) (M1 : g_M) (L1 : g_L), Qr r M1 L1 → wx X M1 L1 (pc + 3) lv (r.toList ++ rest)) : wx X M L pc lv st := wx_callV C hM hk he rfl w2_217 w2_219 w0_7 w1_1 w2_220 (by decide +kernel) (by decide) hdep hn hst hcat hd kk
theorem ca_X10_153 (C : Cx X cc nL RX10 ret d) {k dC : Nat} {fs As rest : List Value} {Qr : Option Value → g_M → g_L → Prop} (hM : mt X.1 yX6_clear (Cond.code yX6_clear cX6_clear 1 none) dC (.ref (X.1.1 + k) :: As) M L Qr) (hk : k < 168) (he : g_sh X.1 k (M k) (L k) = .inr (6, fs)) (hdep : dC + 1 ≤ d) (hn : As.length = 0) (hst : st = As.reverse ++ .ref (X.1.1 + k) :: rest) (hcat : (rest.map fun v => v.category).sum ≤ 8) (hd : decode cc pc = .ok (.invokevirtual 153, 3)) (kk : ∀ (r : Option Value) (M1 : g_M) (L1 : g_L), Qr r M1 L1 → wx X M1 L1 (pc + 3) lv (r.toList ++ rest)) : wx X M L pc lv st := wx_callV C hM hk he rfl w3_17 w2_164 w2_165 w1_6 w2_166 (by decide +kernel) (by decide) hdep hn hst hcat hd kk
theorem ca_X10_156 (C : Cx X cc nL RX10 ret d) {k dC : Nat} {fs As rest : List Value} {Qr : Option Value → g_M → g_L → Prop} (hM : mt X.1 yX6_add (Cond.code yX6_add cX6_add 2 none) dC (.ref (X.1.1 + k) :: As) M L Qr) (hk : k < 168) (he : g_sh X.1 k (M k) (L k) = .inr (6, fs)) (hdep : dC + 1 ≤ d) (hn : As.length = 1) (hst : st = As.reverse ++ .ref (X.1.1 + k) :: rest) (hcat : (rest.map fun v => v.category).sum ≤ 8) (hd : decode cc pc = .ok (.invokevirtual 156, 3)) (kk : ∀ (r : Option Value) (M1 : g_M) (L1 : g_L), Qr r M1 L1 → wx X M1 L1 (pc + 3) lv (r.toList ++ rest)) : wx X M L pc lv st := wx_callV C hM hk he rfl w3_18 w2_168 w2_169 w1_6 w2_170 (by decide +kernel) (by decide) hdep hn hst hcat hd kk
theorem ca_X10_159 (C : Cx X cc nL RX10 ret d) {k dC : Nat} {fs As rest : List Value} {Qr : Option Value → g_M → g_L → Prop} (hM : mt X.1 yX7_isFree (Cond.code yX7_isFree cX7_isFree 2 (some .boolean)) dC (.ref (X.1.1 + k) :: As) M L Qr) (hk : k < 168) (he : g_sh X.1 k (M k) (L k) = .inr (7, fs)) (hdep : dC + 1 ≤ d) (hn : As.length = 1) (hst : st = As.reverse ++ .ref (X.1.1 + k) :: rest) (hcat : (rest.map fun v => v.category).sum ≤ 8) (hd : decode cc pc = .ok (.invokevirtual 159, 3)) (kk : ∀ (r : Option Value) (M1 : g_M) (L1 : g_L), Qr r M1 L1 → wx X M1 L1 (pc + 3) lv (r.toList ++ rest)) : wx X M L pc lv st := wx_callV C hM hk he rfl w3_19 w2_123 w2_124 w1_2 w2_125 (by decide +kernel) (by decide) hdep hn hst hcat hd kk
theorem ca_X10_162 (C : Cx X cc nL RX10 ret d) {k dC : Nat} {fs As rest : List Value} {Qr : Option Value → g_M → g_L → Prop} (hM : mt X.1 yX4_isSound (Cond.code yX4_isSound cX4_isSound 2 (some .boolean)) dC (.ref (X.1.1 + k) :: As) M L Qr) (hk : k < 168) (he : g_sh X.1 k (M k) (L k) = .inr (4, fs)) (hdep : dC + 1 ≤ d) (hn : As.length = 1) (hst : st = As.reverse ++ .ref (X.1.1 + k) :: rest) (hcat : (rest.map fun v => v.category).sum ≤ 8) (hd : decode cc pc = .ok (.invokevirtual 162, 3)) (kk : ∀ (r : Option Value) (M1 : g_M) (L1 : g_L), Qr r M1 L1 → wx X M1 L1 (pc + 3) lv (r.toList ++ rest)) : wx X M L pc lv st := wx_callV C hM hk he rfl w3_20 w2_177 w2_178 w1_3 w2_179 (by decide +kernel) (by decide) hdep hn hst hcat hd kk
theorem ca_X10_166 (C : Cx X cc nL RX10 ret d) {k dC : Nat} {fs As rest : List Value} {Qr : Option Value → g_M → g_L → Prop} (hM : mt X.1 yX9_has (Cond.code yX9_has cX9_has 2 (some .boolean)) dC (.ref (X.1.1 + k) :: As) M L Qr) (hk : k < 168) (he : g_sh X.1 k (M k) (L k) = .inr (9, fs)) (hdep : dC + 1 ≤ d) (hn : As.length = 1) (hst : st = As.reverse ++ .ref (X.1.1 + k) :: rest) (hcat : (rest.map fun v => v.category).sum ≤ 8) (hd : decode cc pc = .ok (.invokevirtual 166, 3)) (kk : ∀ (r : Option Value) (M1 : g_M) (L1 : g_L), Qr r M1 L1 → wx X M1 L1 (pc + 3) lv (r.toList ++ rest)) : wx X M L pc lv st := wx_callV C hM hk he rfl w3_25 w3_26 w3_27 w1_7 w3_28 (by decide +kernel) (by decide) hdep hn hst hcat hd kk
theorem ca_X10_176 (C : Cx X cc nL RX10 ret d) {k dC : Nat} {fs As rest : List Value} {Qr : Option Value → g_M → g_L → Prop} (hM : mt X.1 yX6_become (Cond.code yX6_become cX6_become 2 none) dC (.ref (X.1.1 + k) :: As) M L Qr) (hk : k < 168) (he : g_sh X.1 k (M k) (L k) = .inr (6, fs)) (hdep : dC + 1 ≤ d) (hn : As.length = 1) (hst : st = As.reverse ++ .ref (X.1.1 + k) :: rest) (hcat : (rest.map fun v => v.category).sum ≤ 8) (hd : decode cc pc = .ok (.invokevirtual 176, 3)) (kk : ∀ (r : Option Value) (M1 : g_M) (L1 : g_L), Qr r M1 L1 → wx X M1 L1 (pc + 3) lv (r.toList ++ rest)) : wx X M L pc lv st := wx_callV C hM hk he rfl w3_29 w2_234 w2_235 w1_6 w2_236 (by decide +kernel) (by decide) hdep hn hst hcat hd kk
theorem ca_X10_180 (C : Cx X cc nL RX10 ret d) {k dC : Nat} {fs As rest : List Value} {Qr : Option Value → g_M → g_L → Prop} (hM : mt X.1 yX10_joinGroup (Cond.code yX10_joinGroup cX10_joinGroup 2 (some .int)) dC (.ref (X.1.1 + k) :: As) M L Qr) (hk : k < 168) (he : g_sh X.1 k (M k) (L k) = .inr (10, fs)) (hdep : dC + 1 ≤ d) (hn : As.length = 1) (hst : st = As.reverse ++ .ref (X.1.1 + k) :: rest) (hcat : (rest.map fun v => v.category).sum ≤ 8) (hd : decode cc pc = .ok (.invokevirtual 180, 3)) (kk : ∀ (r : Option Value) (M1 : g_M) (L1 : g_L), Qr r M1 L1 → wx X M1 L1 (pc + 3) lv (r.toList ++ rest)) : wx X M L pc lv st := wx_callV C hM hk he rfl w3_30 w3_32 w0_9 w1_1 w3_33 (by decide +kernel) (by decide) hdep hn hst hcat hd kk
theorem ca_X10_186 (C : Cx X cc nL RX10 ret d) {k dC : Nat} {fs As rest : List Value} {Qr : Option Value → g_M → g_L → Prop} (hM : mt X.1 yX10_lengthen (Cond.code yX10_lengthen cX10_lengthen 2 (some .int)) dC (.ref (X.1.1 + k) :: As) M L Qr) (hk : k < 168) (he : g_sh X.1 k (M k) (L k) = .inr (10, fs)) (hdep : dC + 1 ≤ d) (hn : As.length = 1) (hst : st = As.reverse ++ .ref (X.1.1 + k) :: rest) (hcat : (rest.map fun v => v.category).sum ≤ 8) (hd : decode cc pc = .ok (.invokevirtual 186, 3)) (kk : ∀ (r : Option Value) (M1 : g_M) (L1 : g_L), Qr r M1 L1 → wx X M1 L1 (pc + 3) lv (r.toList ++ rest)) : wx X M L pc lv st := wx_callV C hM hk he rfl w3_34 w3_36 w0_10 w1_1 w3_37 (by decide +kernel) (by decide) hdep hn hst hcat hd kk
theorem ca_X10_199 (C : Cx X cc nL RX10 ret d) {dC : Nat} {As rest : List Value} {Qr : Option Value → g_M → g_L → Prop} (hM : mt X.1 yX10_dotOfRow (Cond.code yX10_dotOfRow cX10_dotOfRow 2 (some .int)) dC As M L Qr) (hdep : dC + 1 ≤ d) (hn : As.length = 2) (hst : st = As.reverse ++ rest) (hcat : (rest.map fun v => v.category).sum ≤ 8) (hd : decode cc pc = .ok (.invokestatic 199, 3)) (kk : ∀ (r : Option Value) (M1 : g_M) (L1 : g_L), Qr r M1 L1 → wx X M1 L1 (pc + 3) lv (r.toList ++ rest)) : wx X M L pc lv st := wx_callS C hM w3_50 w3_51 w1_1 w3_52 (by decide +kernel) (by decide) hdep hn hst hcat hd kk
theorem ca_X10_203 (C : Cx X cc nL RX10 ret d) {k dC : Nat} {fs As rest : List Value} {Qr : Option Value → g_M → g_L → Prop} (hM : mt X.1 yX4_linesOf (Cond.code yX4_linesOf cX4_linesOf 2 (some .long)) dC (.ref (X.1.1 + k) :: As) M L Qr) (hk : k < 168) (he : g_sh X.1 k (M k) (L k) = .inr (4, fs)) (hdep : dC + 1 ≤ d) (hn : As.length = 1) (hst : st = As.reverse ++ .ref (X.1.1 + k) :: rest) (hcat : (rest.map fun v => v.category).sum ≤ 8) (hd : decode cc pc = .ok (.invokevirtual 203, 3)) (kk : ∀ (r : Option Value) (M1 : g_M) (L1 : g_L), Qr r M1 L1 → wx X M1 L1 (pc + 3) lv (r.toList ++ rest)) : wx X M L pc lv st := wx_callV C hM hk he rfl w3_57 w3_58 w3_59 w1_3 w3_60 (by decide +kernel) (by decide) hdep hn hst hcat hd kk
theorem ca_X10_211 (C : Cx X cc nL RX10 ret d) {k dC : Nat} {fs As rest : List Value} {Qr : Option Value → g_M → g_L → Prop} (hM : mt X.1 yX4_edge (Cond.code yX4_edge cX4_edge 10 (some .long)) dC (.ref (X.1.1 + k) :: As) M L Qr) (hk : k < 168) (he : g_sh X.1 k (M k) (L k) = .inr (4, fs)) (hdep : dC + 1 ≤ d) (hn : As.length = 4) (hst : st = As.reverse ++ .ref (X.1.1 + k) :: rest) (hcat : (rest.map fun v => v.category).sum ≤ 8) (hd : decode cc pc = .ok (.invokevirtual 211, 3)) (kk : ∀ (r : Option Value) (M1 : g_M) (L1 : g_L), Qr r M1 L1 → wx X M1 L1 (pc + 3) lv (r.toList ++ rest)) : wx X M L pc lv st := wx_callV C hM hk he rfl w3_71 w3_72 w3_73 w1_3 w3_74 (by decide +kernel) (by decide) hdep hn hst hcat hd kk
theorem ca_X10_215 (C : Cx X cc nL RX10 ret d) {k dC : Nat} {fs As rest : List Value} {Qr : Option Value → g_M → g_L → Prop} (hM : mt X.1 yX4_reaches (Cond.code yX4_reaches cX4_reaches 3 (some .boolean)) dC (.ref (X.1.1 + k) :: As) M L Qr) (hk : k < 168) (he : g_sh X.1 k (M k) (L k) = .inr (4, fs)) (hdep : dC + 1 ≤ d) (hn : As.length = 2) (hst : st = As.reverse ++ .ref (X.1.1 + k) :: rest) (hcat : (rest.map fun v => v.category).sum ≤ 8) (hd : decode cc pc = .ok (.invokevirtual 215, 3)) (kk : ∀ (r : Option Value) (M1 : g_M) (L1 : g_L), Qr r M1 L1 → wx X M1 L1 (pc + 3) lv (r.toList ++ rest)) : wx X M L pc lv st := wx_callV C hM hk he rfl w3_80 w3_81 w3_82 w1_3 w3_83 (by decide +kernel) (by decide) hdep hn hst hcat hd kk
theorem ca_X10_219 (C : Cx X cc nL RX10 ret d) {k dC : Nat} {fs As rest : List Value} {Qr : Option Value → g_M → g_L → Prop} (hM : mt X.1 yX10_lay (Cond.code yX10_lay cX10_lay 3 (some .boolean)) dC (.ref (X.1.1 + k) :: As) M L Qr) (hk : k < 168) (he : g_sh X.1 k (M k) (L k) = .inr (10, fs)) (hdep : dC + 1 ≤ d) (hn : As.length = 2) (hst : st = As.reverse ++ .ref (X.1.1 + k) :: rest) (hcat : (rest.map fun v => v.category).sum ≤ 8) (hd : decode cc pc = .ok (.invokevirtual 219, 3)) (kk : ∀ (r : Option Value) (M1 : g_M) (L1 : g_L), Qr r M1 L1 → wx X M1 L1 (pc + 3) lv (r.toList ++ rest)) : wx X M L pc lv st := wx_callV C hM hk he rfl w3_94 w3_96 w0_13 w1_1 w3_97 (by decide +kernel) (by decide) hdep hn hst hcat hd kk
theorem ca_X10_223 (C : Cx X cc nL RX10 ret d) {k dC : Nat} {fs As rest : List Value} {Qr : Option Value → g_M → g_L → Prop} (hM : mt X.1 yX3_placeTop (Cond.code yX3_placeTop cX3_placeTop 1 (some .long)) dC (.ref (X.1.1 + k) :: As) M L Qr) (hk : k < 168) (he : g_sh X.1 k (M k) (L k) = .inr (3, fs)) (hdep : dC + 1 ≤ d) (hn : As.length = 0) (hst : st = As.reverse ++ .ref (X.1.1 + k) :: rest) (hcat : (rest.map fun v => v.category).sum ≤ 8) (hd : decode cc pc = .ok (.invokevirtual 223, 3)) (kk : ∀ (r : Option Value) (M1 : g_M) (L1 : g_L), Qr r M1 L1 → wx X M1 L1 (pc + 3) lv (r.toList ++ rest)) : wx X M L pc lv st := wx_callV C hM hk he rfl w3_103 w3_104 w3_105 w1_11 w3_106 (by decide +kernel) (by decide) hdep hn hst hcat hd kk
theorem ca_X10_227 (C : Cx X cc nL RX10 ret d) {k dC : Nat} {fs As rest : List Value} {Qr : Option Value → g_M → g_L → Prop} (hM : mt X.1 yX3_placeBelow (Cond.code yX3_placeBelow cX3_placeBelow 1 (some .long)) dC (.ref (X.1.1 + k) :: As) M L Qr) (hk : k < 168) (he : g_sh X.1 k (M k) (L k) = .inr (3, fs)) (hdep : dC + 1 ≤ d) (hn : As.length = 0) (hst : st = As.reverse ++ .ref (X.1.1 + k) :: rest) (hcat : (rest.map fun v => v.category).sum ≤ 8) (hd : decode cc pc = .ok (.invokevirtual 227, 3)) (kk : ∀ (r : Option Value) (M1 : g_M) (L1 : g_L), Qr r M1 L1 → wx X M1 L1 (pc + 3) lv (r.toList ++ rest)) : wx X M L pc lv st := wx_callV C hM hk he rfl w3_107 w3_108 w3_109 w1_11 w3_110 (by decide +kernel) (by decide) hdep hn hst hcat hd kk
theorem ca_X10_230 (C : Cx X cc nL RX10 ret d) {dC : Nat} {As rest : List Value} {Qr : Option Value → g_M → g_L → Prop} (hM : mt X.1 yX3_reduced (Cond.code yX3_reduced cX3_reduced 7 (some .long)) dC As M L Qr) (hdep : dC + 1 ≤ d) (hn : As.length = 3) (hst : st = As.reverse ++ rest) (hcat : (rest.map fun v => v.category).sum ≤ 8) (hd : decode cc pc = .ok (.invokestatic 230, 3)) (kk : ∀ (r : Option Value) (M1 : g_M) (L1 : g_L), Qr r M1 L1 → wx X M1 L1 (pc + 3) lv (r.toList ++ rest)) : wx X M L pc lv st := wx_callS C hM w3_111 w3_112 w1_11 w3_113 (by decide +kernel) (by decide) hdep hn hst hcat hd kk
theorem ca_X10_244 (C : Cx X cc nL RX10 ret d) {k dC : Nat} {fs As rest : List Value} {Qr : Option Value → g_M → g_L → Prop} (hM : mt X.1 yX7_placeOf (Cond.code yX7_placeOf cX7_placeOf 3 (some .int)) dC (.ref (X.1.1 + k) :: As) M L Qr) (hk : k < 168) (he : g_sh X.1 k (M k) (L k) = .inr (7, fs)) (hdep : dC + 1 ≤ d) (hn : As.length = 2) (hst : st = As.reverse ++ .ref (X.1.1 + k) :: rest) (hcat : (rest.map fun v => v.category).sum ≤ 8) (hd : decode cc pc = .ok (.invokevirtual 244, 3)) (kk : ∀ (r : Option Value) (M1 : g_M) (L1 : g_L), Qr r M1 L1 → wx X M1 L1 (pc + 3) lv (r.toList ++ rest)) : wx X M L pc lv st := wx_callV C hM hk he rfl w3_125 w2_189 w2_190 w1_2 w2_191 (by decide +kernel) (by decide) hdep hn hst hcat hd kk
theorem ca_X10_248 (C : Cx X cc nL RX10 ret d) {k dC : Nat} {fs As rest : List Value} {Qr : Option Value → g_M → g_L → Prop} (hM : mt X.1 yX3_missTop (Cond.code yX3_missTop cX3_missTop 5 (some .long)) dC (.ref (X.1.1 + k) :: As) M L Qr) (hk : k < 168) (he : g_sh X.1 k (M k) (L k) = .inr (3, fs)) (hdep : dC + 1 ≤ d) (hn : As.length = 2) (hst : st = As.reverse ++ .ref (X.1.1 + k) :: rest) (hcat : (rest.map fun v => v.category).sum ≤ 8) (hd : decode cc pc = .ok (.invokevirtual 248, 3)) (kk : ∀ (r : Option Value) (M1 : g_M) (L1 : g_L), Qr r M1 L1 → wx X M1 L1 (pc + 3) lv (r.toList ++ rest)) : wx X M L pc lv st := wx_callV C hM hk he rfl w3_126 w3_127 w3_128 w1_11 w3_129 (by decide +kernel) (by decide) hdep hn hst hcat hd kk
theorem ca_X10_252 (C : Cx X cc nL RX10 ret d) {k dC : Nat} {fs As rest : List Value} {Qr : Option Value → g_M → g_L → Prop} (hM : mt X.1 yX10_parting (Cond.code yX10_parting cX10_parting 4 (some .int)) dC (.ref (X.1.1 + k) :: As) M L Qr) (hk : k < 168) (he : g_sh X.1 k (M k) (L k) = .inr (10, fs)) (hdep : dC + 1 ≤ d) (hn : As.length = 1) (hst : st = As.reverse ++ .ref (X.1.1 + k) :: rest) (hcat : (rest.map fun v => v.category).sum ≤ 8) (hd : decode cc pc = .ok (.invokevirtual 252, 3)) (kk : ∀ (r : Option Value) (M1 : g_M) (L1 : g_L), Qr r M1 L1 → wx X M1 L1 (pc + 3) lv (r.toList ++ rest)) : wx X M L pc lv st := wx_callV C hM hk he rfl w3_136 w3_138 w0_14 w1_1 w3_139 (by decide +kernel) (by decide) hdep hn hst hcat hd kk
theorem ca_X10_256 (C : Cx X cc nL RX10 ret d) {k dC : Nat} {fs As rest : List Value} {Qr : Option Value → g_M → g_L → Prop} (hM : mt X.1 yX10_keepStaying (Cond.code yX10_keepStaying cX10_keepStaying 4 none) dC (.ref (X.1.1 + k) :: As) M L Qr) (hk : k < 168) (he : g_sh X.1 k (M k) (L k) = .inr (10, fs)) (hdep : dC + 1 ≤ d) (hn : As.length = 2) (hst : st = As.reverse ++ .ref (X.1.1 + k) :: rest) (hcat : (rest.map fun v => v.category).sum ≤ 8) (hd : decode cc pc = .ok (.invokevirtual 256, 3)) (kk : ∀ (r : Option Value) (M1 : g_M) (L1 : g_L), Qr r M1 L1 → wx X M1 L1 (pc + 3) lv (r.toList ++ rest)) : wx X M L pc lv st := wx_callV C hM hk he rfl w3_146 w3_148 w0_15 w1_1 w3_149 (by decide +kernel) (by decide) hdep hn hst hcat hd kk
theorem ca_X10_260 (C : Cx X cc nL RX10 ret d) {k dC : Nat} {fs As rest : List Value} {Qr : Option Value → g_M → g_L → Prop} (hM : mt X.1 yX10_changeRow (Cond.code yX10_changeRow cX10_changeRow 3 (some (.object "NightDots$Act"))) dC (.ref (X.1.1 + k) :: As) M L Qr) (hk : k < 168) (he : g_sh X.1 k (M k) (L k) = .inr (10, fs)) (hdep : dC + 1 ≤ d) (hn : As.length = 1) (hst : st = As.reverse ++ .ref (X.1.1 + k) :: rest) (hcat : (rest.map fun v => v.category).sum ≤ 8) (hd : decode cc pc = .ok (.invokevirtual 260, 3)) (kk : ∀ (r : Option Value) (M1 : g_M) (L1 : g_L), Qr r M1 L1 → wx X M1 L1 (pc + 3) lv (r.toList ++ rest)) : wx X M L pc lv st := wx_callV C hM hk he rfl w2_225 w2_227 w0_8 w1_1 w2_228 (by decide +kernel) (by decide) hdep hn hst hcat hd kk
theorem ca_X10_264 (C : Cx X cc nL RX10 ret d) {k dC : Nat} {fs As rest : List Value} {Qr : Option Value → g_M → g_L → Prop} (hM : mt X.1 yX10_gatherBoth (Cond.code yX10_gatherBoth cX10_gatherBoth 3 none) dC (.ref (X.1.1 + k) :: As) M L Qr) (hk : k < 168) (he : g_sh X.1 k (M k) (L k) = .inr (10, fs)) (hdep : dC + 1 ≤ d) (hn : As.length = 2) (hst : st = As.reverse ++ .ref (X.1.1 + k) :: rest) (hcat : (rest.map fun v => v.category).sum ≤ 8) (hd : decode cc pc = .ok (.invokevirtual 264, 3)) (kk : ∀ (r : Option Value) (M1 : g_M) (L1 : g_L), Qr r M1 L1 → wx X M1 L1 (pc + 3) lv (r.toList ++ rest)) : wx X M L pc lv st := wx_callV C hM hk he rfl w3_154 w3_156 w0_16 w1_1 w3_157 (by decide +kernel) (by decide) hdep hn hst hcat hd kk
theorem ca_X10_281 (C : Cx X cc nL RX10 ret d) {k dC : Nat} {fs As rest : List Value} {Qr : Option Value → g_M → g_L → Prop} (hM : mt X.1 yX1_takeLatest (Cond.code yX1_takeLatest cX1_takeLatest 1 (some (.object "NightDots$Act"))) dC (.ref (X.1.1 + k) :: As) M L Qr) (hk : k < 168) (he : g_sh X.1 k (M k) (L k) = .inr (1, fs)) (hdep : dC + 1 ≤ d) (hn : As.length = 0) (hst : st = As.reverse ++ .ref (X.1.1 + k) :: rest) (hcat : (rest.map fun v => v.category).sum ≤ 8) (hd : decode cc pc = .ok (.invokevirtual 281, 3)) (kk : ∀ (r : Option Value) (M1 : g_M) (L1 : g_L), Qr r M1 L1 → wx X M1 L1 (pc + 3) lv (r.toList ++ rest)) : wx X M L pc lv st := wx_callV C hM hk he rfl w3_169 w3_170 w3_171 w1_9 w3_172 (by decide +kernel) (by decide) hdep hn hst hcat hd kk
theorem ca_X10_290 (C : Cx X cc nL RX10 ret d) {k dC : Nat} {fs As rest : List Value} {Qr : Option Value → g_M → g_L → Prop} (hM : mt X.1 yX9_replaceRow (Cond.code yX9_replaceRow cX9_replaceRow 4 none) dC (.ref (X.1.1 + k) :: As) M L Qr) (hk : k < 168) (he : g_sh X.1 k (M k) (L k) = .inr (9, fs)) (hdep : dC + 1 ≤ d) (hn : As.length = 2) (hst : st = As.reverse ++ .ref (X.1.1 + k) :: rest) (hcat : (rest.map fun v => v.category).sum ≤ 8) (hd : decode cc pc = .ok (.invokevirtual 290, 3)) (kk : ∀ (r : Option Value) (M1 : g_M) (L1 : g_L), Qr r M1 L1 → wx X M1 L1 (pc + 3) lv (r.toList ++ rest)) : wx X M L pc lv st := wx_callV C hM hk he rfl w3_4 w3_5 w3_6 w1_7 w3_7 (by decide +kernel) (by decide) hdep hn hst hcat hd kk
theorem ca_X10_297 (C : Cx X cc nL RX10 ret d) {k dC : Nat} {fs As rest : List Value} {Qr : Option Value → g_M → g_L → Prop} (hM : mt X.1 yX9_bringBack (Cond.code yX9_bringBack cX9_bringBack 2 none) dC (.ref (X.1.1 + k) :: As) M L Qr) (hk : k < 168) (he : g_sh X.1 k (M k) (L k) = .inr (9, fs)) (hdep : dC + 1 ≤ d) (hn : As.length = 1) (hst : st = As.reverse ++ .ref (X.1.1 + k) :: rest) (hcat : (rest.map fun v => v.category).sum ≤ 8) (hd : decode cc pc = .ok (.invokevirtual 297, 3)) (kk : ∀ (r : Option Value) (M1 : g_M) (L1 : g_L), Qr r M1 L1 → wx X M1 L1 (pc + 3) lv (r.toList ++ rest)) : wx X M L pc lv st := wx_callV C hM hk he rfl w3_173 w3_174 w3_175 w1_7 w3_176 (by decide +kernel) (by decide) hdep hn hst hcat hd kk
theorem ca_X10_306 (C : Cx X cc nL RX10 ret d) {k dC : Nat} {fs As rest : List Value} {Qr : Option Value → g_M → g_L → Prop} (hM : mt X.1 yX7_freeOnes (Cond.code yX7_freeOnes cX7_freeOnes 3 (some .int)) dC (.ref (X.1.1 + k) :: As) M L Qr) (hk : k < 168) (he : g_sh X.1 k (M k) (L k) = .inr (7, fs)) (hdep : dC + 1 ≤ d) (hn : As.length = 0) (hst : st = As.reverse ++ .ref (X.1.1 + k) :: rest) (hcat : (rest.map fun v => v.category).sum ≤ 8) (hd : decode cc pc = .ok (.invokevirtual 306, 3)) (kk : ∀ (r : Option Value) (M1 : g_M) (L1 : g_L), Qr r M1 L1 → wx X M1 L1 (pc + 3) lv (r.toList ++ rest)) : wx X M L pc lv st := wx_callV C hM hk he rfl w3_181 w3_182 w3_183 w1_2 w3_184 (by decide +kernel) (by decide) hdep hn hst hcat hd kk
theorem ca_X10_309 (C : Cx X cc nL RX10 ret d) {k dC : Nat} {fs As rest : List Value} {Qr : Option Value → g_M → g_L → Prop} (hM : mt X.1 yX9_notGone (Cond.code yX9_notGone cX9_notGone 3 (some .int)) dC (.ref (X.1.1 + k) :: As) M L Qr) (hk : k < 168) (he : g_sh X.1 k (M k) (L k) = .inr (9, fs)) (hdep : dC + 1 ≤ d) (hn : As.length = 0) (hst : st = As.reverse ++ .ref (X.1.1 + k) :: rest) (hcat : (rest.map fun v => v.category).sum ≤ 8) (hd : decode cc pc = .ok (.invokevirtual 309, 3)) (kk : ∀ (r : Option Value) (M1 : g_M) (L1 : g_L), Qr r M1 L1 → wx X M1 L1 (pc + 3) lv (r.toList ++ rest)) : wx X M L pc lv st := wx_callV C hM hk he rfl w3_186 w3_187 w3_188 w1_7 w3_189 (by decide +kernel) (by decide) hdep hn hst hcat hd kk
theorem ca_X10_312 (C : Cx X cc nL RX10 ret d) {k dC : Nat} {fs As rest : List Value} {Qr : Option Value → g_M → g_L → Prop} (hM : mt X.1 yX9_add (Cond.code yX9_add cX9_add 3 (some .int)) dC (.ref (X.1.1 + k) :: As) M L Qr) (hk : k < 168) (he : g_sh X.1 k (M k) (L k) = .inr (9, fs)) (hdep : dC + 1 ≤ d) (hn : As.length = 1) (hst : st = As.reverse ++ .ref (X.1.1 + k) :: rest) (hcat : (rest.map fun v => v.category).sum ≤ 8) (hd : decode cc pc = .ok (.invokevirtual 312, 3)) (kk : ∀ (r : Option Value) (M1 : g_M) (L1 : g_L), Qr r M1 L1 → wx X M1 L1 (pc + 3) lv (r.toList ++ rest)) : wx X M L pc lv st := wx_callV C hM hk he rfl w2_221 w2_222 w2_223 w1_7 w2_224 (by decide +kernel) (by decide) hdep hn hst hcat hd kk
theorem ca_X10_314 (C : Cx X cc nL RX10 ret d) {k dC : Nat} {fs As rest : List Value} {Qr : Option Value → g_M → g_L → Prop} (hM : mt X.1 yX1_keep (Cond.code yX1_keep cX1_keep 4 (some (.object "NightDots$Act"))) dC (.ref (X.1.1 + k) :: As) M L Qr) (hk : k < 168) (he : g_sh X.1 k (M k) (L k) = .inr (1, fs)) (hdep : dC + 1 ≤ d) (hn : As.length = 2) (hst : st = As.reverse ++ .ref (X.1.1 + k) :: rest) (hcat : (rest.map fun v => v.category).sum ≤ 8) (hd : decode cc pc = .ok (.invokevirtual 314, 3)) (kk : ∀ (r : Option Value) (M1 : g_M) (L1 : g_L), Qr r M1 L1 → wx X M1 L1 (pc + 3) lv (r.toList ++ rest)) : wx X M L pc lv st := wx_callV C hM hk he rfl w2_229 w2_230 w2_231 w1_9 w2_232 (by decide +kernel) (by decide) hdep hn hst hcat hd kk
theorem ca_X10_318 (C : Cx X cc nL RX10 ret d) {k dC : Nat} {fs As rest : List Value} {Qr : Option Value → g_M → g_L → Prop} (hM : mt X.1 yX6_addAll (Cond.code yX6_addAll cX6_addAll 3 none) dC (.ref (X.1.1 + k) :: As) M L Qr) (hk : k < 168) (he : g_sh X.1 k (M k) (L k) = .inr (6, fs)) (hdep : dC + 1 ≤ d) (hn : As.length = 1) (hst : st = As.reverse ++ .ref (X.1.1 + k) :: rest) (hcat : (rest.map fun v => v.category).sum ≤ 8) (hd : decode cc pc = .ok (.invokevirtual 318, 3)) (kk : ∀ (r : Option Value) (M1 : g_M) (L1 : g_L), Qr r M1 L1 → wx X M1 L1 (pc + 3) lv (r.toList ++ rest)) : wx X M L pc lv st := wx_callV C hM hk he rfl w3_158 w2_239 w3_0 w1_6 w3_1 (by decide +kernel) (by decide) hdep hn hst hcat hd kk
theorem ca_X10_321 (C : Cx X cc nL RX10 ret d) {k dC : Nat} {fs As rest : List Value} {Qr : Option Value → g_M → g_L → Prop} (hM : mt X.1 yX3_through (Cond.code yX3_through cX3_through 13 (some .boolean)) dC (.ref (X.1.1 + k) :: As) M L Qr) (hk : k < 168) (he : g_sh X.1 k (M k) (L k) = .inr (3, fs)) (hdep : dC + 1 ≤ d) (hn : As.length = 3) (hst : st = As.reverse ++ .ref (X.1.1 + k) :: rest) (hcat : (rest.map fun v => v.category).sum ≤ 8) (hd : decode cc pc = .ok (.invokevirtual 321, 3)) (kk : ∀ (r : Option Value) (M1 : g_M) (L1 : g_L), Qr r M1 L1 → wx X M1 L1 (pc + 3) lv (r.toList ++ rest)) : wx X M L pc lv st := wx_callV C hM hk he rfl w3_98 w3_99 w3_100 w1_11 w3_101 (by decide +kernel) (by decide) hdep hn hst hcat hd kk
theorem ca_X10_325 (C : Cx X cc nL RX10 ret d) {dC : Nat} {As rest : List Value} {Qr : Option Value → g_M → g_L → Prop} (hM : mt X.1 yJ6_bitCount_0f7a4 (Cond.code yJ6_bitCount_0f7a4 cJ6_bitCount_0f7a4 1 (some .int)) dC As M L Qr) (hdep : dC + 1 ≤ d) (hn : As.length = 1) (hst : st = As.reverse ++ rest) (hcat : (rest.map fun v => v.category).sum ≤ 8) (hd : decode cc pc = .ok (.invokestatic 325, 3)) (kk : ∀ (r : Option Value) (M1 : g_M) (L1 : g_L), Qr r M1 L1 → wx X M1 L1 (pc + 3) lv (r.toList ++ rest)) : wx X M L pc lv st := wx_callS C hM w3_140 w3_141 w1_14 w3_142 (by decide +kernel) (by decide) hdep hn hst hcat hd kk
theorem ca_X11_78 (C : Cx X cc nL RX11 ret d) {dC : Nat} {As rest : List Value} {Qr : Option Value → g_M → g_L → Prop} (hM : mt X.1 yX11_isIn (Cond.code yX11_isIn cX11_isIn 3 (some .boolean)) dC As M L Qr) (hdep : dC + 1 ≤ d) (hn : As.length = 3) (hst : st = As.reverse ++ rest) (hcat : (rest.map fun v => v.category).sum ≤ 8) (hd : decode cc pc = .ok (.invokestatic 78, 3)) (kk : ∀ (r : Option Value) (M1 : g_M) (L1 : g_L), Qr r M1 L1 → wx X M1 L1 (pc + 3) lv (r.toList ++ rest)) : wx X M L pc lv st := wx_callS C hM w4_71 w4_72 w1_12 w4_73 (by decide +kernel) (by decide) hdep hn hst hcat hd kk
theorem ca_X11_88 (C : Cx X cc nL RX11 ret d) {k dC : Nat} {fs As rest : List Value} {Qr : Option Value → g_M → g_L → Prop} (hM : mt X.1 yX11_isDot (Cond.code yX11_isDot cX11_isDot 2 (some .boolean)) dC (.ref (X.1.1 + k) :: As) M L Qr) (hk : k < 168) (he : g_sh X.1 k (M k) (L k) = .inr (11, fs)) (hdep : dC + 1 ≤ d) (hn : As.length = 1) (hst : st = As.reverse ++ .ref (X.1.1 + k) :: rest) (hcat : (rest.map fun v => v.category).sum ≤ 8) (hd : decode cc pc = .ok (.invokevirtual 88, 3)) (kk : ∀ (r : Option Value) (M1 : g_M) (L1 : g_L), Qr r M1 L1 → wx X M1 L1 (pc + 3) lv (r.toList ++ rest)) : wx X M L pc lv st := wx_callV C hM hk he rfl w4_86 w4_88 w0_17 w1_12 w4_89 (by decide +kernel) (by decide) hdep hn hst hcat hd kk
theorem ca_X11_92 (C : Cx X cc nL RX11 ret d) {k dC : Nat} {fs As rest : List Value} {Qr : Option Value → g_M → g_L → Prop} (hM : mt X.1 yX11_night (Cond.code yX11_night cX11_night 2 (some .int)) dC (.ref (X.1.1 + k) :: As) M L Qr) (hk : k < 168) (he : g_sh X.1 k (M k) (L k) = .inr (11, fs)) (hdep : dC + 1 ≤ d) (hn : As.length = 1) (hst : st = As.reverse ++ .ref (X.1.1 + k) :: rest) (hcat : (rest.map fun v => v.category).sum ≤ 8) (hd : decode cc pc = .ok (.invokevirtual 92, 3)) (kk : ∀ (r : Option Value) (M1 : g_M) (L1 : g_L), Qr r M1 L1 → wx X M1 L1 (pc + 3) lv (r.toList ++ rest)) : wx X M L pc lv st := wx_callV C hM hk he rfl w4_90 w4_92 w0_18 w1_12 w4_93 (by decide +kernel) (by decide) hdep hn hst hcat hd kk
theorem ca_X11_99 (C : Cx X cc nL RX11 ret d) {k dC : Nat} {fs As rest : List Value} {Qr : Option Value → g_M → g_L → Prop} (hM : mt X.1 yX11_placeOf (Cond.code yX11_placeOf cX11_placeOf 3 (some .int)) dC (.ref (X.1.1 + k) :: As) M L Qr) (hk : k < 168) (he : g_sh X.1 k (M k) (L k) = .inr (11, fs)) (hdep : dC + 1 ≤ d) (hn : As.length = 2) (hst : st = As.reverse ++ .ref (X.1.1 + k) :: rest) (hcat : (rest.map fun v => v.category).sum ≤ 8) (hd : decode cc pc = .ok (.invokevirtual 99, 3)) (kk : ∀ (r : Option Value) (M1 : g_M) (L1 : g_L), Qr r M1 L1 → wx X M1 L1 (pc + 3) lv (r.toList ++ rest)) : wx X M L pc lv st := wx_callV C hM hk he rfl w4_135 w4_137 w0_26 w1_12 w4_138 (by decide +kernel) (by decide) hdep hn hst hcat hd kk
theorem ca_X11_111 (C : Cx X cc nL RX11 ret d) {dC : Nat} {As rest : List Value} {Qr : Option Value → g_M → g_L → Prop} (hM : mt X.1 yJ9_floorDiv_7cf53 (Cond.code yJ9_floorDiv_7cf53 cJ9_floorDiv_7cf53 3 (some .int)) dC As M L Qr) (hdep : dC + 1 ≤ d) (hn : As.length = 2) (hst : st = As.reverse ++ rest) (hcat : (rest.map fun v => v.category).sum ≤ 8) (hd : decode cc pc = .ok (.invokestatic 111, 3)) (kk : ∀ (r : Option Value) (M1 : g_M) (L1 : g_L), Qr r M1 L1 → wx X M1 L1 (pc + 3) lv (r.toList ++ rest)) : wx X M L pc lv st := wx_callS C hM w4_141 w2_199 w1_13 w2_200 (by decide +kernel) (by decide) hdep hn hst hcat hd kk
theorem ca_X11_120 (C : Cx X cc nL RX11 ret d) {k dC : Nat} {fs As rest : List Value} {Qr : Option Value → g_M → g_L → Prop} (hM : mt X.1 yX11_lines (Cond.code yX11_lines cX11_lines 7 (some .int)) dC (.ref (X.1.1 + k) :: As) M L Qr) (hk : k < 168) (he : g_sh X.1 k (M k) (L k) = .inr (11, fs)) (hdep : dC + 1 ≤ d) (hn : As.length = 2) (hst : st = As.reverse ++ .ref (X.1.1 + k) :: rest) (hcat : (rest.map fun v => v.category).sum ≤ 8) (hd : decode cc pc = .ok (.invokevirtual 120, 3)) (kk : ∀ (r : Option Value) (M1 : g_M) (L1 : g_L), Qr r M1 L1 → wx X M1 L1 (pc + 3) lv (r.toList ++ rest)) : wx X M L pc lv st := wx_callV C hM hk he rfl w4_131 w4_133 w0_25 w1_12 w4_134 (by decide +kernel) (by decide) hdep hn hst hcat hd kk
theorem ca_X11_123 (C : Cx X cc nL RX11 ret d) {k dC : Nat} {fs As rest : List Value} {Qr : Option Value → g_M → g_L → Prop} (hM : mt X.1 yX11_allLines (Cond.code yX11_allLines cX11_allLines 5 (some .long)) dC (.ref (X.1.1 + k) :: As) M L Qr) (hk : k < 168) (he : g_sh X.1 k (M k) (L k) = .inr (11, fs)) (hdep : dC + 1 ≤ d) (hn : As.length = 1) (hst : st = As.reverse ++ .ref (X.1.1 + k) :: rest) (hcat : (rest.map fun v => v.category).sum ≤ 8) (hd : decode cc pc = .ok (.invokevirtual 123, 3)) (kk : ∀ (r : Option Value) (M1 : g_M) (L1 : g_L), Qr r M1 L1 → wx X M1 L1 (pc + 3) lv (r.toList ++ rest)) : wx X M L pc lv st := wx_callV C hM hk he rfl w4_127 w4_129 w0_24 w1_12 w4_130 (by decide +kernel) (by decide) hdep hn hst hcat hd kk
theorem ca_X11_127 (C : Cx X cc nL RX11 ret d) {k dC : Nat} {fs As rest : List Value} {Qr : Option Value → g_M → g_L → Prop} (hM : mt X.1 yX11_take (Cond.code yX11_take cX11_take 3 none) dC (.ref (X.1.1 + k) :: As) M L Qr) (hk : k < 168) (he : g_sh X.1 k (M k) (L k) = .inr (11, fs)) (hdep : dC + 1 ≤ d) (hn : As.length = 1) (hst : st = As.reverse ++ .ref (X.1.1 + k) :: rest) (hcat : (rest.map fun v => v.category).sum ≤ 8) (hd : decode cc pc = .ok (.invokevirtual 127, 3)) (kk : ∀ (r : Option Value) (M1 : g_M) (L1 : g_L), Qr r M1 L1 → wx X M1 L1 (pc + 3) lv (r.toList ++ rest)) : wx X M L pc lv st := wx_callV C hM hk he rfl w4_182 w4_184 w0_32 w1_12 w4_185 (by decide +kernel) (by decide) hdep hn hst hcat hd kk
theorem ca_X11_131 (C : Cx X cc nL RX11 ret d) {k dC : Nat} {fs As rest : List Value} {Qr : Option Value → g_M → g_L → Prop} (hM : mt X.1 yX11_isHeap (Cond.code yX11_isHeap cX11_isHeap 1 (some .boolean)) dC (.ref (X.1.1 + k) :: As) M L Qr) (hk : k < 168) (he : g_sh X.1 k (M k) (L k) = .inr (11, fs)) (hdep : dC + 1 ≤ d) (hn : As.length = 0) (hst : st = As.reverse ++ .ref (X.1.1 + k) :: rest) (hcat : (rest.map fun v => v.category).sum ≤ 8) (hd : decode cc pc = .ok (.invokevirtual 131, 3)) (kk : ∀ (r : Option Value) (M1 : g_M) (L1 : g_L), Qr r M1 L1 → wx X M1 L1 (pc + 3) lv (r.toList ++ rest)) : wx X M L pc lv st := wx_callV C hM hk he rfl w4_123 w4_125 w0_23 w1_12 w4_126 (by decide +kernel) (by decide) hdep hn hst hcat hd kk
theorem ca_X11_153 (C : Cx X cc nL RX11 ret d) {k dC : Nat} {fs As rest : List Value} {Qr : Option Value → g_M → g_L → Prop} (hM : mt X.1 yX11_isNear (Cond.code yX11_isNear cX11_isNear 4 (some .boolean)) dC (.ref (X.1.1 + k) :: As) M L Qr) (hk : k < 168) (he : g_sh X.1 k (M k) (L k) = .inr (11, fs)) (hdep : dC + 1 ≤ d) (hn : As.length = 2) (hst : st = As.reverse ++ .ref (X.1.1 + k) :: rest) (hcat : (rest.map fun v => v.category).sum ≤ 8) (hd : decode cc pc = .ok (.invokevirtual 153, 3)) (kk : ∀ (r : Option Value) (M1 : g_M) (L1 : g_L), Qr r M1 L1 → wx X M1 L1 (pc + 3) lv (r.toList ++ rest)) : wx X M L pc lv st := wx_callV C hM hk he rfl w4_102 w4_104 w0_20 w1_12 w4_105 (by decide +kernel) (by decide) hdep hn hst hcat hd kk
theorem ca_X11_157 (C : Cx X cc nL RX11 ret d) {k dC : Nat} {fs As rest : List Value} {Qr : Option Value → g_M → g_L → Prop} (hM : mt X.1 yX11_findBits (Cond.code yX11_findBits cX11_findBits 3 none) dC (.ref (X.1.1 + k) :: As) M L Qr) (hk : k < 168) (he : g_sh X.1 k (M k) (L k) = .inr (11, fs)) (hdep : dC + 1 ≤ d) (hn : As.length = 0) (hst : st = As.reverse ++ .ref (X.1.1 + k) :: rest) (hcat : (rest.map fun v => v.category).sum ≤ 8) (hd : decode cc pc = .ok (.invokevirtual 157, 3)) (kk : ∀ (r : Option Value) (M1 : g_M) (L1 : g_L), Qr r M1 L1 → wx X M1 L1 (pc + 3) lv (r.toList ++ rest)) : wx X M L pc lv st := wx_callV C hM hk he rfl w4_98 w4_100 w0_19 w1_12 w4_101 (by decide +kernel) (by decide) hdep hn hst hcat hd kk
theorem ca_X11_163 (C : Cx X cc nL RX11 ret d) {k dC : Nat} {fs As rest : List Value} {Qr : Option Value → g_M → g_L → Prop} (hM : mt X.1 yX11_adds (Cond.code yX11_adds cX11_adds 2 none) dC (.ref (X.1.1 + k) :: As) M L Qr) (hk : k < 168) (he : g_sh X.1 k (M k) (L k) = .inr (11, fs)) (hdep : dC + 1 ≤ d) (hn : As.length = 1) (hst : st = As.reverse ++ .ref (X.1.1 + k) :: rest) (hcat : (rest.map fun v => v.category).sum ≤ 8) (hd : decode cc pc = .ok (.invokevirtual 163, 3)) (kk : ∀ (r : Option Value) (M1 : g_M) (L1 : g_L), Qr r M1 L1 → wx X M1 L1 (pc + 3) lv (r.toList ++ rest)) : wx X M L pc lv st := wx_callV C hM hk he rfl w4_119 w4_121 w0_22 w1_12 w4_122 (by decide +kernel) (by decide) hdep hn hst hcat hd kk
theorem ca_X11_166 (C : Cx X cc nL RX11 ret d) {k dC : Nat} {fs As rest : List Value} {Qr : Option Value → g_M → g_L → Prop} (hM : mt X.1 yX11_findPairs (Cond.code yX11_findPairs cX11_findPairs 3 (some .boolean)) dC (.ref (X.1.1 + k) :: As) M L Qr) (hk : k < 168) (he : g_sh X.1 k (M k) (L k) = .inr (11, fs)) (hdep : dC + 1 ≤ d) (hn : As.length = 0) (hst : st = As.reverse ++ .ref (X.1.1 + k) :: rest) (hcat : (rest.map fun v => v.category).sum ≤ 8) (hd : decode cc pc = .ok (.invokevirtual 166, 3)) (kk : ∀ (r : Option Value) (M1 : g_M) (L1 : g_L), Qr r M1 L1 → wx X M1 L1 (pc + 3) lv (r.toList ++ rest)) : wx X M L pc lv st := wx_callV C hM hk he rfl w4_115 w4_117 w0_21 w1_12 w4_118 (by decide +kernel) (by decide) hdep hn hst hcat hd kk
theorem ca_X11_172 (C : Cx X cc nL RX11 ret d) {k dC : Nat} {fs As rest : List Value} {Qr : Option Value → g_M → g_L → Prop} (hM : mt X.1 yX11_own (Cond.code yX11_own cX11_own 3 none) dC (.ref (X.1.1 + k) :: As) M L Qr) (hk : k < 168) (he : g_sh X.1 k (M k) (L k) = .inr (11, fs)) (hdep : dC + 1 ≤ d) (hn : As.length = 0) (hst : st = As.reverse ++ .ref (X.1.1 + k) :: rest) (hcat : (rest.map fun v => v.category).sum ≤ 8) (hd : decode cc pc = .ok (.invokevirtual 172, 3)) (kk : ∀ (r : Option Value) (M1 : g_M) (L1 : g_L), Qr r M1 L1 → wx X M1 L1 (pc + 3) lv (r.toList ++ rest)) : wx X M L pc lv st := wx_callV C hM hk he rfl w4_150 w4_152 w0_27 w1_12 w4_153 (by decide +kernel) (by decide) hdep hn hst hcat hd kk
theorem ca_X11_175 (C : Cx X cc nL RX11 ret d) {k dC : Nat} {fs As rest : List Value} {Qr : Option Value → g_M → g_L → Prop} (hM : mt X.1 yX11_keep (Cond.code yX11_keep cX11_keep 4 none) dC (.ref (X.1.1 + k) :: As) M L Qr) (hk : k < 168) (he : g_sh X.1 k (M k) (L k) = .inr (11, fs)) (hdep : dC + 1 ≤ d) (hn : As.length = 0) (hst : st = As.reverse ++ .ref (X.1.1 + k) :: rest) (hcat : (rest.map fun v => v.category).sum ≤ 8) (hd : decode cc pc = .ok (.invokevirtual 175, 3)) (kk : ∀ (r : Option Value) (M1 : g_M) (L1 : g_L), Qr r M1 L1 → wx X M1 L1 (pc + 3) lv (r.toList ++ rest)) : wx X M L pc lv st := wx_callV C hM hk he rfl w4_162 w4_164 w0_29 w1_12 w4_165 (by decide +kernel) (by decide) hdep hn hst hcat hd kk
theorem ca_X11_178 (C : Cx X cc nL RX11 ret d) {k dC : Nat} {fs As rest : List Value} {Qr : Option Value → g_M → g_L → Prop} (hM : mt X.1 yX11_begins (Cond.code yX11_begins cX11_begins 3 (some .int)) dC (.ref (X.1.1 + k) :: As) M L Qr) (hk : k < 168) (he : g_sh X.1 k (M k) (L k) = .inr (11, fs)) (hdep : dC + 1 ≤ d) (hn : As.length = 1) (hst : st = As.reverse ++ .ref (X.1.1 + k) :: rest) (hcat : (rest.map fun v => v.category).sum ≤ 8) (hd : decode cc pc = .ok (.invokevirtual 178, 3)) (kk : ∀ (r : Option Value) (M1 : g_M) (L1 : g_L), Qr r M1 L1 → wx X M1 L1 (pc + 3) lv (r.toList ++ rest)) : wx X M L pc lv st := wx_callV C hM hk he rfl w4_158 w4_160 w0_28 w1_12 w4_161 (by decide +kernel) (by decide) hdep hn hst hcat hd kk
theorem ca_X11_181 (C : Cx X cc nL RX11 ret d) {k dC : Nat} {fs As rest : List Value} {Qr : Option Value → g_M → g_L → Prop} (hM : mt X.1 yX11_comes (Cond.code yX11_comes cX11_comes 3 none) dC (.ref (X.1.1 + k) :: As) M L Qr) (hk : k < 168) (he : g_sh X.1 k (M k) (L k) = .inr (11, fs)) (hdep : dC + 1 ≤ d) (hn : As.length = 2) (hst : st = As.reverse ++ .ref (X.1.1 + k) :: rest) (hcat : (rest.map fun v => v.category).sum ≤ 8) (hd : decode cc pc = .ok (.invokevirtual 181, 3)) (kk : ∀ (r : Option Value) (M1 : g_M) (L1 : g_L), Qr r M1 L1 → wx X M1 L1 (pc + 3) lv (r.toList ++ rest)) : wx X M L pc lv st := wx_callV C hM hk he rfl w4_166 w4_168 w0_30 w1_12 w4_169 (by decide +kernel) (by decide) hdep hn hst hcat hd kk
theorem ca_X11_185 (C : Cx X cc nL RX11 ret d) {k dC : Nat} {fs As rest : List Value} {Qr : Option Value → g_M → g_L → Prop} (hM : mt X.1 yX11_isPath (Cond.code yX11_isPath cX11_isPath 2 (some .boolean)) dC (.ref (X.1.1 + k) :: As) M L Qr) (hk : k < 168) (he : g_sh X.1 k (M k) (L k) = .inr (11, fs)) (hdep : dC + 1 ≤ d) (hn : As.length = 1) (hst : st = As.reverse ++ .ref (X.1.1 + k) :: rest) (hcat : (rest.map fun v => v.category).sum ≤ 8) (hd : decode cc pc = .ok (.invokevirtual 185, 3)) (kk : ∀ (r : Option Value) (M1 : g_M) (L1 : g_L), Qr r M1 L1 → wx X M1 L1 (pc + 3) lv (r.toList ++ rest)) : wx X M L pc lv st := wx_callV C hM hk he rfl w4_178 w4_180 w0_31 w1_12 w4_181 (by decide +kernel) (by decide) hdep hn hst hcat hd kk
theorem ca_X11_188 (C : Cx X cc nL RX11 ret d) {k dC : Nat} {fs As rest : List Value} {Qr : Option Value → g_M → g_L → Prop} (hM : mt X.1 yX11_isSound (Cond.code yX11_isSound cX11_isSound 2 (some .boolean)) dC (.ref (X.1.1 + k) :: As) M L Qr) (hk : k < 168) (he : g_sh X.1 k (M k) (L k) = .inr (11, fs)) (hdep : dC + 1 ≤ d) (hn : As.length = 1) (hst : st = As.reverse ++ .ref (X.1.1 + k) :: rest) (hcat : (rest.map fun v => v.category).sum ≤ 8) (hd : decode cc pc = .ok (.invokevirtual 188, 3)) (kk : ∀ (r : Option Value) (M1 : g_M) (L1 : g_L), Qr r M1 L1 → wx X M1 L1 (pc + 3) lv (r.toList ++ rest)) : wx X M L pc lv st := wx_callV C hM hk he rfl w4_198 w4_200 w0_33 w1_12 w4_201 (by decide +kernel) (by decide) hdep hn hst hcat hd kk
theorem ca_X11_195 (C : Cx X cc nL RX11 ret d) {k dC : Nat} {fs As rest : List Value} {Qr : Option Value → g_M → g_L → Prop} (hM : mt X.1 yX11_ahead0 (Cond.code yX11_ahead0 cX11_ahead0 9 none) dC (.ref (X.1.1 + k) :: As) M L Qr) (hk : k < 168) (he : g_sh X.1 k (M k) (L k) = .inr (11, fs)) (hdep : dC + 1 ≤ d) (hn : As.length = 2) (hst : st = As.reverse ++ .ref (X.1.1 + k) :: rest) (hcat : (rest.map fun v => v.category).sum ≤ 8) (hd : decode cc pc = .ok (.invokevirtual 195, 3)) (kk : ∀ (r : Option Value) (M1 : g_M) (L1 : g_L), Qr r M1 L1 → wx X M1 L1 (pc + 3) lv (r.toList ++ rest)) : wx X M L pc lv st := wx_callV C hM hk he rfl w4_212 w4_214 w0_34 w1_12 w4_215 (by decide +kernel) (by decide) hdep hn hst hcat hd kk
theorem ca_X11_198 (C : Cx X cc nL RX11 ret d) {k dC : Nat} {fs As rest : List Value} {Qr : Option Value → g_M → g_L → Prop} (hM : mt X.1 yX11_isWithin (Cond.code yX11_isWithin cX11_isWithin 4 (some .boolean)) dC (.ref (X.1.1 + k) :: As) M L Qr) (hk : k < 168) (he : g_sh X.1 k (M k) (L k) = .inr (11, fs)) (hdep : dC + 1 ≤ d) (hn : As.length = 2) (hst : st = As.reverse ++ .ref (X.1.1 + k) :: rest) (hcat : (rest.map fun v => v.category).sum ≤ 8) (hd : decode cc pc = .ok (.invokevirtual 198, 3)) (kk : ∀ (r : Option Value) (M1 : g_M) (L1 : g_L), Qr r M1 L1 → wx X M1 L1 (pc + 3) lv (r.toList ++ rest)) : wx X M L pc lv st := wx_callV C hM hk he rfl w4_226 w4_228 w0_35 w1_12 w4_229 (by decide +kernel) (by decide) hdep hn hst hcat hd kk
theorem ca_X11_213 (C : Cx X cc nL RX11 ret d) {dC : Nat} {As rest : List Value} {Qr : Option Value → g_M → g_L → Prop} (hM : mt X.1 yX11_divisor (Cond.code yX11_divisor cX11_divisor 10 (some .long)) dC As M L Qr) (hdep : dC + 1 ≤ d) (hn : As.length = 2) (hst : st = As.reverse ++ rest) (hcat : (rest.map fun v => v.category).sum ≤ 8) (hd : decode cc pc = .ok (.invokestatic 213, 3)) (kk : ∀ (r : Option Value) (M1 : g_M) (L1 : g_L), Qr r M1 L1 → wx X M1 L1 (pc + 3) lv (r.toList ++ rest)) : wx X M L pc lv st := wx_callS C hM w5_1 w5_2 w1_12 w5_3 (by decide +kernel) (by decide) hdep hn hst hcat hd kk
theorem ca_X11_216 (C : Cx X cc nL RX11 ret d) {k dC : Nat} {fs As rest : List Value} {Qr : Option Value → g_M → g_L → Prop} (hM : mt X.1 yX11_fits (Cond.code yX11_fits cX11_fits 18 (some .boolean)) dC (.ref (X.1.1 + k) :: As) M L Qr) (hk : k < 168) (he : g_sh X.1 k (M k) (L k) = .inr (11, fs)) (hdep : dC + 1 ≤ d) (hn : As.length = 2) (hst : st = As.reverse ++ .ref (X.1.1 + k) :: rest) (hcat : (rest.map fun v => v.category).sum ≤ 8) (hd : decode cc pc = .ok (.invokevirtual 216, 3)) (kk : ∀ (r : Option Value) (M1 : g_M) (L1 : g_L), Qr r M1 L1 → wx X M1 L1 (pc + 3) lv (r.toList ++ rest)) : wx X M L pc lv st := wx_callV C hM hk he rfl w4_234 w4_236 w0_36 w1_12 w4_237 (by decide +kernel) (by decide) hdep hn hst hcat hd kk
theorem ca_X11_219 (C : Cx X cc nL RX11 ret d) {dC : Nat} {As rest : List Value} {Qr : Option Value → g_M → g_L → Prop} (hM : mt X.1 yX11_told (Cond.code yX11_told cX11_told 7 (some .long)) dC As M L Qr) (hdep : dC + 1 ≤ d) (hn : As.length = 3) (hst : st = As.reverse ++ rest) (hcat : (rest.map fun v => v.category).sum ≤ 8) (hd : decode cc pc = .ok (.invokestatic 219, 3)) (kk : ∀ (r : Option Value) (M1 : g_M) (L1 : g_L), Qr r M1 L1 → wx X M1 L1 (pc + 3) lv (r.toList ++ rest)) : wx X M L pc lv st := wx_callS C hM w4_238 w4_239 w1_12 w5_0 (by decide +kernel) (by decide) hdep hn hst hcat hd kk
theorem ca_X11_223 (C : Cx X cc nL RX11 ret d) {dC : Nat} {As rest : List Value} {Qr : Option Value → g_M → g_L → Prop} (hM : mt X.1 yX11_bitsOf (Cond.code yX11_bitsOf cX11_bitsOf 3 (some .int)) dC As M L Qr) (hdep : dC + 1 ≤ d) (hn : As.length = 1) (hst : st = As.reverse ++ rest) (hcat : (rest.map fun v => v.category).sum ≤ 8) (hd : decode cc pc = .ok (.invokestatic 223, 3)) (kk : ∀ (r : Option Value) (M1 : g_M) (L1 : g_L), Qr r M1 L1 → wx X M1 L1 (pc + 3) lv (r.toList ++ rest)) : wx X M L pc lv st := wx_callS C hM w5_12 w5_13 w1_12 w5_14 (by decide +kernel) (by decide) hdep hn hst hcat hd kk
theorem ca_X11_226 (C : Cx X cc nL RX11 ret d) {k dC : Nat} {fs As rest : List Value} {Qr : Option Value → g_M → g_L → Prop} (hM : mt X.1 yX11_isSoundWithout (Cond.code yX11_isSoundWithout cX11_isSoundWithout 4 (some .boolean)) dC (.ref (X.1.1 + k) :: As) M L Qr) (hk : k < 168) (he : g_sh X.1 k (M k) (L k) = .inr (11, fs)) (hdep : dC + 1 ≤ d) (hn : As.length = 2) (hst : st = As.reverse ++ .ref (X.1.1 + k) :: rest) (hcat : (rest.map fun v => v.category).sum ≤ 8) (hd : decode cc pc = .ok (.invokevirtual 226, 3)) (kk : ∀ (r : Option Value) (M1 : g_M) (L1 : g_L), Qr r M1 L1 → wx X M1 L1 (pc + 3) lv (r.toList ++ rest)) : wx X M L pc lv st := wx_callV C hM hk he rfl w5_15 w5_17 w0_37 w1_12 w5_18 (by decide +kernel) (by decide) hdep hn hst hcat hd kk
theorem ca_X11_229 (C : Cx X cc nL RX11 ret d) {k dC : Nat} {fs As rest : List Value} {Qr : Option Value → g_M → g_L → Prop} (hM : mt X.1 yX11_areSame (Cond.code yX11_areSame cX11_areSame 4 (some .boolean)) dC (.ref (X.1.1 + k) :: As) M L Qr) (hk : k < 168) (he : g_sh X.1 k (M k) (L k) = .inr (11, fs)) (hdep : dC + 1 ≤ d) (hn : As.length = 2) (hst : st = As.reverse ++ .ref (X.1.1 + k) :: rest) (hcat : (rest.map fun v => v.category).sum ≤ 8) (hd : decode cc pc = .ok (.invokevirtual 229, 3)) (kk : ∀ (r : Option Value) (M1 : g_M) (L1 : g_L), Qr r M1 L1 → wx X M1 L1 (pc + 3) lv (r.toList ++ rest)) : wx X M L pc lv st := wx_callV C hM hk he rfl w5_23 w5_25 w0_38 w1_12 w5_26 (by decide +kernel) (by decide) hdep hn hst hcat hd kk
theorem ca_X2_23 (C : Cx X cc nL RX2 ret d) {k dC : Nat} {fs As rest : List Value} {Qr : Option Value → g_M → g_L → Prop} (hM : mt X.1 yX7_isFree (Cond.code yX7_isFree cX7_isFree 2 (some .boolean)) dC (.ref (X.1.1 + k) :: As) M L Qr) (hk : k < 168) (he : g_sh X.1 k (M k) (L k) = .inr (7, fs)) (hdep : dC + 1 ≤ d) (hn : As.length = 1) (hst : st = As.reverse ++ .ref (X.1.1 + k) :: rest) (hcat : (rest.map fun v => v.category).sum ≤ 8) (hd : decode cc pc = .ok (.invokevirtual 23, 3)) (kk : ∀ (r : Option Value) (M1 : g_M) (L1 : g_L), Qr r M1 L1 → wx X M1 L1 (pc + 3) lv (r.toList ++ rest)) : wx X M L pc lv st := wx_callV C hM hk he rfl w2_122 w2_123 w2_124 w1_2 w2_125 (by decide +kernel) (by decide) hdep hn hst hcat hd kk
theorem ca_X2_27 (C : Cx X cc nL RX2 ret d) {k dC : Nat} {fs As rest : List Value} {Qr : Option Value → g_M → g_L → Prop} (hM : mt X.1 yX7_nightOf (Cond.code yX7_nightOf cX7_nightOf 2 (some .int)) dC (.ref (X.1.1 + k) :: As) M L Qr) (hk : k < 168) (he : g_sh X.1 k (M k) (L k) = .inr (7, fs)) (hdep : dC + 1 ≤ d) (hn : As.length = 1) (hst : st = As.reverse ++ .ref (X.1.1 + k) :: rest) (hcat : (rest.map fun v => v.category).sum ≤ 8) (hd : decode cc pc = .ok (.invokevirtual 27, 3)) (kk : ∀ (r : Option Value) (M1 : g_M) (L1 : g_L), Qr r M1 L1 → wx X M1 L1 (pc + 3) lv (r.toList ++ rest)) : wx X M L pc lv st := wx_callV C hM hk he rfl w2_126 w2_107 w2_108 w1_2 w2_109 (by decide +kernel) (by decide) hdep hn hst hcat hd kk
theorem ca_X2_45 (C : Cx X cc nL RX2 ret d) {k dC : Nat} {fs As rest : List Value} {Qr : Option Value → g_M → g_L → Prop} (hM : mt X.1 yX2_isBit (Cond.code yX2_isBit cX2_isBit 4 (some .boolean)) dC (.ref (X.1.1 + k) :: As) M L Qr) (hk : k < 168) (he : g_sh X.1 k (M k) (L k) = .inr (2, fs)) (hdep : dC + 1 ≤ d) (hn : As.length = 2) (hst : st = As.reverse ++ .ref (X.1.1 + k) :: rest) (hcat : (rest.map fun v => v.category).sum ≤ 8) (hd : decode cc pc = .ok (.invokevirtual 45, 3)) (kk : ∀ (r : Option Value) (M1 : g_M) (L1 : g_L), Qr r M1 L1 → wx X M1 L1 (pc + 3) lv (r.toList ++ rest)) : wx X M L pc lv st := wx_callV C hM hk he rfl w2_118 w2_119 w2_120 w1_4 w2_121 (by decide +kernel) (by decide) hdep hn hst hcat hd kk
theorem ca_X3_35 (C : Cx X cc nL RX3 ret d) {k dC : Nat} {fs As rest : List Value} {Qr : Option Value → g_M → g_L → Prop} (hM : mt X.1 yX7_placeOf (Cond.code yX7_placeOf cX7_placeOf 3 (some .int)) dC (.ref (X.1.1 + k) :: As) M L Qr) (hk : k < 168) (he : g_sh X.1 k (M k) (L k) = .inr (7, fs)) (hdep : dC + 1 ≤ d) (hn : As.length = 2) (hst : st = As.reverse ++ .ref (X.1.1 + k) :: rest) (hcat : (rest.map fun v => v.category).sum ≤ 8) (hd : decode cc pc = .ok (.invokevirtual 35, 3)) (kk : ∀ (r : Option Value) (M1 : g_M) (L1 : g_L), Qr r M1 L1 → wx X M1 L1 (pc + 3) lv (r.toList ++ rest)) : wx X M L pc lv st := wx_callV C hM hk he rfl w3_102 w2_189 w2_190 w1_2 w2_191 (by decide +kernel) (by decide) hdep hn hst hcat hd kk
theorem ca_X3_45 (C : Cx X cc nL RX3 ret d) {k dC : Nat} {fs As rest : List Value} {Qr : Option Value → g_M → g_L → Prop} (hM : mt X.1 yX3_placeBelow (Cond.code yX3_placeBelow cX3_placeBelow 1 (some .long)) dC (.ref (X.1.1 + k) :: As) M L Qr) (hk : k < 168) (he : g_sh X.1 k (M k) (L k) = .inr (3, fs)) (hdep : dC + 1 ≤ d) (hn : As.length = 0) (hst : st = As.reverse ++ .ref (X.1.1 + k) :: rest) (hcat : (rest.map fun v => v.category).sum ≤ 8) (hd : decode cc pc = .ok (.invokevirtual 45, 3)) (kk : ∀ (r : Option Value) (M1 : g_M) (L1 : g_L), Qr r M1 L1 → wx X M1 L1 (pc + 3) lv (r.toList ++ rest)) : wx X M L pc lv st := wx_callV C hM hk he rfl w3_130 w3_108 w3_109 w1_11 w3_110 (by decide +kernel) (by decide) hdep hn hst hcat hd kk
theorem ca_X3_49 (C : Cx X cc nL RX3 ret d) {k dC : Nat} {fs As rest : List Value} {Qr : Option Value → g_M → g_L → Prop} (hM : mt X.1 yX3_placeTop (Cond.code yX3_placeTop cX3_placeTop 1 (some .long)) dC (.ref (X.1.1 + k) :: As) M L Qr) (hk : k < 168) (he : g_sh X.1 k (M k) (L k) = .inr (3, fs)) (hdep : dC + 1 ≤ d) (hn : As.length = 0) (hst : st = As.reverse ++ .ref (X.1.1 + k) :: rest) (hcat : (rest.map fun v => v.category).sum ≤ 8) (hd : decode cc pc = .ok (.invokevirtual 49, 3)) (kk : ∀ (r : Option Value) (M1 : g_M) (L1 : g_L), Qr r M1 L1 → wx X M1 L1 (pc + 3) lv (r.toList ++ rest)) : wx X M L pc lv st := wx_callV C hM hk he rfl w3_131 w3_104 w3_105 w1_11 w3_106 (by decide +kernel) (by decide) hdep hn hst hcat hd kk
theorem ca_X3_58 (C : Cx X cc nL RX3 ret d) {dC : Nat} {As rest : List Value} {Qr : Option Value → g_M → g_L → Prop} (hM : mt X.1 yX3_commonDivisor (Cond.code yX3_commonDivisor cX3_commonDivisor 11 (some .long)) dC As M L Qr) (hdep : dC + 1 ≤ d) (hn : As.length = 2) (hst : st = As.reverse ++ rest) (hcat : (rest.map fun v => v.category).sum ≤ 8) (hd : decode cc pc = .ok (.invokestatic 58, 3)) (kk : ∀ (r : Option Value) (M1 : g_M) (L1 : g_L), Qr r M1 L1 → wx X M1 L1 (pc + 3) lv (r.toList ++ rest)) : wx X M L pc lv st := wx_callS C hM w3_117 w3_118 w1_11 w3_119 (by decide +kernel) (by decide) hdep hn hst hcat hd kk
theorem ca_X4_31 (C : Cx X cc nL RX4 ret d) {k dC : Nat} {fs As rest : List Value} {Qr : Option Value → g_M → g_L → Prop} (hM : mt X.1 yX7_placeOf (Cond.code yX7_placeOf cX7_placeOf 3 (some .int)) dC (.ref (X.1.1 + k) :: As) M L Qr) (hk : k < 168) (he : g_sh X.1 k (M k) (L k) = .inr (7, fs)) (hdep : dC + 1 ≤ d) (hn : As.length = 2) (hst : st = As.reverse ++ .ref (X.1.1 + k) :: rest) (hcat : (rest.map fun v => v.category).sum ≤ 8) (hd : decode cc pc = .ok (.invokevirtual 31, 3)) (kk : ∀ (r : Option Value) (M1 : g_M) (L1 : g_L), Qr r M1 L1 → wx X M1 L1 (pc + 3) lv (r.toList ++ rest)) : wx X M L pc lv st := wx_callV C hM hk he rfl w2_188 w2_189 w2_190 w1_2 w2_191 (by decide +kernel) (by decide) hdep hn hst hcat hd kk
theorem ca_X4_48 (C : Cx X cc nL RX4 ret d) {dC : Nat} {As rest : List Value} {Qr : Option Value → g_M → g_L → Prop} (hM : mt X.1 yJ9_floorDiv_7cf53 (Cond.code yJ9_floorDiv_7cf53 cJ9_floorDiv_7cf53 3 (some .int)) dC As M L Qr) (hdep : dC + 1 ≤ d) (hn : As.length = 2) (hst : st = As.reverse ++ rest) (hcat : (rest.map fun v => v.category).sum ≤ 8) (hd : decode cc pc = .ok (.invokestatic 48, 3)) (kk : ∀ (r : Option Value) (M1 : g_M) (L1 : g_L), Qr r M1 L1 → wx X M1 L1 (pc + 3) lv (r.toList ++ rest)) : wx X M L pc lv st := wx_callS C hM w2_198 w2_199 w1_13 w2_200 (by decide +kernel) (by decide) hdep hn hst hcat hd kk
theorem ca_X4_57 (C : Cx X cc nL RX4 ret d) {k dC : Nat} {fs As rest : List Value} {Qr : Option Value → g_M → g_L → Prop} (hM : mt X.1 yX4_span (Cond.code yX4_span cX4_span 9 (some .boolean)) dC (.ref (X.1.1 + k) :: As) M L Qr) (hk : k < 168) (he : g_sh X.1 k (M k) (L k) = .inr (4, fs)) (hdep : dC + 1 ≤ d) (hn : As.length = 3) (hst : st = As.reverse ++ .ref (X.1.1 + k) :: rest) (hcat : (rest.map fun v => v.category).sum ≤ 8) (hd : decode cc pc = .ok (.invokevirtual 57, 3)) (kk : ∀ (r : Option Value) (M1 : g_M) (L1 : g_L), Qr r M1 L1 → wx X M1 L1 (pc + 3) lv (r.toList ++ rest)) : wx X M L pc lv st := wx_callV C hM hk he rfl w2_184 w2_186 w0_5 w1_3 w2_187 (by decide +kernel) (by decide) hdep hn hst hcat hd kk
theorem ca_X4_61 (C : Cx X cc nL RX4 ret d) {k dC : Nat} {fs As rest : List Value} {Qr : Option Value → g_M → g_L → Prop} (hM : mt X.1 yX4_linesBy (Cond.code yX4_linesBy cX4_linesBy 6 (some .long)) dC (.ref (X.1.1 + k) :: As) M L Qr) (hk : k < 168) (he : g_sh X.1 k (M k) (L k) = .inr (4, fs)) (hdep : dC + 1 ≤ d) (hn : As.length = 2) (hst : st = As.reverse ++ .ref (X.1.1 + k) :: rest) (hcat : (rest.map fun v => v.category).sum ≤ 8) (hd : decode cc pc = .ok (.invokevirtual 61, 3)) (kk : ∀ (r : Option Value) (M1 : g_M) (L1 : g_L), Qr r M1 L1 → wx X M1 L1 (pc + 3) lv (r.toList ++ rest)) : wx X M L pc lv st := wx_callV C hM hk he rfl w3_61 w3_63 w0_11 w1_3 w3_64 (by decide +kernel) (by decide) hdep hn hst hcat hd kk
theorem ca_X4_65 (C : Cx X cc nL RX4 ret d) {k dC : Nat} {fs As rest : List Value} {Qr : Option Value → g_M → g_L → Prop} (hM : mt X.1 yX4_isSoundBy (Cond.code yX4_isSoundBy cX4_isSoundBy 4 (some .boolean)) dC (.ref (X.1.1 + k) :: As) M L Qr) (hk : k < 168) (he : g_sh X.1 k (M k) (L k) = .inr (4, fs)) (hdep : dC + 1 ≤ d) (hn : As.length = 2) (hst : st = As.reverse ++ .ref (X.1.1 + k) :: rest) (hcat : (rest.map fun v => v.category).sum ≤ 8) (hd : decode cc pc = .ok (.invokevirtual 65, 3)) (kk : ∀ (r : Option Value) (M1 : g_M) (L1 : g_L), Qr r M1 L1 → wx X M1 L1 (pc + 3) lv (r.toList ++ rest)) : wx X M L pc lv st := wx_callV C hM hk he rfl w2_180 w2_182 w0_4 w1_3 w2_183 (by decide +kernel) (by decide) hdep hn hst hcat hd kk
theorem ca_X4_71 (C : Cx X cc nL RX4 ret d) {k dC : Nat} {fs As rest : List Value} {Qr : Option Value → g_M → g_L → Prop} (hM : mt X.1 yX4_edge (Cond.code yX4_edge cX4_edge 10 (some .long)) dC (.ref (X.1.1 + k) :: As) M L Qr) (hk : k < 168) (he : g_sh X.1 k (M k) (L k) = .inr (4, fs)) (hdep : dC + 1 ≤ d) (hn : As.length = 4) (hst : st = As.reverse ++ .ref (X.1.1 + k) :: rest) (hcat : (rest.map fun v => v.category).sum ≤ 8) (hd : decode cc pc = .ok (.invokevirtual 71, 3)) (kk : ∀ (r : Option Value) (M1 : g_M) (L1 : g_L), Qr r M1 L1 → wx X M1 L1 (pc + 3) lv (r.toList ++ rest)) : wx X M L pc lv st := wx_callV C hM hk he rfl w3_89 w3_72 w3_73 w1_3 w3_74 (by decide +kernel) (by decide) hdep hn hst hcat hd kk
theorem ca_X4_75 (C : Cx X cc nL RX4 ret d) {k dC : Nat} {fs As rest : List Value} {Qr : Option Value → g_M → g_L → Prop} (hM : mt X.1 yX4_isSound (Cond.code yX4_isSound cX4_isSound 2 (some .boolean)) dC (.ref (X.1.1 + k) :: As) M L Qr) (hk : k < 168) (he : g_sh X.1 k (M k) (L k) = .inr (4, fs)) (hdep : dC + 1 ≤ d) (hn : As.length = 1) (hst : st = As.reverse ++ .ref (X.1.1 + k) :: rest) (hcat : (rest.map fun v => v.category).sum ≤ 8) (hd : decode cc pc = .ok (.invokevirtual 75, 3)) (kk : ∀ (r : Option Value) (M1 : g_M) (L1 : g_L), Qr r M1 L1 → wx X M1 L1 (pc + 3) lv (r.toList ++ rest)) : wx X M L pc lv st := wx_callV C hM hk he rfl w3_84 w2_177 w2_178 w1_3 w2_179 (by decide +kernel) (by decide) hdep hn hst hcat hd kk
theorem ca_X4_79 (C : Cx X cc nL RX4 ret d) {k dC : Nat} {fs As rest : List Value} {Qr : Option Value → g_M → g_L → Prop} (hM : mt X.1 yX4_reachesBy (Cond.code yX4_reachesBy cX4_reachesBy 6 (some .boolean)) dC (.ref (X.1.1 + k) :: As) M L Qr) (hk : k < 168) (he : g_sh X.1 k (M k) (L k) = .inr (4, fs)) (hdep : dC + 1 ≤ d) (hn : As.length = 3) (hst : st = As.reverse ++ .ref (X.1.1 + k) :: rest) (hcat : (rest.map fun v => v.category).sum ≤ 8) (hd : decode cc pc = .ok (.invokevirtual 79, 3)) (kk : ∀ (r : Option Value) (M1 : g_M) (L1 : g_L), Qr r M1 L1 → wx X M1 L1 (pc + 3) lv (r.toList ++ rest)) : wx X M L pc lv st := wx_callV C hM hk he rfl w3_85 w3_87 w0_12 w1_3 w3_88 (by decide +kernel) (by decide) hdep hn hst hcat hd kk
theorem ca_X5_47 (C : Cx X cc nL RX5 ret d) {k dC : Nat} {fs As rest : List Value} {Qr : Option Value → g_M → g_L → Prop} (hM : mt X.1 yX5_findBits (Cond.code yX5_findBits cX5_findBits 3 none) dC (.ref (X.1.1 + k) :: As) M L Qr) (hk : k < 168) (he : g_sh X.1 k (M k) (L k) = .inr (5, fs)) (hdep : dC + 1 ≤ d) (hn : As.length = 0) (hst : st = As.reverse ++ .ref (X.1.1 + k) :: rest) (hcat : (rest.map fun v => v.category).sum ≤ 8) (hd : decode cc pc = .ok (.invokevirtual 47, 3)) (kk : ∀ (r : Option Value) (M1 : g_M) (L1 : g_L), Qr r M1 L1 → wx X M1 L1 (pc + 3) lv (r.toList ++ rest)) : wx X M L pc lv st := wx_callV C hM hk he rfl w2_146 w2_148 w0_0 w1_5 w2_149 (by decide +kernel) (by decide) hdep hn hst hcat hd kk
theorem ca_X5_50 (C : Cx X cc nL RX5 ret d) {k dC : Nat} {fs As rest : List Value} {Qr : Option Value → g_M → g_L → Prop} (hM : mt X.1 yX5_findPairs (Cond.code yX5_findPairs cX5_findPairs 3 none) dC (.ref (X.1.1 + k) :: As) M L Qr) (hk : k < 168) (he : g_sh X.1 k (M k) (L k) = .inr (5, fs)) (hdep : dC + 1 ≤ d) (hn : As.length = 0) (hst : st = As.reverse ++ .ref (X.1.1 + k) :: rest) (hcat : (rest.map fun v => v.category).sum ≤ 8) (hd : decode cc pc = .ok (.invokevirtual 50, 3)) (kk : ∀ (r : Option Value) (M1 : g_M) (L1 : g_L), Qr r M1 L1 → wx X M1 L1 (pc + 3) lv (r.toList ++ rest)) : wx X M L pc lv st := wx_callV C hM hk he rfl w2_155 w2_157 w0_2 w1_5 w2_158 (by decide +kernel) (by decide) hdep hn hst hcat hd kk
theorem ca_X5_60 (C : Cx X cc nL RX5 ret d) {k dC : Nat} {fs As rest : List Value} {Qr : Option Value → g_M → g_L → Prop} (hM : mt X.1 yX6_clear (Cond.code yX6_clear cX6_clear 1 none) dC (.ref (X.1.1 + k) :: As) M L Qr) (hk : k < 168) (he : g_sh X.1 k (M k) (L k) = .inr (6, fs)) (hdep : dC + 1 ≤ d) (hn : As.length = 0) (hst : st = As.reverse ++ .ref (X.1.1 + k) :: rest) (hcat : (rest.map fun v => v.category).sum ≤ 8) (hd : decode cc pc = .ok (.invokevirtual 60, 3)) (kk : ∀ (r : Option Value) (M1 : g_M) (L1 : g_L), Qr r M1 L1 → wx X M1 L1 (pc + 3) lv (r.toList ++ rest)) : wx X M L pc lv st := wx_callV C hM hk he rfl w2_163 w2_164 w2_165 w1_6 w2_166 (by decide +kernel) (by decide) hdep hn hst hcat hd kk
theorem ca_X5_63 (C : Cx X cc nL RX5 ret d) {k dC : Nat} {fs As rest : List Value} {Qr : Option Value → g_M → g_L → Prop} (hM : mt X.1 yX6_add (Cond.code yX6_add cX6_add 2 none) dC (.ref (X.1.1 + k) :: As) M L Qr) (hk : k < 168) (he : g_sh X.1 k (M k) (L k) = .inr (6, fs)) (hdep : dC + 1 ≤ d) (hn : As.length = 1) (hst : st = As.reverse ++ .ref (X.1.1 + k) :: rest) (hcat : (rest.map fun v => v.category).sum ≤ 8) (hd : decode cc pc = .ok (.invokevirtual 63, 3)) (kk : ∀ (r : Option Value) (M1 : g_M) (L1 : g_L), Qr r M1 L1 → wx X M1 L1 (pc + 3) lv (r.toList ++ rest)) : wx X M L pc lv st := wx_callV C hM hk he rfl w2_167 w2_168 w2_169 w1_6 w2_170 (by decide +kernel) (by decide) hdep hn hst hcat hd kk
theorem ca_X5_72 (C : Cx X cc nL RX5 ret d) {k dC : Nat} {fs As rest : List Value} {Qr : Option Value → g_M → g_L → Prop} (hM : mt X.1 yX2_isBit (Cond.code yX2_isBit cX2_isBit 4 (some .boolean)) dC (.ref (X.1.1 + k) :: As) M L Qr) (hk : k < 168) (he : g_sh X.1 k (M k) (L k) = .inr (2, fs)) (hdep : dC + 1 ≤ d) (hn : As.length = 2) (hst : st = As.reverse ++ .ref (X.1.1 + k) :: rest) (hcat : (rest.map fun v => v.category).sum ≤ 8) (hd : decode cc pc = .ok (.invokevirtual 72, 3)) (kk : ∀ (r : Option Value) (M1 : g_M) (L1 : g_L), Qr r M1 L1 → wx X M1 L1 (pc + 3) lv (r.toList ++ rest)) : wx X M L pc lv st := wx_callV C hM hk he rfl w2_150 w2_119 w2_120 w1_4 w2_121 (by decide +kernel) (by decide) hdep hn hst hcat hd kk
theorem ca_X5_78 (C : Cx X cc nL RX5 ret d) {k dC : Nat} {fs As rest : List Value} {Qr : Option Value → g_M → g_L → Prop} (hM : mt X.1 yX5_keepBit (Cond.code yX5_keepBit cX5_keepBit 3 none) dC (.ref (X.1.1 + k) :: As) M L Qr) (hk : k < 168) (he : g_sh X.1 k (M k) (L k) = .inr (5, fs)) (hdep : dC + 1 ≤ d) (hn : As.length = 2) (hst : st = As.reverse ++ .ref (X.1.1 + k) :: rest) (hcat : (rest.map fun v => v.category).sum ≤ 8) (hd : decode cc pc = .ok (.invokevirtual 78, 3)) (kk : ∀ (r : Option Value) (M1 : g_M) (L1 : g_L), Qr r M1 L1 → wx X M1 L1 (pc + 3) lv (r.toList ++ rest)) : wx X M L pc lv st := wx_callV C hM hk he rfl w2_151 w2_153 w0_1 w1_5 w2_154 (by decide +kernel) (by decide) hdep hn hst hcat hd kk
theorem ca_X5_82 (C : Cx X cc nL RX5 ret d) {k dC : Nat} {fs As rest : List Value} {Qr : Option Value → g_M → g_L → Prop} (hM : mt X.1 yX5_gather (Cond.code yX5_gather cX5_gather 4 none) dC (.ref (X.1.1 + k) :: As) M L Qr) (hk : k < 168) (he : g_sh X.1 k (M k) (L k) = .inr (5, fs)) (hdep : dC + 1 ≤ d) (hn : As.length = 3) (hst : st = As.reverse ++ .ref (X.1.1 + k) :: rest) (hcat : (rest.map fun v => v.category).sum ≤ 8) (hd : decode cc pc = .ok (.invokevirtual 82, 3)) (kk : ∀ (r : Option Value) (M1 : g_M) (L1 : g_L), Qr r M1 L1 → wx X M1 L1 (pc + 3) lv (r.toList ++ rest)) : wx X M L pc lv st := wx_callV C hM hk he rfl w2_159 w2_160 w2_161 w1_5 w2_162 (by decide +kernel) (by decide) hdep hn hst hcat hd kk
theorem ca_X5_86 (C : Cx X cc nL RX5 ret d) {k dC : Nat} {fs As rest : List Value} {Qr : Option Value → g_M → g_L → Prop} (hM : mt X.1 yX5_areOfUnlikeNights (Cond.code yX5_areOfUnlikeNights cX5_areOfUnlikeNights 3 (some .boolean)) dC (.ref (X.1.1 + k) :: As) M L Qr) (hk : k < 168) (he : g_sh X.1 k (M k) (L k) = .inr (5, fs)) (hdep : dC + 1 ≤ d) (hn : As.length = 2) (hst : st = As.reverse ++ .ref (X.1.1 + k) :: rest) (hcat : (rest.map fun v => v.category).sum ≤ 8) (hd : decode cc pc = .ok (.invokevirtual 86, 3)) (kk : ∀ (r : Option Value) (M1 : g_M) (L1 : g_L), Qr r M1 L1 → wx X M1 L1 (pc + 3) lv (r.toList ++ rest)) : wx X M L pc lv st := wx_callV C hM hk he rfl w2_171 w2_173 w0_3 w1_5 w2_174 (by decide +kernel) (by decide) hdep hn hst hcat hd kk
theorem ca_X5_89 (C : Cx X cc nL RX5 ret d) {k dC : Nat} {fs As rest : List Value} {Qr : Option Value → g_M → g_L → Prop} (hM : mt X.1 yX4_isSound (Cond.code yX4_isSound cX4_isSound 2 (some .boolean)) dC (.ref (X.1.1 + k) :: As) M L Qr) (hk : k < 168) (he : g_sh X.1 k (M k) (L k) = .inr (4, fs)) (hdep : dC + 1 ≤ d) (hn : As.length = 1) (hst : st = As.reverse ++ .ref (X.1.1 + k) :: rest) (hcat : (rest.map fun v => v.category).sum ≤ 8) (hd : decode cc pc = .ok (.invokevirtual 89, 3)) (kk : ∀ (r : Option Value) (M1 : g_M) (L1 : g_L), Qr r M1 L1 → wx X M1 L1 (pc + 3) lv (r.toList ++ rest)) : wx X M L pc lv st := wx_callV C hM hk he rfl w2_176 w2_177 w2_178 w1_3 w2_179 (by decide +kernel) (by decide) hdep hn hst hcat hd kk
theorem ca_X5_95 (C : Cx X cc nL RX5 ret d) {k dC : Nat} {fs As rest : List Value} {Qr : Option Value → g_M → g_L → Prop} (hM : mt X.1 yX5_keepPair (Cond.code yX5_keepPair cX5_keepPair 3 none) dC (.ref (X.1.1 + k) :: As) M L Qr) (hk : k < 168) (he : g_sh X.1 k (M k) (L k) = .inr (5, fs)) (hdep : dC + 1 ≤ d) (hn : As.length = 2) (hst : st = As.reverse ++ .ref (X.1.1 + k) :: rest) (hcat : (rest.map fun v => v.category).sum ≤ 8) (hd : decode cc pc = .ok (.invokevirtual 95, 3)) (kk : ∀ (r : Option Value) (M1 : g_M) (L1 : g_L), Qr r M1 L1 → wx X M1 L1 (pc + 3) lv (r.toList ++ rest)) : wx X M L pc lv st := wx_callV C hM hk he rfl w2_201 w2_203 w0_6 w1_5 w2_204 (by decide +kernel) (by decide) hdep hn hst hcat hd kk
theorem ca_X5_98 (C : Cx X cc nL RX5 ret d) {k dC : Nat} {fs As rest : List Value} {Qr : Option Value → g_M → g_L → Prop} (hM : mt X.1 yX7_nightOf (Cond.code yX7_nightOf cX7_nightOf 2 (some .int)) dC (.ref (X.1.1 + k) :: As) M L Qr) (hk : k < 168) (he : g_sh X.1 k (M k) (L k) = .inr (7, fs)) (hdep : dC + 1 ≤ d) (hn : As.length = 1) (hst : st = As.reverse ++ .ref (X.1.1 + k) :: rest) (hcat : (rest.map fun v => v.category).sum ≤ 8) (hd : decode cc pc = .ok (.invokevirtual 98, 3)) (kk : ∀ (r : Option Value) (M1 : g_M) (L1 : g_L), Qr r M1 L1 → wx X M1 L1 (pc + 3) lv (r.toList ++ rest)) : wx X M L pc lv st := wx_callV C hM hk he rfl w2_175 w2_107 w2_108 w1_2 w2_109 (by decide +kernel) (by decide) hdep hn hst hcat hd kk
theorem ca_X6_19 (C : Cx X cc nL RX6 ret d) {k dC : Nat} {fs As rest : List Value} {Qr : Option Value → g_M → g_L → Prop} (hM : mt X.1 yX6_add (Cond.code yX6_add cX6_add 2 none) dC (.ref (X.1.1 + k) :: As) M L Qr) (hk : k < 168) (he : g_sh X.1 k (M k) (L k) = .inr (6, fs)) (hdep : dC + 1 ≤ d) (hn : As.length = 1) (hst : st = As.reverse ++ .ref (X.1.1 + k) :: rest) (hcat : (rest.map fun v => v.category).sum ≤ 8) (hd : decode cc pc = .ok (.invokevirtual 19, 3)) (kk : ∀ (r : Option Value) (M1 : g_M) (L1 : g_L), Qr r M1 L1 → wx X M1 L1 (pc + 3) lv (r.toList ++ rest)) : wx X M L pc lv st := wx_callV C hM hk he rfl w3_2 w2_168 w2_169 w1_6 w2_170 (by decide +kernel) (by decide) hdep hn hst hcat hd kk
theorem ca_X6_23 (C : Cx X cc nL RX6 ret d) {k dC : Nat} {fs As rest : List Value} {Qr : Option Value → g_M → g_L → Prop} (hM : mt X.1 yX6_clear (Cond.code yX6_clear cX6_clear 1 none) dC (.ref (X.1.1 + k) :: As) M L Qr) (hk : k < 168) (he : g_sh X.1 k (M k) (L k) = .inr (6, fs)) (hdep : dC + 1 ≤ d) (hn : As.length = 0) (hst : st = As.reverse ++ .ref (X.1.1 + k) :: rest) (hcat : (rest.map fun v => v.category).sum ≤ 8) (hd : decode cc pc = .ok (.invokevirtual 23, 3)) (kk : ∀ (r : Option Value) (M1 : g_M) (L1 : g_L), Qr r M1 L1 → wx X M1 L1 (pc + 3) lv (r.toList ++ rest)) : wx X M L pc lv st := wx_callV C hM hk he rfl w2_237 w2_164 w2_165 w1_6 w2_166 (by decide +kernel) (by decide) hdep hn hst hcat hd kk
theorem ca_X6_26 (C : Cx X cc nL RX6 ret d) {k dC : Nat} {fs As rest : List Value} {Qr : Option Value → g_M → g_L → Prop} (hM : mt X.1 yX6_addAll (Cond.code yX6_addAll cX6_addAll 3 none) dC (.ref (X.1.1 + k) :: As) M L Qr) (hk : k < 168) (he : g_sh X.1 k (M k) (L k) = .inr (6, fs)) (hdep : dC + 1 ≤ d) (hn : As.length = 1) (hst : st = As.reverse ++ .ref (X.1.1 + k) :: rest) (hcat : (rest.map fun v => v.category).sum ≤ 8) (hd : decode cc pc = .ok (.invokevirtual 26, 3)) (kk : ∀ (r : Option Value) (M1 : g_M) (L1 : g_L), Qr r M1 L1 → wx X M1 L1 (pc + 3) lv (r.toList ++ rest)) : wx X M L pc lv st := wx_callV C hM hk he rfl w2_238 w2_239 w3_0 w1_6 w3_1 (by decide +kernel) (by decide) hdep hn hst hcat hd kk
theorem ca_X7_31 (C : Cx X cc nL RX7 ret d) {k dC : Nat} {fs As rest : List Value} {Qr : Option Value → g_M → g_L → Prop} (hM : mt X.1 yX7_isFree (Cond.code yX7_isFree cX7_isFree 2 (some .boolean)) dC (.ref (X.1.1 + k) :: As) M L Qr) (hk : k < 168) (he : g_sh X.1 k (M k) (L k) = .inr (7, fs)) (hdep : dC + 1 ≤ d) (hn : As.length = 1) (hst : st = As.reverse ++ .ref (X.1.1 + k) :: rest) (hcat : (rest.map fun v => v.category).sum ≤ 8) (hd : decode cc pc = .ok (.invokevirtual 31, 3)) (kk : ∀ (r : Option Value) (M1 : g_M) (L1 : g_L), Qr r M1 L1 → wx X M1 L1 (pc + 3) lv (r.toList ++ rest)) : wx X M L pc lv st := wx_callV C hM hk he rfl w3_185 w2_123 w2_124 w1_2 w2_125 (by decide +kernel) (by decide) hdep hn hst hcat hd kk
theorem ca_X9_33 (C : Cx X cc nL RX9 ret d) {k dC : Nat} {fs As rest : List Value} {Qr : Option Value → g_M → g_L → Prop} (hM : mt X.1 yX9_has (Cond.code yX9_has cX9_has 2 (some .boolean)) dC (.ref (X.1.1 + k) :: As) M L Qr) (hk : k < 168) (he : g_sh X.1 k (M k) (L k) = .inr (9, fs)) (hdep : dC + 1 ≤ d) (hn : As.length = 1) (hst : st = As.reverse ++ .ref (X.1.1 + k) :: rest) (hcat : (rest.map fun v => v.category).sum ≤ 8) (hd : decode cc pc = .ok (.invokevirtual 33, 3)) (kk : ∀ (r : Option Value) (M1 : g_M) (L1 : g_L), Qr r M1 L1 → wx X M1 L1 (pc + 3) lv (r.toList ++ rest)) : wx X M L pc lv st := wx_callV C hM hk he rfl w3_190 w3_26 w3_27 w1_7 w3_28 (by decide +kernel) (by decide) hdep hn hst hcat hd kk
theorem ca_X9_41 (C : Cx X cc nL RX9 ret d) {k dC : Nat} {fs As rest : List Value} {Qr : Option Value → g_M → g_L → Prop} (hM : mt X.1 yX7_putAll (Cond.code yX7_putAll cX7_putAll 4 none) dC (.ref (X.1.1 + k) :: As) M L Qr) (hk : k < 168) (he : g_sh X.1 k (M k) (L k) = .inr (7, fs)) (hdep : dC + 1 ≤ d) (hn : As.length = 2) (hst : st = As.reverse ++ .ref (X.1.1 + k) :: rest) (hcat : (rest.map fun v => v.category).sum ≤ 8) (hd : decode cc pc = .ok (.invokevirtual 41, 3)) (kk : ∀ (r : Option Value) (M1 : g_M) (L1 : g_L), Qr r M1 L1 → wx X M1 L1 (pc + 3) lv (r.toList ++ rest)) : wx X M L pc lv st := wx_callV C hM hk he rfl w3_8 w3_9 w3_10 w1_2 w3_11 (by decide +kernel) (by decide) hdep hn hst hcat hd kk
theorem ca_X9_47 (C : Cx X cc nL RX9 ret d) {k dC : Nat} {fs As rest : List Value} {Qr : Option Value → g_M → g_L → Prop} (hM : mt X.1 yX6_become (Cond.code yX6_become cX6_become 2 none) dC (.ref (X.1.1 + k) :: As) M L Qr) (hk : k < 168) (he : g_sh X.1 k (M k) (L k) = .inr (6, fs)) (hdep : dC + 1 ≤ d) (hn : As.length = 1) (hst : st = As.reverse ++ .ref (X.1.1 + k) :: rest) (hcat : (rest.map fun v => v.category).sum ≤ 8) (hd : decode cc pc = .ok (.invokevirtual 47, 3)) (kk : ∀ (r : Option Value) (M1 : g_M) (L1 : g_L), Qr r M1 L1 → wx X M1 L1 (pc + 3) lv (r.toList ++ rest)) : wx X M L pc lv st := wx_callV C hM hk he rfl w3_12 w2_234 w2_235 w1_6 w2_236 (by decide +kernel) (by decide) hdep hn hst hcat hd kk
end WF
end
section
/-! ===== numbers and rows ===== -/
theorem wx_sub {X : g_X} {M : g_M} {L : g_L} {pc : Nat} {lv lv' : List (Nat × Value)} {st : List Value} (ks : List Nat) (h : lv_pick lv ks = lv') (k : wx X M L pc lv' st) : wx X M L pc lv st := fun H locs ls hH hS hl => k H locs ls hH hS (lv_sub hl ks h)
def bI (b : Bool) : Int32 := if b then 1 else 0
theorem bI_0 {b : Bool} : bI b = 0 ↔ b = false := by cases b <;> decide
theorem bI_n0 {b : Bool} : ¬ bI b = 0 ↔ b = true := by cases b <;> decide
theorem bI_nar (b : Bool) : narrow .boolean (.int (bI b)) = .int (bI b) := by cases b <;> rfl
theorem i_le (a b : Int32) : a ≤ b ↔ a.toInt ≤ b.toInt := Int32.le_iff_toInt_le
theorem i_lt (a b : Int32) : a < b ↔ a.toInt < b.toInt := Int32.lt_iff_toInt_lt
theorem i_eq (a b : Int32) : a = b ↔ a.toInt = b.toInt := Int32.toInt_inj.symm
theorem j_le (a b : Int64) : a ≤ b ↔ a.toInt ≤ b.toInt := Int64.le_iff_toInt_le
theorem j_lt (a b : Int64) : a < b ↔ a.toInt < b.toInt := Int64.lt_iff_toInt_lt
theorem j_eq (a b : Int64) : a = b ↔ a.toInt = b.toInt := Int64.toInt_inj.symm
theorem nI_inj {a b : Nat} (ha : a < 2 ^ 31) (hb : b < 2 ^ 31) (h : nI a = nI b) : a = b := (nI_eq ha hb).mp h
/-- a row k is told anew: its length, its first entries -/
def g_sr (M : g_M) (k l : Nat) (f : Nat → Int32) : g_M := fun a b => if a = k ∧ b = 1 then nI l else if a = k + 1 ∧ b < l then f b else M a b
theorem g_sr_0 (M : g_M) (k : Nat) (f : Nat → Int32) : g_st M k 1 0 = g_sr M k 0 f := by
  funext a b
  simp only [g_st_ap, g_sr]
  (repeat' split) <;> first | rfl | (exfalso; omega)
theorem g_sr_add (M : g_M) (k l : Nat) (f : Nat → Int32) (x : Int32) : g_st (g_st (g_sr M k l f) (k + 1) l x) k 1 (nI (l + 1)) = g_sr M k (l + 1) (upd f l x) := by
  funext a b
  simp only [g_st_ap, g_sr, upd]
  (repeat' split) <;> first | rfl | (exfalso; omega)
theorem g_sr_cong (M : g_M) (k l : Nat) {f g : Nat → Int32} (h : ∀ i, i < l → f i = g i) : g_sr M k l f = g_sr M k l g := by
  funext a b
  simp only [g_sr]
  (repeat' split) <;> first | rfl | (exfalso; omega) | exact h b (by omega)
theorem g_sr_sr (M : g_M) (k l l2 : Nat) (f g : Nat → Int32) (h : l ≤ l2) : g_sr (g_sr M k l f) k l2 g = g_sr M k l2 g := by
  funext a b
  simp only [g_sr]
  (repeat' split) <;> first | rfl | (exfalso; omega)
theorem g_sr_len (M : g_M) (k l : Nat) (f : Nat → Int32) : g_sr M k l f k 1 = nI l := by simp [g_sr]
theorem g_sr_at (M : g_M) (k l : Nat) (f : Nat → Int32) {i : Nat} (h : i < l) : g_sr M k l f (k + 1) i = f i := by
  unfold g_sr
  rw [if_neg (show ¬ (k + 1 = k ∧ i = 1) by omega), if_pos ⟨rfl, h⟩]
theorem g_sr_out (M : g_M) (k l : Nat) (f : Nat → Int32) {a : Nat} (b : Nat) (h1 : a ≠ k) (h2 : a ≠ k + 1) : g_sr M k l f a b = M a b := by
  simp only [g_sr]
  (repeat' split) <;> first | rfl | (exfalso; omega)
theorem g_row_ne {k j : Nat} (hk : g_row k) (hj : g_row j) : j ≠ k + 1 := by
  rcases hk with rfl | rfl | ⟨p, hp, rfl⟩ | ⟨i, hi, rfl⟩ <;> rcases hj with rfl | rfl | ⟨q, hq, rfl⟩ | ⟨u, hu, rfl⟩ <;> omega
/-! ===== Row ===== -/
set_option maxHeartbeats 4000000 in
set_option maxRecDepth 100000 in
theorem t_X6_clear (G : g_G) (M : g_M) (L : g_L) {k : Nat} (hk : g_row k) : mt G yX6_clear (Cond.code yX6_clear cX6_clear 1 none) 0 [.ref (G.1 + k)] M L (qV fun M' L' => M' = g_st M k 1 0 ∧ L = L') := by
  refine mt_of (by decide) rfl (Nat.le_of_ble_eq_true rfl) [(0, .ref (G.1 + k))] rfl (fun X hG C hQ => ?_)
  subst hG
  refine wx_aload_n C 0 dX6_clear_0 rfl rfl ?_
  refine wx_iconst C 0 dX6_clear_1 (by decide) ?_
  refine pf_X6_15 C hk dX6_clear_2 ?_
  refine wx_vret C hQ dX6_clear_5 ?_
  exact ⟨rfl, rfl, rfl⟩
set_option maxHeartbeats 4000000 in
set_option maxRecDepth 100000 in
theorem t_X6_add (G : g_G) (M : g_M) (L : g_L) {k l : Nat} (hk : g_row k) (hl : M k 1 = nI l) (h16 : l < 16) (x : Int32) : mt G yX6_add (Cond.code yX6_add cX6_add 2 none) 0 [.ref (G.1 + k), .int x] M L (qV fun M' L' => M' = g_st (g_st M (k + 1) l x) k 1 (nI (l + 1)) ∧ L = L') := by
  refine mt_of (by decide) rfl (Nat.le_of_ble_eq_true rfl) [(0, .ref (G.1 + k)), (1, .int x)] rfl (fun X hG C hQ => ?_)
  subst hG
  refine wx_aload_n C 0 dX6_add_0 rfl rfl ?_
  refine gf_X6_15 C hk dX6_add_1 ?_
  refine wx_bipush C 16 dX6_add_4 (by decide) ?_
  refine wx_icmp_ge C 29 dX6_add_6 (by decide) (fun c6 => absurd c6 (by rw [hl]; exact nI_ge h16 (by decide))) (fun c6 => ?_)
  refine wx_aload_n C 0 dX6_add_9 rfl rfl ?_
  refine gf_X6_11 C hk dX6_add_10 ?_
  refine wx_aload_n C 0 dX6_add_13 rfl rfl ?_
  refine gf_X6_15 C hk dX6_add_14 ?_
  refine wx_iload_n C 1 dX6_add_17 rfl rfl ?_
  refine wx_iast C (k + 1) l (g_row_lt2 hk) (sh_rowD hk) (by decide) dX6_add_18 hl h16 ?_
  refine wx_aload_n C 0 dX6_add_19 rfl rfl ?_
  refine wx_dup C dX6_add_20 rfl ?_
  refine gf_X6_15 C hk dX6_add_21 ?_
  refine wx_iconst C 1 dX6_add_24 (by decide) ?_
  refine wx_iadd C dX6_add_25 ?_
  refine pf_X6_15 C hk dX6_add_26 ?_
  refine wx_vret C hQ dX6_add_29 ?_
  refine ⟨rfl, ?_, rfl⟩
  have e : g_st M (k + 1) l x k 1 = nI l := by rw [g_st_ap, if_neg (by omega)]; exact hl
  rw [e, nI_1]
/-- row j behind the first a entries of row k, i of it so far -/
def aa (M : g_M) (k j a i : Nat) : g_M := g_sr M k (a + i) (fun q => if q < a then M (k + 1) q else M (j + 1) (q - a))
theorem aa_len {M : g_M} {k j a i : Nat} (h1 : j ≠ k) (h2 : j ≠ k + 1) : aa M k j a i j 1 = M j 1 := g_sr_out _ _ _ _ _ h1 h2
theorem aa_at {M : g_M} {k j a i q : Nat} (h1 : j + 1 ≠ k) (h2 : j + 1 ≠ k + 1) : aa M k j a i (j + 1) q = M (j + 1) q := g_sr_out _ _ _ _ _ h1 h2
theorem aa_upd {M : g_M} {k j a i : Nat} (h1 : j + 1 ≠ k) (h2 : j + 1 ≠ k + 1) : g_st (g_st (aa M k j a i) (k + 1) (a + i) (aa M k j a i (j + 1) i)) k 1 (nI (a + i + 1)) = aa M k j a (i + 1) := by
  rw [aa_at h1 h2]
  unfold aa
  rw [g_sr_add, show a + (i + 1) = a + i + 1 by omega]
  refine g_sr_cong _ _ _ (fun q hq => ?_)
  simp only [upd]
  by_cases h : q = a + i
  · rw [if_pos h, if_neg (show ¬ q < a by omega), show q - a = i by omega]
  · rw [if_neg h]
theorem aa_0 (M : g_M) (k j a : Nat) (h : M k 1 = nI a) : aa M k j a 0 = M := by
  funext x y
  simp only [aa, g_sr]
  by_cases h1 : x = k ∧ y = 1
  · rw [if_pos h1, h1.1, h1.2, h, Nat.add_zero]
  · rw [if_neg h1]
    by_cases h2 : x = k + 1 ∧ y < a + 0
    · rw [if_pos h2, if_pos (show y < a by omega), h2.1]
    · rw [if_neg h2]
set_option maxHeartbeats 4000000 in
set_option maxRecDepth 100000 in
theorem lp_X6_addAll {X : g_X} {Qr : Option Value → g_M → g_L → Prop} (C : Cx X cX6_addAll 3 RX6 none 1) (hQ : Rx X Qr) {M : g_M} {L : g_L} {k j a b : Nat} (hk : g_row k) (hj : g_row j) (hkj : j ≠ k) (hb : M j 1 = nI b) (h16 : a + b ≤ 16) (hp : Qr none (aa M k j a b) L) : ∀ (n i : Nat), i ≤ b → b < i + n → wx X (aa M k j a i) L 2 [(0, .ref (X.1.1 + k)), (1, .ref (X.1.1 + j)), (2, .int (nI i))] [] := by
  have hkj1 : j ≠ k + 1 := g_row_ne hk hj
  have hkj2 : j + 1 ≠ k := fun h => g_row_ne hj hk h.symm
  have hkj3 : j + 1 ≠ k + 1 := by omega
  intro n
  induction n with
  | zero =>
    intro i h1 h2
    exact absurd h2 (by omega)
  | succ n ih =>
    intro i hi0 hin
    refine wx_iload_n C 2 dX6_addAll_2 rfl rfl ?_
    refine wx_aload_n C 1 dX6_addAll_3 rfl rfl ?_
    refine gf_X6_15 C hj dX6_addAll_4 ?_
    refine wx_icmp_ge C 26 dX6_addAll_7 (by decide) (fun c7 => ?_) (fun c7 => ?_)
    · obtain rfl : i = b := by
        rw [aa_len hkj hkj1, hb] at c7
        exact Nat.le_antisymm hi0 ((nI_leI (by omega) (by omega)).mp c7)
      refine wx_vret C hQ dX6_addAll_26 ?_
      exact hp
    · have hi : i < b := by
        rw [aa_len hkj hkj1, hb] at c7
        exact Nat.lt_of_not_le (fun h => c7 ((nI_leI (by omega) (by omega)).mpr h))
      refine wx_aload_n C 0 dX6_addAll_10 rfl rfl ?_
      refine wx_aload_n C 1 dX6_addAll_11 rfl rfl ?_
      refine gf_X6_11 C hj dX6_addAll_12 ?_
      refine wx_iload_n C 2 dX6_addAll_15 rfl rfl ?_
      refine wx_iald C (j + 1) i (g_row_lt2 hj) (sh_rowD hj) (by decide) dX6_addAll_16 rfl (by omega) ?_
      refine ca_X6_19 C (rest := []) (t_X6_add X.1 (aa M k j a i) L hk (l := a + i) (g_sr_len _ _ _ _) (by omega) _) (g_row_lt1 hk) (sh_row hk _ _) (by decide) rfl rfl (Nat.le_of_ble_eq_true rfl) dX6_addAll_17 (kV fun M17 L17 q17 => ?_)
      obtain ⟨rfl, rfl⟩ := q17
      rw [aa_upd hkj2 hkj3]
      refine wx_iinc C (v := (nI (i + 1))) 2 [1, 2, 0] [(0, .ref (X.1.1 + k)), (1, .ref (X.1.1 + j)), (2, .int (nI (i + 1)))] dX6_addAll_20 rfl (nI_1 _) (by decide) rfl ?_
      refine wx_goto C 2 dX6_addAll_23 (by decide) ?_
      exact ih (i + 1) (by omega) (by omega)
set_option maxHeartbeats 4000000 in
set_option maxRecDepth 100000 in
theorem t_X6_addAll (G : g_G) (M : g_M) (L : g_L) {k j a b : Nat} (hk : g_row k) (hj : g_row j) (hkj : j ≠ k) (ha : M k 1 = nI a) (hb : M j 1 = nI b) (h16 : a + b ≤ 16) : mt G yX6_addAll (Cond.code yX6_addAll cX6_addAll 3 none) 1 [.ref (G.1 + k), .ref (G.1 + j)] M L (qV fun M' L' => M' = aa M k j a b ∧ L = L') := by
  refine mt_of (by decide) rfl (Nat.le_of_ble_eq_true rfl) [(0, .ref (G.1 + k)), (1, .ref (G.1 + j))] rfl (fun X hG C hQ => ?_)
  subst hG
  refine wx_iconst C 0 dX6_addAll_0 (by decide) ?_
  refine wx_istore_n C [1, 2, 0] [(0, .ref (X.1.1 + k)), (1, .ref (X.1.1 + j)), (2, .int 0)] dX6_addAll_1 rfl (by decide) rfl ?_
  have h := lp_X6_addAll C hQ (M := M) (L := L) hk hj hkj hb h16 ⟨rfl, rfl, rfl⟩ (b + 1) 0 (by omega) (by omega)
  rw [aa_0 M k j a ha] at h
  exact h
/-- row k becomes as row j -/
theorem be_eq {M : g_M} {k j b : Nat} (hkj : j ≠ k) (hkj2 : j + 1 ≠ k) : aa (g_st M k 1 0) k j 0 b = g_sr M k b (M (j + 1)) := by
  rw [g_sr_0 M k (M (j + 1))]
  unfold aa
  rw [Nat.zero_add, g_sr_sr _ _ _ _ _ _ (Nat.zero_le _)]
  refine g_sr_cong _ _ _ (fun q hq => ?_)
  rw [if_neg (show ¬ q < 0 by omega), Nat.sub_zero]
  unfold g_sr
  by_cases h : j + 1 = k ∧ q = 1
  · exact absurd h.1 hkj2
  · rw [if_neg h, if_neg (show ¬ (j + 1 = k + 1 ∧ q < 0) by omega)]
set_option maxHeartbeats 4000000 in
set_option maxRecDepth 100000 in
theorem t_X6_become (G : g_G) (M : g_M) (L : g_L) {k j b : Nat} (hk : g_row k) (hj : g_row j) (hkj : j ≠ k) (hb : M j 1 = nI b) (h16 : b ≤ 16) : mt G yX6_become (Cond.code yX6_become cX6_become 2 none) 2 [.ref (G.1 + k), .ref (G.1 + j)] M L (qV fun M' L' => M' = g_sr M k b (M (j + 1)) ∧ L = L') := by
  refine mt_of (by decide) rfl (Nat.le_of_ble_eq_true rfl) [(0, .ref (G.1 + k)), (1, .ref (G.1 + j))] rfl (fun X hG C hQ => ?_)
  subst hG
  refine wx_aload_n C 0 dX6_become_0 rfl rfl ?_
  refine ca_X6_23 C (rest := []) (t_X6_clear X.1 M L hk) (g_row_lt1 hk) (sh_row hk _ _) (by decide) rfl rfl (Nat.le_of_ble_eq_true rfl) dX6_become_1 (kV fun M1 L1 q1 => ?_)
  obtain ⟨rfl, rfl⟩ := q1
  refine wx_aload_n C 0 dX6_become_4 rfl rfl ?_
  refine wx_aload_n C 1 dX6_become_5 rfl rfl ?_
  refine ca_X6_26 C (rest := []) (t_X6_addAll X.1 (g_st M k 1 0) L hk hj hkj (a := 0) (b := b) (by rw [g_st_ap]; simp; rfl) (by rw [g_st_ap, if_neg (by omega)]; exact hb) (by omega)) (g_row_lt1 hk) (sh_row hk _ _) (by decide) rfl rfl (Nat.le_of_ble_eq_true rfl) dX6_become_6 (kV fun M6 L6 q6 => ?_)
  obtain ⟨rfl, rfl⟩ := q6
  refine wx_vret C hQ dX6_become_9 ?_
  exact ⟨rfl, be_eq hkj (fun h => g_row_ne hj hk h.symm), rfl⟩
end
section
/-! ===== Sky ===== -/
theorem in_of {x : Int32} {n : Nat} (hn : n < 2 ^ 31) (h0 : 0 ≤ x) (h : x < nI n) : ∃ d, d < n ∧ x = nI d := by
  rw [i_lt, nI_toInt hn] at h
  have h1 : ¬ x < 0 := by
    rw [i_lt]; rw [i_le] at h0
    omega
  obtain ⟨j, hj, e⟩ := nI_of h1
  subst e
  rw [nI_toInt hj] at h
  exact ⟨j, by omega, rfl⟩
/-- the first i of n with P, from i on -/
def sf (P : Nat → Bool) : Nat → Nat → Int32
  | _, 0 => -1
  | i, n + 1 => if P i then nI i else sf P (i + 1) n
/-- how many below n have P -/
def cn (P : Nat → Bool) : Nat → Nat
  | 0 => 0
  | n + 1 => cn P n + (if P n then 1 else 0)
theorem cn_le (P : Nat → Bool) : ∀ n, cn P n ≤ n
  | 0 => Nat.le_refl 0
  | n + 1 => by
    have h := cn_le P n
    simp only [cn]
    split <;> omega
def plc (x y : Nat → Int32) (ax : Int32) (d : Nat) : Int32 := if ax = 0 then x d else y d
/-- the dots of a row, i of them, are put into a path -/
def pa (M : g_M) (r : Nat → Nat) (v : Int32) : Nat → g_M
  | 0 => M
  | i + 1 => g_st (pa M r v i) 6 (r i) v
theorem pa_out (M : g_M) (r : Nat → Nat) (v : Int32) {a : Nat} (b : Nat) (h : a ≠ 6) : ∀ i, pa M r v i a b = M a b
  | 0 => rfl
  | i + 1 => by
    rw [pa, g_st_ap, if_neg (by omega)]
    exact pa_out M r v b h i
theorem pa_in (M : g_M) (r : Nat → Nat) (v : Int32) {b : Nat} : ∀ i, (∃ q, q < i ∧ r q = b) → pa M r v i 6 b = v
  | 0, h => by obtain ⟨q, hq, -⟩ := h; omega
  | i + 1, h => by
    rw [pa, g_st_ap]
    by_cases e : b = r i
    · rw [if_pos ⟨rfl, e⟩]
    · rw [if_neg (fun q => e q.2)]
      obtain ⟨q, hq, e2⟩ := h
      have : q ≠ i := fun z => e (by rw [← e2, z])
      exact pa_in M r v i ⟨q, by omega, e2⟩
theorem pa_no (M : g_M) (r : Nat → Nat) (v : Int32) {b : Nat} : ∀ i, (∀ q, q < i → r q ≠ b) → pa M r v i 6 b = M 6 b
  | 0, _ => rfl
  | i + 1, h => by
    rw [pa, g_st_ap, if_neg (fun q => h i (by omega) q.2.symm)]
    exact pa_no M r v i (fun q hq => h q (by omega))
set_option maxHeartbeats 4000000 in
set_option maxRecDepth 100000 in
theorem t_X7_has (G : g_G) (M : g_M) (L : g_L) (x : Int32) : mt G yX7_has (Cond.code yX7_has cX7_has 2 (some .boolean)) 0 [.ref (G.1 + 1), .int x] M L (qI fun v M' L' => v = bI (decide (0 ≤ x ∧ x < M 1 5)) ∧ M = M' ∧ L = L') := by
  refine mt_of (by decide) rfl (Nat.le_of_ble_eq_true rfl) [(0, .ref (G.1 + 1)), (1, .int x)] rfl (fun X hG C hQ => ?_)
  subst hG
  refine wx_iload_n C 1 dX7_has_0 rfl rfl ?_
  refine wx_if_lt C 16 dX7_has_1 (by decide) (fun c1 => ?_) (fun c1 => ?_)
  · refine wx_iconst C 0 dX7_has_16 (by decide) ?_
    refine wx_zret C hQ dX7_has_17 (by decide) ?_
    refine ⟨_, rfl, ?_, rfl, rfl⟩
    rw [decide_eq_false]
    · rfl
    · intro h
      first | exact c9 (Int32.not_le.mpr h.2) | (exact absurd c9 (Int32.not_le.mpr h.2)) | (exact absurd c1 (Int32.not_lt.mpr h.1))
  · refine wx_iload_n C 1 dX7_has_4 rfl rfl ?_
    refine wx_aload_n C 0 dX7_has_5 rfl rfl ?_
    refine gf_X7_27 C dX7_has_6 ?_
    refine wx_icmp_ge C 16 dX7_has_9 (by decide) (fun c9 => ?_) (fun c9 => ?_)
    · refine wx_iconst C 0 dX7_has_16 (by decide) ?_
      refine wx_zret C hQ dX7_has_17 (by decide) ?_
      refine ⟨_, rfl, ?_, rfl, rfl⟩
      rw [decide_eq_false]
      · rfl
      · intro h
        first | exact c9 (Int32.not_le.mpr h.2) | (exact absurd c9 (Int32.not_le.mpr h.2)) | (exact absurd c1 (Int32.not_lt.mpr h.1))
    · refine wx_iconst C 1 dX7_has_12 (by decide) ?_
      refine wx_goto C 17 dX7_has_13 (by decide) ?_
      refine wx_zret C hQ dX7_has_17 (by decide) ?_
      refine ⟨_, rfl, ?_, rfl, rfl⟩
      rw [decide_eq_true]
      · rfl
      · exact ⟨Int32.not_lt.mp c1, Int32.not_le.mp c9⟩
set_option maxHeartbeats 4000000 in
set_option maxRecDepth 100000 in
theorem t_X7_isFree (G : g_G) (M : g_M) (L : g_L) {x : Int32} {e : Nat} (hx : x = nI e) (he : e < 60) : mt G yX7_isFree (Cond.code yX7_isFree cX7_isFree 2 (some .boolean)) 0 [.ref (G.1 + 1), .int x] M L (qI fun v M' L' => v = bI (decide (M 6 e = -1)) ∧ M = M' ∧ L = L') := by
  refine mt_of (by decide) rfl (Nat.le_of_ble_eq_true rfl) [(0, .ref (G.1 + 1)), (1, .int x)] rfl (fun X hG C hQ => ?_)
  subst hG
  refine wx_aload_n C 0 dX7_isFree_0 rfl rfl ?_
  refine gf_X7_24 C dX7_isFree_1 ?_
  refine wx_iload_n C 1 dX7_isFree_4 rfl rfl ?_
  refine wx_iald C 6 e (by decide) (fun _ _ => rfl) (by decide) dX7_isFree_5 hx he ?_
  refine wx_iconst C (-1) dX7_isFree_6 (by decide) ?_
  refine wx_icmp_ne C 14 dX7_isFree_7 (by decide) (fun c7 => ?_) (fun c7 => ?_)
  · refine wx_iconst C 0 dX7_isFree_14 (by decide) ?_
    refine wx_zret C hQ dX7_isFree_15 (by decide) ?_
    refine ⟨_, rfl, ?_, rfl, rfl⟩
    rw [decide_eq_false]
    · rfl
    · exact c7
  · refine wx_iconst C 1 dX7_isFree_10 (by decide) ?_
    refine wx_goto C 15 dX7_isFree_11 (by decide) ?_
    refine wx_zret C hQ dX7_isFree_15 (by decide) ?_
    refine ⟨_, rfl, ?_, rfl, rfl⟩
    rw [decide_eq_true]
    · rfl
    · exact c7
set_option maxHeartbeats 4000000 in
set_option maxRecDepth 100000 in
theorem t_X7_nightOf (G : g_G) (M : g_M) (L : g_L) {x : Int32} {e : Nat} (hx : x = nI e) (he : e < 60) : mt G yX7_nightOf (Cond.code yX7_nightOf cX7_nightOf 2 (some .int)) 0 [.ref (G.1 + 1), .int x] M L (qI fun v M' L' => v = M 2 e / 24 ∧ M = M' ∧ L = L') := by
  refine mt_of (by decide) rfl (Nat.le_of_ble_eq_true rfl) [(0, .ref (G.1 + 1)), (1, .int x)] rfl (fun X hG C hQ => ?_)
  subst hG
  refine wx_aload_n C 0 dX7_nightOf_0 rfl rfl ?_
  refine gf_X7_9 C dX7_nightOf_1 ?_
  refine wx_iload_n C 1 dX7_nightOf_4 rfl rfl ?_
  refine wx_iald C 2 e (by decide) (fun _ _ => rfl) (by decide) dX7_nightOf_5 hx he ?_
  refine wx_bipush C 24 dX7_nightOf_6 (by decide) ?_
  refine wx_idiv C dX7_nightOf_8 (by decide) ?_
  refine wx_iret C hQ dX7_nightOf_9 ?_
  exact ⟨_, rfl, rfl, rfl, rfl⟩
set_option maxHeartbeats 4000000 in
set_option maxRecDepth 100000 in
theorem t_X7_placeOf (G : g_G) (M : g_M) (L : g_L) {x : Int32} {e : Nat} (hx : x = nI e) (he : e < 60) (ax : Int32) : mt G yX7_placeOf (Cond.code yX7_placeOf cX7_placeOf 3 (some .int)) 0 [.ref (G.1 + 1), .int x, .int ax] M L (qI fun v M' L' => v = plc (M 3) (M 4) ax e ∧ M = M' ∧ L = L') := by
  refine mt_of (by decide) rfl (Nat.le_of_ble_eq_true rfl) [(0, .ref (G.1 + 1)), (1, .int x), (2, .int ax)] rfl (fun X hG C hQ => ?_)
  subst hG
  refine wx_iload_n C 2 dX7_placeOf_0 rfl rfl ?_
  refine wx_if_ne C 13 dX7_placeOf_1 (by decide) (fun c1 => ?_) (fun c1 => ?_)
  · refine wx_aload_n C 0 dX7_placeOf_13 rfl rfl ?_
    refine gf_X7_18 C dX7_placeOf_14 ?_
    refine wx_iload_n C 1 dX7_placeOf_17 rfl rfl ?_
    refine wx_iald C 4 e (by decide) (fun _ _ => rfl) (by decide) dX7_placeOf_18 hx he ?_
    refine wx_iret C hQ dX7_placeOf_19 ?_
    exact ⟨_, rfl, by simp only [plc]; first | rw [if_pos c1] | rw [if_neg c1], rfl, rfl⟩
  · refine wx_aload_n C 0 dX7_placeOf_4 rfl rfl ?_
    refine gf_X7_15 C dX7_placeOf_5 ?_
    refine wx_iload_n C 1 dX7_placeOf_8 rfl rfl ?_
    refine wx_iald C 3 e (by decide) (fun _ _ => rfl) (by decide) dX7_placeOf_9 hx he ?_
    refine wx_goto C 19 dX7_placeOf_10 (by decide) ?_
    refine wx_iret C hQ dX7_placeOf_19 ?_
    exact ⟨_, rfl, by simp only [plc]; first | rw [if_pos c1] | rw [if_neg c1], rfl, rfl⟩
set_option maxHeartbeats 4000000 in
set_option maxRecDepth 100000 in
theorem lp_X7_find {X : g_X} {Qr : Option Value → g_M → g_L → Prop} (C : Cx X cX7_find 5 RX7 (some .int) 0) (hQ : Rx X Qr) {M : g_M} {L : g_L} {h x y : Int32} {b : Nat} (hb : M 1 5 = nI b) (h60 : b ≤ 60) : ∀ (n i : Nat), i ≤ b → b < i + n → Qr (some (.int (sf (fun e => decide (M 2 e = h ∧ M 3 e = x ∧ M 4 e = y)) i (b - i)))) M L → wx X M L 3 [(0, .ref (X.1.1 + 1)), (1, .int h), (2, .int x), (3, .int y), (4, .int (nI i))] [] := by
  intro n
  induction n with
  | zero =>
    intro i h1 h2
    exact absurd h2 (by omega)
  | succ n ih =>
    intro i hi0 hin hp
    refine wx_iload C 4 dX7_find_3 rfl ?_
    refine wx_aload_n C 0 dX7_find_5 rfl rfl ?_
    refine gf_X7_27 C dX7_find_6 ?_
    refine wx_icmp_ge C 54 dX7_find_9 (by decide) (fun c9 => ?_) (fun c9 => ?_)
    · obtain rfl : i = b := by
        rw [hb] at c9
        exact Nat.le_antisymm hi0 ((nI_leI (by omega) (by omega)).mp c9)
      refine wx_iconst C (-1) dX7_find_54 (by decide) ?_
      refine wx_iret C hQ dX7_find_55 ?_
      rw [Nat.sub_self] at hp
      exact hp
    · have hi : i < b := by
        rw [hb] at c9
        exact Nat.lt_of_not_le (fun h => c9 ((nI_leI (by omega) (by omega)).mpr h))
      refine wx_aload_n C 0 dX7_find_12 rfl rfl ?_
      refine gf_X7_9 C dX7_find_13 ?_
      refine wx_iload C 4 dX7_find_16 rfl ?_
      refine wx_iald C 2 i (by decide) (fun _ _ => rfl) (by decide) dX7_find_18 rfl (by omega) ?_
      refine wx_iload_n C 1 dX7_find_19 rfl rfl ?_
      refine wx_icmp_ne C 48 dX7_find_20 (by decide) (fun c20 => ?_) (fun c20 => ?_)
      · refine wx_iinc C (v := (nI (i + 1))) 4 [1, 2, 3, 4, 0] [(0, .ref (X.1.1 + 1)), (1, .int h), (2, .int x), (3, .int y), (4, .int (nI (i + 1)))] dX7_find_48 rfl (nI_1 _) (by decide) rfl ?_
        refine wx_goto C 3 dX7_find_51 (by decide) ?_
        refine ih (i + 1) (by omega) (by omega) ?_
        rw [show b - i = (b - (i + 1)) + 1 by omega, sf, if_neg (by simp; intros; first | contradiction | (simp_all; done))] at hp
        exact hp
      · refine wx_aload_n C 0 dX7_find_23 rfl rfl ?_
        refine gf_X7_15 C dX7_find_24 ?_
        refine wx_iload C 4 dX7_find_27 rfl ?_
        refine wx_iald C 3 i (by decide) (fun _ _ => rfl) (by decide) dX7_find_29 rfl (by omega) ?_
        refine wx_iload_n C 2 dX7_find_30 rfl rfl ?_
        refine wx_icmp_ne C 48 dX7_find_31 (by decide) (fun c31 => ?_) (fun c31 => ?_)
        · refine wx_iinc C (v := (nI (i + 1))) 4 [1, 2, 3, 4, 0] [(0, .ref (X.1.1 + 1)), (1, .int h), (2, .int x), (3, .int y), (4, .int (nI (i + 1)))] dX7_find_48 rfl (nI_1 _) (by decide) rfl ?_
          refine wx_goto C 3 dX7_find_51 (by decide) ?_
          refine ih (i + 1) (by omega) (by omega) ?_
          rw [show b - i = (b - (i + 1)) + 1 by omega, sf, if_neg (by simp; intros; first | contradiction | (simp_all; done))] at hp
          exact hp
        · refine wx_aload_n C 0 dX7_find_34 rfl rfl ?_
          refine gf_X7_18 C dX7_find_35 ?_
          refine wx_iload C 4 dX7_find_38 rfl ?_
          refine wx_iald C 4 i (by decide) (fun _ _ => rfl) (by decide) dX7_find_40 rfl (by omega) ?_
          refine wx_iload_n C 3 dX7_find_41 rfl rfl ?_
          refine wx_icmp_ne C 48 dX7_find_42 (by decide) (fun c42 => ?_) (fun c42 => ?_)
          · refine wx_iinc C (v := (nI (i + 1))) 4 [1, 2, 3, 4, 0] [(0, .ref (X.1.1 + 1)), (1, .int h), (2, .int x), (3, .int y), (4, .int (nI (i + 1)))] dX7_find_48 rfl (nI_1 _) (by decide) rfl ?_
            refine wx_goto C 3 dX7_find_51 (by decide) ?_
            refine ih (i + 1) (by omega) (by omega) ?_
            rw [show b - i = (b - (i + 1)) + 1 by omega, sf, if_neg (by simp; intros; first | contradiction | (simp_all; done))] at hp
            exact hp
          · refine wx_iload C 4 dX7_find_45 rfl ?_
            refine wx_iret C hQ dX7_find_47 ?_
            rw [show b - i = (b - (i + 1)) + 1 by omega, sf, if_pos (by simp only [decide_eq_true_eq]; exact ⟨c20, c31, c42⟩)] at hp
            exact hp
set_option maxHeartbeats 4000000 in
set_option maxRecDepth 100000 in
theorem t_X7_find (G : g_G) (M : g_M) (L : g_L) (h x y : Int32) {b : Nat} (hb : M 1 5 = nI b) (h60 : b ≤ 60) : mt G yX7_find (Cond.code yX7_find cX7_find 5 (some .int)) 0 [.ref (G.1 + 1), .int h, .int x, .int y] M L (qI fun v M' L' => v = sf (fun e => decide (M 2 e = h ∧ M 3 e = x ∧ M 4 e = y)) 0 b ∧ M = M' ∧ L = L') := by
  refine mt_of (by decide) rfl (Nat.le_of_ble_eq_true rfl) [(0, .ref (G.1 + 1)), (1, .int h), (2, .int x), (3, .int y)] rfl (fun X hG C hQ => ?_)
  subst hG
  refine wx_iconst C 0 dX7_find_0 (by decide) ?_
  refine wx_istore C [1, 2, 3, 4, 0] [(0, .ref (X.1.1 + 1)), (1, .int h), (2, .int x), (3, .int y), (4, .int 0)] dX7_find_1 (by decide) rfl ?_
  exact lp_X7_find C hQ hb h60 (b + 1) 0 (by omega) (by omega) ⟨_, rfl, rfl, rfl, rfl⟩
/-- a dot more -/
def sk_add (M : g_M) (n : Nat) (h x y w : Int32) : g_M := g_st (g_st (g_st (g_st (g_st (g_st M 2 n h) 3 n x) 4 n y) 5 n w) 6 n (-1)) 1 5 (nI (n + 1))
set_option maxHeartbeats 4000000 in
set_option maxRecDepth 100000 in
theorem t_X7_add (G : g_G) (M : g_M) (L : g_L) (h x y w : Int32) {n : Nat} (hn : M 1 5 = nI n) (h60 : n ≤ 60) : mt G yX7_add (Cond.code yX7_add cX7_add 6 (some .int)) 0 [.ref (G.1 + 1), .int h, .int x, .int y, .int w] M L (qI fun v M' L' => (n = 60 ∧ v = -4 ∧ M = M' ∨ n < 60 ∧ v = nI n ∧ M' = sk_add M n h x y w) ∧ L = L') := by
  refine mt_of (by decide) rfl (Nat.le_of_ble_eq_true rfl) [(0, .ref (G.1 + 1)), (1, .int h), (2, .int x), (3, .int y), (4, .int w)] rfl (fun X hG C hQ => ?_)
  subst hG
  refine wx_aload_n C 0 dX7_add_0 rfl rfl ?_
  refine gf_X7_27 C dX7_add_1 ?_
  refine wx_bipush C 60 dX7_add_4 (by decide) ?_
  refine wx_icmp_lt C 12 dX7_add_6 (by decide) (fun c6 => ?_) (fun c6 => ?_)
  · have hlt : n < 60 := by
      rw [hn] at c6
      exact (nI_ltI (by omega) (by omega)).mp c6
    refine wx_aload_n C 0 dX7_add_12 rfl rfl ?_
    refine gf_X7_27 C dX7_add_13 ?_
    refine wx_istore C [1, 2, 3, 4, 5, 0] [(0, .ref (X.1.1 + 1)), (1, .int h), (2, .int x), (3, .int y), (4, .int w), (5, .int (M 1 5))] dX7_add_16 (by decide) rfl ?_
    refine wx_aload_n C 0 dX7_add_18 rfl rfl ?_
    refine gf_X7_9 C dX7_add_19 ?_
    refine wx_iload C 5 dX7_add_22 rfl ?_
    refine wx_iload_n C 1 dX7_add_24 rfl rfl ?_
    refine wx_iast C 2 n (by decide) (fun _ _ => rfl) (by decide) dX7_add_25 hn hlt ?_
    refine wx_aload_n C 0 dX7_add_26 rfl rfl ?_
    refine gf_X7_15 C dX7_add_27 ?_
    refine wx_iload C 5 dX7_add_30 rfl ?_
    refine wx_iload_n C 2 dX7_add_32 rfl rfl ?_
    refine wx_iast C 3 n (by decide) (fun _ _ => rfl) (by decide) dX7_add_33 hn hlt ?_
    refine wx_aload_n C 0 dX7_add_34 rfl rfl ?_
    refine gf_X7_18 C dX7_add_35 ?_
    refine wx_iload C 5 dX7_add_38 rfl ?_
    refine wx_iload_n C 3 dX7_add_40 rfl rfl ?_
    refine wx_iast C 4 n (by decide) (fun _ _ => rfl) (by decide) dX7_add_41 hn hlt ?_
    refine wx_aload_n C 0 dX7_add_42 rfl rfl ?_
    refine gf_X7_21 C dX7_add_43 ?_
    refine wx_iload C 5 dX7_add_46 rfl ?_
    refine wx_iload C 4 dX7_add_48 rfl ?_
    refine wx_iast C 5 n (by decide) (fun _ _ => rfl) (by decide) dX7_add_50 hn hlt ?_
    refine wx_aload_n C 0 dX7_add_51 rfl rfl ?_
    refine gf_X7_24 C dX7_add_52 ?_
    refine wx_iload C 5 dX7_add_55 rfl ?_
    refine wx_iconst C (-1) dX7_add_57 (by decide) ?_
    refine wx_iast C 6 n (by decide) (fun _ _ => rfl) (by decide) dX7_add_58 hn hlt ?_
    refine wx_aload_n C 0 dX7_add_59 rfl rfl ?_
    refine wx_dup C dX7_add_60 rfl ?_
    refine gf_X7_27 C dX7_add_61 ?_
    refine wx_iconst C 1 dX7_add_64 (by decide) ?_
    refine wx_iadd C dX7_add_65 ?_
    refine pf_X7_27 C dX7_add_66 ?_
    refine wx_iload C 5 dX7_add_69 rfl ?_
    refine wx_iret C hQ dX7_add_71 ?_
    refine ⟨_, rfl, Or.inr ⟨hlt, hn, ?_⟩, rfl⟩
    unfold sk_add
    congr 1
    simp only [g_st_ap]
    simp only [show ¬ (1 = 6) by decide, show ¬ (1 = 5) by decide, show ¬ (1 = 4) by decide, show ¬ (1 = 3) by decide, show ¬ (1 = 2) by decide, false_and, if_false]
    rw [hn, nI_1]
  · refine wx_bipush C (-4) dX7_add_9 (by decide) ?_
    refine wx_iret C hQ dX7_add_11 ?_
    refine ⟨_, rfl, Or.inl ⟨?_, rfl, rfl⟩, rfl⟩
    rw [hn] at c6
    exact Nat.le_antisymm h60 (Nat.le_of_not_lt (fun h => c6 ((nI_ltI (a := n) (b := 60) (by omega) (by decide)).mpr h)))
set_option maxHeartbeats 4000000 in
set_option maxRecDepth 100000 in
theorem lp_X7_freeOnes {X : g_X} {Qr : Option Value → g_M → g_L → Prop} (C : Cx X cX7_freeOnes 3 RX7 (some .int) 1) (hQ : Rx X Qr) {M : g_M} {L : g_L} {b : Nat} (hb : M 1 5 = nI b) (h60 : b ≤ 60) (hp : Qr (some (.int (nI (cn (fun e => decide (M 6 e = -1)) b)))) M L) : ∀ (n i : Nat), i ≤ b → b < i + n → wx X M L 4 [(0, .ref (X.1.1 + 1)), (1, .int (nI (cn (fun e => decide (M 6 e = -1)) i))), (2, .int (nI i))] [] := by
  intro n
  induction n with
  | zero =>
    intro i h1 h2
    exact absurd h2 (by omega)
  | succ n ih =>
    intro i hi0 hin
    refine wx_iload_n C 2 dX7_freeOnes_4 rfl rfl ?_
    refine wx_aload_n C 0 dX7_freeOnes_5 rfl rfl ?_
    refine gf_X7_27 C dX7_freeOnes_6 ?_
    refine wx_icmp_ge C 29 dX7_freeOnes_9 (by decide) (fun c9 => ?_) (fun c9 => ?_)
    · obtain rfl : i = b := by
        rw [hb] at c9
        exact Nat.le_antisymm hi0 ((nI_leI (by omega) (by omega)).mp c9)
      refine wx_iload_n C 1 dX7_freeOnes_29 rfl rfl ?_
      refine wx_iret C hQ dX7_freeOnes_30 ?_
      exact hp
    · have hi : i < b := by
        rw [hb] at c9
        exact Nat.lt_of_not_le (fun h => c9 ((nI_leI (by omega) (by omega)).mpr h))
      refine wx_aload_n C 0 dX7_freeOnes_12 rfl rfl ?_
      refine wx_iload_n C 2 dX7_freeOnes_13 rfl rfl ?_
      refine ca_X7_31 C (rest := []) (t_X7_isFree X.1 M L (e := i) rfl (by omega)) (by decide) rfl (by decide) rfl rfl (Nat.le_of_ble_eq_true rfl) dX7_freeOnes_14 (kI fun r14 M14 L14 q14 => ?_)
      obtain ⟨rfl, rfl, rfl⟩ := q14
      refine wx_if_eq C 23 dX7_freeOnes_17 (by decide) (fun c17 => ?_) (fun c17 => ?_)
      · refine wx_iinc C (v := (nI (i + 1))) 2 [1, 2, 0] [(0, .ref (X.1.1 + 1)), (1, .int (nI (cn (fun e => decide (M 6 e = -1)) i))), (2, .int (nI (i + 1)))] dX7_freeOnes_23 rfl (nI_1 _) (by decide) rfl ?_
        refine wx_goto C 4 dX7_freeOnes_26 (by decide) ?_
        have h := ih (i + 1) (by omega) (by omega)
        simp only [cn] at h
        rw [if_neg (by rw [bI_0] at c17; simpa using c17)] at h
        exact h
      · refine wx_iinc C (v := (nI ((cn (fun e => decide (M 6 e = -1)) i) + 1))) 1 [1, 0, 2] [(0, .ref (X.1.1 + 1)), (1, .int (nI ((cn (fun e => decide (M 6 e = -1)) i) + 1))), (2, .int (nI i))] dX7_freeOnes_20 rfl (nI_1 _) (by decide) rfl ?_
        refine wx_iinc C (v := (nI (i + 1))) 2 [1, 2, 0] [(0, .ref (X.1.1 + 1)), (1, .int (nI ((cn (fun e => decide (M 6 e = -1)) i) + 1))), (2, .int (nI (i + 1)))] dX7_freeOnes_23 rfl (nI_1 _) (by decide) rfl ?_
        refine wx_goto C 4 dX7_freeOnes_26 (by decide) ?_
        have h := ih (i + 1) (by omega) (by omega)
        simp only [cn] at h
        rw [if_pos (by rw [bI_n0] at c17; simpa using c17)] at h
        exact h
set_option maxHeartbeats 4000000 in
set_option maxRecDepth 100000 in
theorem t_X7_freeOnes (G : g_G) (M : g_M) (L : g_L) {b : Nat} (hb : M 1 5 = nI b) (h60 : b ≤ 60) : mt G yX7_freeOnes (Cond.code yX7_freeOnes cX7_freeOnes 3 (some .int)) 1 [.ref (G.1 + 1)] M L (qI fun v M' L' => v = nI (cn (fun e => decide (M 6 e = -1)) b) ∧ M = M' ∧ L = L') := by
  refine mt_of (by decide) rfl (Nat.le_of_ble_eq_true rfl) [(0, .ref (G.1 + 1))] rfl (fun X hG C hQ => ?_)
  subst hG
  refine wx_iconst C 0 dX7_freeOnes_0 (by decide) ?_
  refine wx_istore_n C [1, 0] [(0, .ref (X.1.1 + 1)), (1, .int 0)] dX7_freeOnes_1 rfl (by decide) rfl ?_
  refine wx_iconst C 0 dX7_freeOnes_2 (by decide) ?_
  refine wx_istore_n C [1, 2, 0] [(0, .ref (X.1.1 + 1)), (1, .int 0), (2, .int 0)] dX7_freeOnes_3 rfl (by decide) rfl ?_
  exact lp_X7_freeOnes C hQ hb h60 ⟨_, rfl, rfl, rfl, rfl⟩ (b + 1) 0 (by omega) (by omega)
theorem g_row_6 {j : Nat} (h : g_row j) : j ≠ 6 ∧ j + 1 ≠ 6 := by
  rcases h with rfl | rfl | ⟨p, hp, rfl⟩ | ⟨i, hi, rfl⟩ <;> omega
set_option maxHeartbeats 4000000 in
set_option maxRecDepth 100000 in
theorem lp_X7_putAll {X : g_X} {Qr : Option Value → g_M → g_L → Prop} (C : Cx X cX7_putAll 4 RX7 none 0) (hQ : Rx X Qr) {M : g_M} {L : g_L} {v : Int32} {j b : Nat} {r : Nat → Nat} (hj : g_row j) (hb : M j 1 = nI b) (h16 : b ≤ 16) (hr : ∀ i, i < b → M (j + 1) i = nI (r i) ∧ r i < 60) (hp : Qr none (pa M r v b) L) : ∀ (n i : Nat), i ≤ b → b < i + n → wx X (pa M r v i) L 2 [(0, .ref (X.1.1 + 1)), (1, .ref (X.1.1 + j)), (2, .int v), (3, .int (nI i))] [] := by
  have hj6 := g_row_6 hj
  intro n
  induction n with
  | zero =>
    intro i h1 h2
    exact absurd h2 (by omega)
  | succ n ih =>
    intro i hi0 hin
    refine wx_iload_n C 3 dX7_putAll_2 rfl rfl ?_
    refine wx_aload_n C 1 dX7_putAll_3 rfl rfl ?_
    refine gf_X7_35 C hj dX7_putAll_4 ?_
    refine wx_icmp_ge C 28 dX7_putAll_7 (by decide) (fun c7 => ?_) (fun c7 => ?_)
    · obtain rfl : i = b := by
        rw [pa_out _ _ _ _ hj6.1, hb] at c7
        exact Nat.le_antisymm hi0 ((nI_leI (by omega) (by omega)).mp c7)
      refine wx_vret C hQ dX7_putAll_28 ?_
      exact hp
    · have hi : i < b := by
        rw [pa_out _ _ _ _ hj6.1, hb] at c7
        exact Nat.lt_of_not_le (fun h => c7 ((nI_leI (by omega) (by omega)).mpr h))
      refine wx_aload_n C 0 dX7_putAll_10 rfl rfl ?_
      refine gf_X7_24 C dX7_putAll_11 ?_
      refine wx_aload_n C 1 dX7_putAll_14 rfl rfl ?_
      refine gf_X7_40 C hj dX7_putAll_15 ?_
      refine wx_iload_n C 3 dX7_putAll_18 rfl rfl ?_
      refine wx_iald C (j + 1) i (g_row_lt2 hj) (sh_rowD hj) (by decide) dX7_putAll_19 rfl (by omega) ?_
      refine wx_iload_n C 2 dX7_putAll_20 rfl rfl ?_
      refine wx_iast C 6 (r i) (by decide) (fun _ _ => rfl) (by decide) dX7_putAll_21 (by rw [pa_out _ _ _ _ hj6.2]; exact (hr i hi).1) (hr i hi).2 ?_
      refine wx_iinc C (v := (nI (i + 1))) 3 [1, 2, 3, 0] [(0, .ref (X.1.1 + 1)), (1, .ref (X.1.1 + j)), (2, .int v), (3, .int (nI (i + 1)))] dX7_putAll_22 rfl (nI_1 _) (by decide) rfl ?_
      refine wx_goto C 2 dX7_putAll_25 (by decide) ?_
      exact ih (i + 1) (by omega) (by omega)
set_option maxHeartbeats 4000000 in
set_option maxRecDepth 100000 in
theorem t_X7_putAll (G : g_G) (M : g_M) (L : g_L) (v : Int32) {j b : Nat} (r : Nat → Nat) (hj : g_row j) (hb : M j 1 = nI b) (h16 : b ≤ 16) (hr : ∀ i, i < b → M (j + 1) i = nI (r i) ∧ r i < 60) : mt G yX7_putAll (Cond.code yX7_putAll cX7_putAll 4 none) 0 [.ref (G.1 + 1), .ref (G.1 + j), .int v] M L (qV fun M' L' => M' = pa M r v b ∧ L = L') := by
  refine mt_of (by decide) rfl (Nat.le_of_ble_eq_true rfl) [(0, .ref (G.1 + 1)), (1, .ref (G.1 + j)), (2, .int v)] rfl (fun X hG C hQ => ?_)
  subst hG
  refine wx_iconst C 0 dX7_putAll_0 (by decide) ?_
  refine wx_istore_n C [1, 2, 3, 0] [(0, .ref (X.1.1 + 1)), (1, .ref (X.1.1 + j)), (2, .int v), (3, .int 0)] dX7_putAll_1 rfl (by decide) rfl ?_
  exact lp_X7_putAll C hQ hj hb h16 hr ⟨rfl, rfl, rfl⟩ (b + 1) 0 (by omega) (by omega)
end
section
/-! ===== BitList ===== -/
def ab (z : Int32) : Int32 := if 0 ≤ z then z else 0 - z
def bitP (t x y o : Nat → Int32) (pc : Int32) (a b : Nat) : Bool := decide (0 < t b - t a ∧ o a = -1 ∧ o b = -1 ∧ t a / 24 = t b / 24 ∧ ab (x b - x a) ≤ pc * (t b - t a) ∧ ab (y b - y a) ≤ pc * (t b - t a))
def cB (M : g_M) : Nat → Nat → Bool := bitP (M 2) (M 3) (M 4) (M 6) (M 8 1)
/-- the bits with the first dot a, the second below b; all with the first below a -/
def rowl (P : Nat → Nat → Bool) (a : Nat) : Nat → List (Nat × Nat)
  | 0 => []
  | b + 1 => rowl P a b ++ (if P a b then [(a, b)] else [])
def bl (P : Nat → Nat → Bool) (n : Nat) : Nat → List (Nat × Nat)
  | 0 => []
  | a + 1 => bl P n a ++ rowl P a n
theorem rowl_le (P : Nat → Nat → Bool) (a : Nat) : ∀ b, (rowl P a b).length ≤ b
  | 0 => Nat.le_refl 0
  | b + 1 => by
    have h := rowl_le P a b
    simp only [rowl, List.length_append]
    split <;> simp <;> omega
theorem bl_le (P : Nat → Nat → Bool) (n : Nat) : ∀ a, (bl P n a).length ≤ a * n
  | 0 => by simp [bl]
  | a + 1 => by
    have h := bl_le P n a
    have h2 := rowl_le P a n
    simp only [bl, List.length_append, Nat.add_mul, Nat.one_mul]
    omega
theorem bl_small {P : Nat → Nat → Bool} {n a b : Nat} (hn : n ≤ 60) (ha : a ≤ n) (hb : b ≤ n) : (bl P n a).length + (rowl P a b).length ≤ 3660 := by
  have h1 := bl_le P n a
  have h2 := rowl_le P a b
  have h3 : a * n ≤ 60 * 60 := Nat.mul_le_mul (by omega) hn
  omega
theorem rowl_pre (P : Nat → Nat → Bool) (a : Nat) {b c : Nat} (h : b ≤ c) : ∃ r, rowl P a c = rowl P a b ++ r := by
  induction c with
  | zero => exact ⟨[], by rw [show b = 0 by omega]; rfl⟩
  | succ c ih =>
    by_cases e : b = c + 1
    · exact ⟨[], by rw [e]; simp⟩
    · obtain ⟨r, hr⟩ := ih (by omega)
      exact ⟨r ++ (if P a c then [(a, c)] else []), by rw [rowl, hr, List.append_assoc]⟩
theorem bl_pre (P : Nat → Nat → Bool) (n : Nat) {a c : Nat} (h : a ≤ c) : ∃ r, bl P n c = bl P n a ++ r := by
  induction c with
  | zero => exact ⟨[], by rw [show a = 0 by omega]; rfl⟩
  | succ c ih =>
    by_cases e : a = c + 1
    · exact ⟨[], by rw [e]; simp⟩
    · obtain ⟨r, hr⟩ := ih (by omega)
      exact ⟨r ++ rowl P c n, by rw [bl, hr, List.append_assoc]⟩
/-- the bit that is found at a, b stands behind those found before -/
theorem bl_at {P : Nat → Nat → Bool} {n a b : Nat} (ha : a < n) (hb : b < n) (hP : P a b = true) : (bl P n n)[(bl P n a).length + (rowl P a b).length]? = some (a, b) := by
  obtain ⟨r, hr⟩ := bl_pre P n (show a + 1 ≤ n from ha)
  obtain ⟨q, hq⟩ := rowl_pre P a (show b + 1 ≤ n from hb)
  rw [hr, bl, hq, rowl, if_pos hP]
  simp only [List.append_assoc]
  rw [List.getElem?_append_right (by omega), List.getElem?_append_right (by omega)]
  simp
theorem bl_lt {P : Nat → Nat → Bool} {n a b : Nat} (ha : a < n) (hb : b < n) (hP : P a b = true) : (bl P n a).length + (rowl P a b).length < (bl P n n).length := by
  have h := bl_at ha hb hP
  exact (List.getElem?_eq_some_iff.mp h).1
set_option maxHeartbeats 4000000 in
set_option maxRecDepth 100000 in
theorem t_X2_isBit (G : g_G) (M : g_M) (L : g_L) {x1 x2 : Int32} {a b : Nat} (h1 : x1 = nI a) (ha : a < 60) (h2 : x2 = nI b) (hb : b < 60) : mt G yX2_isBit (Cond.code yX2_isBit cX2_isBit 4 (some .boolean)) 1 [.ref (G.1 + 8), .int x1, .int x2] M L (qI fun v M' L' => v = bI (cB M a b) ∧ M = M' ∧ L = L') := by
  refine mt_of (by decide) rfl (Nat.le_of_ble_eq_true rfl) [(0, .ref (G.1 + 8)), (1, .int x1), (2, .int x2)] rfl (fun X hG C hQ => ?_)
  subst hG
  refine wx_aload_n C 0 dX2_isBit_0 rfl rfl ?_
  refine gf_X2_13 C dX2_isBit_1 ?_
  refine gf_X2_17 C dX2_isBit_4 ?_
  refine wx_iload_n C 2 dX2_isBit_7 rfl rfl ?_
  refine wx_iald C 2 b (by decide) (fun _ _ => rfl) (by decide) dX2_isBit_8 h2 hb ?_
  refine wx_aload_n C 0 dX2_isBit_9 rfl rfl ?_
  refine gf_X2_13 C dX2_isBit_10 ?_
  refine gf_X2_17 C dX2_isBit_13 ?_
  refine wx_iload_n C 1 dX2_isBit_16 rfl rfl ?_
  refine wx_iald C 2 a (by decide) (fun _ _ => rfl) (by decide) dX2_isBit_17 h1 ha ?_
  refine wx_isub C dX2_isBit_18 ?_
  refine wx_istore_n C [1, 2, 3, 0] [(0, .ref (X.1.1 + 8)), (1, .int x1), (2, .int x2), (3, .int ((M 2 b) - (M 2 a)))] dX2_isBit_19 rfl (by decide) rfl ?_
  refine wx_iload_n C 3 dX2_isBit_20 rfl rfl ?_
  refine wx_if_le C 131 dX2_isBit_21 (by decide) (fun c21 => ?_) (fun c21 => ?_)
  · refine wx_iconst C 0 dX2_isBit_131 (by decide) ?_
    refine wx_zret C hQ dX2_isBit_132 (by decide) ?_
    refine ⟨_, rfl, ?_, rfl, rfl⟩
    rw [cB, bitP, decide_eq_false]
    · rfl
    · intro h
      obtain ⟨h1, h2, h3, h4, h5, h6⟩ := h
      first
      | exact absurd h1 (Int32.not_lt.mpr c21)
      | (rw [bI_0] at c32; exact absurd h2 (of_decide_eq_false c32))
      | (rw [bI_0] at c43; exact absurd h3 (of_decide_eq_false c43))
      | exact absurd h4 c62
      | exact absurd h5 (Int32.not_le.mpr c93)
      | exact absurd h6 (Int32.not_le.mpr c124)
  · refine wx_aload_n C 0 dX2_isBit_24 rfl rfl ?_
    refine gf_X2_13 C dX2_isBit_25 ?_
    refine wx_iload_n C 1 dX2_isBit_28 rfl rfl ?_
    refine ca_X2_23 C (rest := []) (t_X7_isFree X.1 M L h1 ha) (by decide) rfl (by decide) rfl rfl (Nat.le_of_ble_eq_true rfl) dX2_isBit_29 (kI fun r29 M29 L29 q29 => ?_)
    obtain ⟨rfl, rfl, rfl⟩ := q29
    refine wx_if_eq C 131 dX2_isBit_32 (by decide) (fun c32 => ?_) (fun c32 => ?_)
    · refine wx_iconst C 0 dX2_isBit_131 (by decide) ?_
      refine wx_zret C hQ dX2_isBit_132 (by decide) ?_
      refine ⟨_, rfl, ?_, rfl, rfl⟩
      rw [cB, bitP, decide_eq_false]
      · rfl
      · intro h
        obtain ⟨h1, h2, h3, h4, h5, h6⟩ := h
        first
        | exact absurd h1 (Int32.not_lt.mpr c21)
        | (rw [bI_0] at c32; exact absurd h2 (of_decide_eq_false c32))
        | (rw [bI_0] at c43; exact absurd h3 (of_decide_eq_false c43))
        | exact absurd h4 c62
        | exact absurd h5 (Int32.not_le.mpr c93)
        | exact absurd h6 (Int32.not_le.mpr c124)
    · refine wx_aload_n C 0 dX2_isBit_35 rfl rfl ?_
      refine gf_X2_13 C dX2_isBit_36 ?_
      refine wx_iload_n C 2 dX2_isBit_39 rfl rfl ?_
      refine ca_X2_23 C (rest := []) (t_X7_isFree X.1 M L h2 hb) (by decide) rfl (by decide) rfl rfl (Nat.le_of_ble_eq_true rfl) dX2_isBit_40 (kI fun r40 M40 L40 q40 => ?_)
      obtain ⟨rfl, rfl, rfl⟩ := q40
      refine wx_if_eq C 131 dX2_isBit_43 (by decide) (fun c43 => ?_) (fun c43 => ?_)
      · refine wx_iconst C 0 dX2_isBit_131 (by decide) ?_
        refine wx_zret C hQ dX2_isBit_132 (by decide) ?_
        refine ⟨_, rfl, ?_, rfl, rfl⟩
        rw [cB, bitP, decide_eq_false]
        · rfl
        · intro h
          obtain ⟨h1, h2, h3, h4, h5, h6⟩ := h
          first
          | exact absurd h1 (Int32.not_lt.mpr c21)
          | (rw [bI_0] at c32; exact absurd h2 (of_decide_eq_false c32))
          | (rw [bI_0] at c43; exact absurd h3 (of_decide_eq_false c43))
          | exact absurd h4 c62
          | exact absurd h5 (Int32.not_le.mpr c93)
          | exact absurd h6 (Int32.not_le.mpr c124)
      · refine wx_aload_n C 0 dX2_isBit_46 rfl rfl ?_
        refine gf_X2_13 C dX2_isBit_47 ?_
        refine wx_iload_n C 1 dX2_isBit_50 rfl rfl ?_
        refine ca_X2_27 C (rest := []) (t_X7_nightOf X.1 M L h1 ha) (by decide) rfl (by decide) rfl rfl (Nat.le_of_ble_eq_true rfl) dX2_isBit_51 (kI fun r51 M51 L51 q51 => ?_)
        obtain ⟨rfl, rfl, rfl⟩ := q51
        refine wx_aload_n C 0 dX2_isBit_54 rfl rfl ?_
        refine gf_X2_13 C dX2_isBit_55 ?_
        refine wx_iload_n C 2 dX2_isBit_58 rfl rfl ?_
        refine ca_X2_27 C (rest := [.int (M 2 a / 24)]) (t_X7_nightOf X.1 M L h2 hb) (by decide) rfl (by decide) rfl rfl (Nat.le_of_ble_eq_true rfl) dX2_isBit_59 (kI fun r59 M59 L59 q59 => ?_)
        obtain ⟨rfl, rfl, rfl⟩ := q59
        refine wx_icmp_ne C 131 dX2_isBit_62 (by decide) (fun c62 => ?_) (fun c62 => ?_)
        · refine wx_iconst C 0 dX2_isBit_131 (by decide) ?_
          refine wx_zret C hQ dX2_isBit_132 (by decide) ?_
          refine ⟨_, rfl, ?_, rfl, rfl⟩
          rw [cB, bitP, decide_eq_false]
          · rfl
          · intro h
            obtain ⟨h1, h2, h3, h4, h5, h6⟩ := h
            first
            | exact absurd h1 (Int32.not_lt.mpr c21)
            | (rw [bI_0] at c32; exact absurd h2 (of_decide_eq_false c32))
            | (rw [bI_0] at c43; exact absurd h3 (of_decide_eq_false c43))
            | exact absurd h4 c62
            | exact absurd h5 (Int32.not_le.mpr c93)
            | exact absurd h6 (Int32.not_le.mpr c124)
        · refine wx_aload_n C 0 dX2_isBit_65 rfl rfl ?_
          refine gf_X2_13 C dX2_isBit_66 ?_
          refine gf_X2_31 C dX2_isBit_69 ?_
          refine wx_iload_n C 2 dX2_isBit_72 rfl rfl ?_
          refine wx_iald C 3 b (by decide) (fun _ _ => rfl) (by decide) dX2_isBit_73 h2 hb ?_
          refine wx_aload_n C 0 dX2_isBit_74 rfl rfl ?_
          refine gf_X2_13 C dX2_isBit_75 ?_
          refine gf_X2_31 C dX2_isBit_78 ?_
          refine wx_iload_n C 1 dX2_isBit_81 rfl rfl ?_
          refine wx_iald C 3 a (by decide) (fun _ _ => rfl) (by decide) dX2_isBit_82 h1 ha ?_
          refine wx_isub C dX2_isBit_83 ?_
          refine wx_mabs C w2_127 w2_128 w1_13 w2_129 (by decide) (Nat.le_of_ble_eq_true rfl) dX2_isBit_84 ?_
          refine wx_aload_n C 0 dX2_isBit_87 rfl rfl ?_
          refine gf_X2_7 C dX2_isBit_88 ?_
          refine wx_iload_n C 3 dX2_isBit_91 rfl rfl ?_
          refine wx_imul C dX2_isBit_92 ?_
          refine wx_icmp_gt C 131 dX2_isBit_93 (by decide) (fun c93 => ?_) (fun c93 => ?_)
          · refine wx_iconst C 0 dX2_isBit_131 (by decide) ?_
            refine wx_zret C hQ dX2_isBit_132 (by decide) ?_
            refine ⟨_, rfl, ?_, rfl, rfl⟩
            rw [cB, bitP, decide_eq_false]
            · rfl
            · intro h
              obtain ⟨h1, h2, h3, h4, h5, h6⟩ := h
              first
              | exact absurd h1 (Int32.not_lt.mpr c21)
              | (rw [bI_0] at c32; exact absurd h2 (of_decide_eq_false c32))
              | (rw [bI_0] at c43; exact absurd h3 (of_decide_eq_false c43))
              | exact absurd h4 c62
              | exact absurd h5 (Int32.not_le.mpr c93)
              | exact absurd h6 (Int32.not_le.mpr c124)
          · refine wx_aload_n C 0 dX2_isBit_96 rfl rfl ?_
            refine gf_X2_13 C dX2_isBit_97 ?_
            refine gf_X2_39 C dX2_isBit_100 ?_
            refine wx_iload_n C 2 dX2_isBit_103 rfl rfl ?_
            refine wx_iald C 4 b (by decide) (fun _ _ => rfl) (by decide) dX2_isBit_104 h2 hb ?_
            refine wx_aload_n C 0 dX2_isBit_105 rfl rfl ?_
            refine gf_X2_13 C dX2_isBit_106 ?_
            refine gf_X2_39 C dX2_isBit_109 ?_
            refine wx_iload_n C 1 dX2_isBit_112 rfl rfl ?_
            refine wx_iald C 4 a (by decide) (fun _ _ => rfl) (by decide) dX2_isBit_113 h1 ha ?_
            refine wx_isub C dX2_isBit_114 ?_
            refine wx_mabs C w2_127 w2_128 w1_13 w2_129 (by decide) (Nat.le_of_ble_eq_true rfl) dX2_isBit_115 ?_
            refine wx_aload_n C 0 dX2_isBit_118 rfl rfl ?_
            refine gf_X2_7 C dX2_isBit_119 ?_
            refine wx_iload_n C 3 dX2_isBit_122 rfl rfl ?_
            refine wx_imul C dX2_isBit_123 ?_
            refine wx_icmp_gt C 131 dX2_isBit_124 (by decide) (fun c124 => ?_) (fun c124 => ?_)
            · refine wx_iconst C 0 dX2_isBit_131 (by decide) ?_
              refine wx_zret C hQ dX2_isBit_132 (by decide) ?_
              refine ⟨_, rfl, ?_, rfl, rfl⟩
              rw [cB, bitP, decide_eq_false]
              · rfl
              · intro h
                obtain ⟨h1, h2, h3, h4, h5, h6⟩ := h
                first
                | exact absurd h1 (Int32.not_lt.mpr c21)
                | (rw [bI_0] at c32; exact absurd h2 (of_decide_eq_false c32))
                | (rw [bI_0] at c43; exact absurd h3 (of_decide_eq_false c43))
                | exact absurd h4 c62
                | exact absurd h5 (Int32.not_le.mpr c93)
                | exact absurd h6 (Int32.not_le.mpr c124)
            · refine wx_iconst C 1 dX2_isBit_127 (by decide) ?_
              refine wx_goto C 132 dX2_isBit_128 (by decide) ?_
              refine wx_zret C hQ dX2_isBit_132 (by decide) ?_
              refine ⟨_, rfl, ?_, rfl, rfl⟩
              rw [cB, bitP, decide_eq_true]
              · rfl
              · rw [bI_n0] at c32 c43
                exact ⟨Int32.not_le.mp c21, of_decide_eq_true c32, of_decide_eq_true c43, c62, Int32.not_lt.mp c93, Int32.not_lt.mp c124⟩
set_option maxHeartbeats 4000000 in
set_option maxRecDepth 100000 in
theorem lp_X2_total_i {X : g_X} {Qr : Option Value → g_M → g_L → Prop} (C : Cx X cX2_total 4 RX2 (some .int) 2) (hQ : Rx X Qr) {M : g_M} {L : g_L} {b a : Nat} (hb : M 1 5 = nI b) (h60 : b ≤ 60) (ha : a < b) (K : wx X M L 4 [(0, .ref (X.1.1 + 8)), (1, .int (nI (bl (cB M) b (a + 1)).length)), (2, .int (nI (a + 1)))] []) : ∀ (n i : Nat), i ≤ b → b < i + n → wx X M L 17 [(0, .ref (X.1.1 + 8)), (1, .int (nI ((bl (cB M) b a).length + (rowl (cB M) a i).length))), (2, .int (nI a)), (3, .int (nI i))] [] := by
  intro n
  induction n with
  | zero =>
    intro i h1 h2
    exact absurd h2 (by omega)
  | succ n ih =>
    intro i hi0 hin
    refine wx_iload_n C 3 dX2_total_17 rfl rfl ?_
    refine wx_aload_n C 0 dX2_total_18 rfl rfl ?_
    refine gf_X2_13 C dX2_total_19 ?_
    refine gf_X2_42 C dX2_total_22 ?_
    refine wx_icmp_ge C 46 dX2_total_25 (by decide) (fun c25 => ?_) (fun c25 => ?_)
    · have hib : i = b := by
        rw [hb] at c25
        exact Nat.le_antisymm hi0 ((nI_leI (by omega) (by omega)).mp c25)
      refine wx_iinc C (v := (nI (a + 1))) 2 [1, 2, 0, 3] [(0, .ref (X.1.1 + 8)), (1, .int (nI ((bl (cB M) b a).length + (rowl (cB M) a i).length))), (2, .int (nI (a + 1))), (3, .int (nI i))] dX2_total_46 rfl (nI_1 _) (by decide) rfl ?_
      refine wx_goto C 4 dX2_total_49 (by decide) ?_
      exact wx_sub [0, 1, 2] (by rw [hib, bl, List.length_append]; rfl) K
    · have hi : i < b := by
        rw [hb] at c25
        exact Nat.lt_of_not_le (fun h => c25 ((nI_leI (by omega) (by omega)).mpr h))
      refine wx_aload_n C 0 dX2_total_28 rfl rfl ?_
      refine wx_iload_n C 2 dX2_total_29 rfl rfl ?_
      refine wx_iload_n C 3 dX2_total_30 rfl rfl ?_
      refine ca_X2_45 C (rest := []) (t_X2_isBit X.1 M L (a := a) (b := i) rfl (by omega) rfl (by omega)) (by decide) rfl (by decide) rfl rfl (Nat.le_of_ble_eq_true rfl) dX2_total_31 (kI fun r31 M31 L31 q31 => ?_)
      obtain ⟨rfl, rfl, rfl⟩ := q31
      refine wx_if_eq C 40 dX2_total_34 (by decide) (fun c34 => ?_) (fun c34 => ?_)
      · refine wx_iinc C (v := (nI (i + 1))) 3 [1, 2, 3, 0] [(0, .ref (X.1.1 + 8)), (1, .int (nI ((bl (cB M) b a).length + (rowl (cB M) a i).length))), (2, .int (nI a)), (3, .int (nI (i + 1)))] dX2_total_40 rfl (nI_1 _) (by decide) rfl ?_
        refine wx_goto C 17 dX2_total_43 (by decide) ?_
        have h := ih (i + 1) (by omega) (by omega)
        simp only [rowl] at h
        rw [if_neg (by rw [bI_0] at c34; simp [c34])] at h
        simp only [List.append_nil] at h
        exact h
      · refine wx_iinc C (v := (nI (((bl (cB M) b a).length + (rowl (cB M) a i).length) + 1))) 1 [1, 0, 2, 3] [(0, .ref (X.1.1 + 8)), (1, .int (nI (((bl (cB M) b a).length + (rowl (cB M) a i).length) + 1))), (2, .int (nI a)), (3, .int (nI i))] dX2_total_37 rfl (nI_1 _) (by decide) rfl ?_
        refine wx_iinc C (v := (nI (i + 1))) 3 [1, 2, 3, 0] [(0, .ref (X.1.1 + 8)), (1, .int (nI (((bl (cB M) b a).length + (rowl (cB M) a i).length) + 1))), (2, .int (nI a)), (3, .int (nI (i + 1)))] dX2_total_40 rfl (nI_1 _) (by decide) rfl ?_
        refine wx_goto C 17 dX2_total_43 (by decide) ?_
        have h := ih (i + 1) (by omega) (by omega)
        simp only [rowl] at h
        rw [if_pos (bI_n0.mp c34)] at h
        simp only [List.length_append, List.length_singleton, ← Nat.add_assoc] at h
        exact h
set_option maxHeartbeats 4000000 in
set_option maxRecDepth 100000 in
theorem lp_X2_total {X : g_X} {Qr : Option Value → g_M → g_L → Prop} (C : Cx X cX2_total 4 RX2 (some .int) 2) (hQ : Rx X Qr) {M : g_M} {L : g_L} {b : Nat} (hb : M 1 5 = nI b) (h60 : b ≤ 60) (hp : Qr (some (.int (nI (bl (cB M) b b).length))) M L) : ∀ (n i : Nat), i ≤ b → b < i + n → wx X M L 4 [(0, .ref (X.1.1 + 8)), (1, .int (nI (bl (cB M) b i).length)), (2, .int (nI i))] [] := by
  intro n
  induction n with
  | zero =>
    intro i h1 h2
    exact absurd h2 (by omega)
  | succ n ih =>
    intro i hi0 hin
    refine wx_iload_n C 2 dX2_total_4 rfl rfl ?_
    refine wx_aload_n C 0 dX2_total_5 rfl rfl ?_
    refine gf_X2_13 C dX2_total_6 ?_
    refine gf_X2_42 C dX2_total_9 ?_
    refine wx_icmp_ge C 52 dX2_total_12 (by decide) (fun c12 => ?_) (fun c12 => ?_)
    · have hib : i = b := by
        rw [hb] at c12
        exact Nat.le_antisymm hi0 ((nI_leI (by omega) (by omega)).mp c12)
      refine wx_iload_n C 1 dX2_total_52 rfl rfl ?_
      refine wx_iret C hQ dX2_total_53 ?_
      rw [hib]
      exact hp
    · have hi : i < b := by
        rw [hb] at c12
        exact Nat.lt_of_not_le (fun h => c12 ((nI_leI (by omega) (by omega)).mpr h))
      refine wx_iconst C 0 dX2_total_15 (by decide) ?_
      refine wx_istore_n C [1, 2, 3, 0] [(0, .ref (X.1.1 + 8)), (1, .int (nI (bl (cB M) b i).length)), (2, .int (nI i)), (3, .int 0)] dX2_total_16 rfl (by decide) rfl ?_
      exact lp_X2_total_i C hQ hb h60 hi (ih (i + 1) (by omega) (by omega)) (b + 1) 0 (by omega) (by omega)
set_option maxHeartbeats 4000000 in
set_option maxRecDepth 100000 in
theorem t_X2_total (G : g_G) (M : g_M) (L : g_L) {b : Nat} (hb : M 1 5 = nI b) (h60 : b ≤ 60) : mt G yX2_total (Cond.code yX2_total cX2_total 4 (some .int)) 2 [.ref (G.1 + 8)] M L (qI fun v M' L' => v = nI (bl (cB M) b b).length ∧ M = M' ∧ L = L') := by
  refine mt_of (by decide) rfl (Nat.le_of_ble_eq_true rfl) [(0, .ref (G.1 + 8))] rfl (fun X hG C hQ => ?_)
  subst hG
  refine wx_iconst C 0 dX2_total_0 (by decide) ?_
  refine wx_istore_n C [1, 0] [(0, .ref (X.1.1 + 8)), (1, .int 0)] dX2_total_1 rfl (by decide) rfl ?_
  refine wx_iconst C 0 dX2_total_2 (by decide) ?_
  refine wx_istore_n C [1, 2, 0] [(0, .ref (X.1.1 + 8)), (1, .int 0), (2, .int 0)] dX2_total_3 rfl (by decide) rfl ?_
  exact lp_X2_total C hQ hb h60 ⟨_, rfl, rfl, rfl, rfl⟩ (b + 1) 0 (by omega) (by omega)
/-- what seek leaves: it is found, or there is none -/
def skP (M : g_M) (L : g_L) (b : Nat) (x : Int32) : Int32 → g_M → g_L → Prop := fun v M' L' => L = L' ∧ ((v = 1 ∧ ∃ q e, q < 2 ^ 31 ∧ x = nI q ∧ (bl (cB M) b b)[q]? = some e ∧ M' = g_st (g_st M 8 2 (nI e.1)) 8 3 (nI e.2)) ∨ (v = 0 ∧ M = M' ∧ ∀ q, q < 2 ^ 31 → x = nI q → (bl (cB M) b b).length ≤ q))
set_option maxHeartbeats 4000000 in
set_option maxRecDepth 100000 in
theorem lp_X2_seek_i {X : g_X} {Qr : Option Value → g_M → g_L → Prop} (C : Cx X cX2_seek 5 RX2 (some .boolean) 2) (hQ : Rx X Qr) {M : g_M} {L : g_L} {b a : Nat} (hb : M 1 5 = nI b) (h60 : b ≤ 60) (ha : a < b) (q : Nat) (hq : q < 2 ^ 31) (hp : ∀ v M1 L1, skP M L b (nI q) v M1 L1 → Qr (some (.int v)) M1 L1) (K : (bl (cB M) b (a + 1)).length ≤ q → wx X M L 4 [(0, .ref (X.1.1 + 8)), (1, .int (nI q)), (2, .int (nI (q - (bl (cB M) b (a + 1)).length))), (3, .int (nI (a + 1)))] []) : ∀ (n i : Nat), i ≤ b → b < i + n → (bl (cB M) b a).length + (rowl (cB M) a i).length ≤ q → wx X M L 22 [(0, .ref (X.1.1 + 8)), (1, .int (nI q)), (2, .int (nI (q - ((bl (cB M) b a).length + (rowl (cB M) a i).length)))), (3, .int (nI a)), (4, .int (nI i))] [] := by
  intro n
  induction n with
  | zero =>
    intro i h1 h2
    exact absurd h2 (by omega)
  | succ n ih =>
    intro i hi0 hin hle
    refine wx_iload C 4 dX2_seek_22 rfl ?_
    refine wx_aload_n C 0 dX2_seek_24 rfl rfl ?_
    refine gf_X2_13 C dX2_seek_25 ?_
    refine gf_X2_42 C dX2_seek_28 ?_
    refine wx_icmp_ge C 70 dX2_seek_31 (by decide) (fun c31 => ?_) (fun c31 => ?_)
    · have hib : i = b := by
        rw [hb] at c31
        exact Nat.le_antisymm hi0 ((nI_leI (by omega) (by omega)).mp c31)
      refine wx_iinc C (v := (nI (a + 1))) 3 [1, 2, 3, 0, 4] [(0, .ref (X.1.1 + 8)), (1, .int (nI q)), (2, .int (nI (q - ((bl (cB M) b a).length + (rowl (cB M) a i).length)))), (3, .int (nI (a + 1))), (4, .int (nI i))] dX2_seek_70 rfl (nI_1 _) (by decide) rfl ?_
      refine wx_goto C 4 dX2_seek_73 (by decide) ?_
      have e : (bl (cB M) b (a + 1)).length = (bl (cB M) b a).length + (rowl (cB M) a i).length := by rw [hib, bl, List.length_append]
      exact wx_sub [0, 1, 2, 3] (by rw [e]; rfl) (K (by rw [e]; exact hle))
    · have hi : i < b := by
        rw [hb] at c31
        exact Nat.lt_of_not_le (fun h => c31 ((nI_leI (by omega) (by omega)).mpr h))
      refine wx_aload_n C 0 dX2_seek_34 rfl rfl ?_
      refine wx_iload_n C 3 dX2_seek_35 rfl rfl ?_
      refine wx_iload C 4 dX2_seek_36 rfl ?_
      refine ca_X2_45 C (rest := []) (t_X2_isBit X.1 M L (a := a) (b := i) rfl (by omega) rfl (by omega)) (by decide) rfl (by decide) rfl rfl (Nat.le_of_ble_eq_true rfl) dX2_seek_38 (kI fun r38 M38 L38 q38 => ?_)
      obtain ⟨rfl, rfl, rfl⟩ := q38
      refine wx_if_eq C 64 dX2_seek_41 (by decide) (fun c41 => ?_) (fun c41 => ?_)
      · refine wx_iinc C (v := (nI (i + 1))) 4 [1, 2, 3, 4, 0] [(0, .ref (X.1.1 + 8)), (1, .int (nI q)), (2, .int (nI (q - ((bl (cB M) b a).length + (rowl (cB M) a i).length)))), (3, .int (nI a)), (4, .int (nI (i + 1)))] dX2_seek_64 rfl (nI_1 _) (by decide) rfl ?_
        refine wx_goto C 22 dX2_seek_67 (by decide) ?_
        have hn : cB M a i = false := bI_0.mp c41
        have h := ih (i + 1) (by omega) (by omega) (by rw [rowl, if_neg (by simp [hn]), List.append_nil]; exact hle)
        rw [rowl, if_neg (by simp [hn]), List.append_nil] at h
        exact h
      · refine wx_iload_n C 2 dX2_seek_44 rfl rfl ?_
        refine wx_if_ne C 61 dX2_seek_45 (by decide) (fun c45 => ?_) (fun c45 => ?_)
        · refine wx_iinc C (v := (nI (q - ((bl (cB M) b a).length + (rowl (cB M) a i).length) - 1))) 2 [1, 2, 0, 3, 4] [(0, .ref (X.1.1 + 8)), (1, .int (nI q)), (2, .int (nI (q - ((bl (cB M) b a).length + (rowl (cB M) a i).length) - 1))), (3, .int (nI a)), (4, .int (nI i))] dX2_seek_61 rfl (by rw [show Int32.ofInt (-1) = -1 by decide]; exact sb_m1 (Nat.pos_of_ne_zero (fun z => c45 (by rw [z]; rfl)))) (by decide) rfl ?_
          refine wx_iinc C (v := (nI (i + 1))) 4 [1, 2, 3, 4, 0] [(0, .ref (X.1.1 + 8)), (1, .int (nI q)), (2, .int (nI (q - ((bl (cB M) b a).length + (rowl (cB M) a i).length) - 1))), (3, .int (nI a)), (4, .int (nI (i + 1)))] dX2_seek_64 rfl (nI_1 _) (by decide) rfl ?_
          refine wx_goto C 22 dX2_seek_67 (by decide) ?_
          have hy : cB M a i = true := bI_n0.mp c41
          have e : (rowl (cB M) a (i + 1)).length = (rowl (cB M) a i).length + 1 := by rw [rowl, if_pos hy]; simp
          have hz : q - ((bl (cB M) b a).length + (rowl (cB M) a i).length) ≠ 0 := fun z => c45 (by rw [z]; rfl)
          have h := ih (i + 1) (by omega) (by omega) (by rw [e]; omega)
          rw [e, show q - ((bl (cB M) b a).length + ((rowl (cB M) a i).length + 1)) = q - ((bl (cB M) b a).length + (rowl (cB M) a i).length) - 1 by omega] at h
          exact h
        · refine wx_aload_n C 0 dX2_seek_48 rfl rfl ?_
          refine wx_iload_n C 3 dX2_seek_49 rfl rfl ?_
          refine pf_X2_49 C dX2_seek_50 ?_
          refine wx_aload_n C 0 dX2_seek_53 rfl rfl ?_
          refine wx_iload C 4 dX2_seek_54 rfl ?_
          refine pf_X2_52 C dX2_seek_56 ?_
          refine wx_iconst C 1 dX2_seek_59 (by decide) ?_
          refine wx_zret C hQ dX2_seek_60 (by decide) ?_
          have hy : cB M a i = true := bI_n0.mp c41
          have hz : q - ((bl (cB M) b a).length + (rowl (cB M) a i).length) = 0 := nI_inj (by omega) (by omega) c45
          have e : q = (bl (cB M) b a).length + (rowl (cB M) a i).length := by omega
          exact hp _ _ _ ⟨rfl, Or.inl ⟨rfl, q, (a, i), hq, rfl, by rw [e]; exact bl_at ha hi hy, rfl⟩⟩
set_option maxHeartbeats 4000000 in
set_option maxRecDepth 100000 in
theorem lp_X2_seek {X : g_X} {Qr : Option Value → g_M → g_L → Prop} (C : Cx X cX2_seek 5 RX2 (some .boolean) 2) (hQ : Rx X Qr) {M : g_M} {L : g_L} {b : Nat} (hb : M 1 5 = nI b) (h60 : b ≤ 60) (q : Nat) (hq : q < 2 ^ 31) (hp : ∀ v M1 L1, skP M L b (nI q) v M1 L1 → Qr (some (.int v)) M1 L1) : ∀ (n i : Nat), i ≤ b → b < i + n → (bl (cB M) b i).length ≤ q → wx X M L 4 [(0, .ref (X.1.1 + 8)), (1, .int (nI q)), (2, .int (nI (q - (bl (cB M) b i).length))), (3, .int (nI i))] [] := by
  intro n
  induction n with
  | zero =>
    intro i h1 h2
    exact absurd h2 (by omega)
  | succ n ih =>
    intro i hi0 hin hle
    refine wx_iload_n C 3 dX2_seek_4 rfl rfl ?_
    refine wx_aload_n C 0 dX2_seek_5 rfl rfl ?_
    refine gf_X2_13 C dX2_seek_6 ?_
    refine gf_X2_42 C dX2_seek_9 ?_
    refine wx_icmp_ge C 76 dX2_seek_12 (by decide) (fun c12 => ?_) (fun c12 => ?_)
    · refine wx_iconst C 0 dX2_seek_76 (by decide) ?_
      refine wx_zret C hQ dX2_seek_77 (by decide) ?_
      have hib : i = b := by
        rw [hb] at c12
        exact Nat.le_antisymm hi0 ((nI_leI (by omega) (by omega)).mp c12)
      rw [hib] at hle
      exact hp _ _ _ ⟨rfl, Or.inr ⟨rfl, rfl, fun q2 hq2 e => by rw [← nI_inj hq hq2 e]; exact hle⟩⟩
    · have hi : i < b := by
        rw [hb] at c12
        exact Nat.lt_of_not_le (fun h => c12 ((nI_leI (by omega) (by omega)).mpr h))
      refine wx_iload_n C 2 dX2_seek_15 rfl rfl ?_
      refine wx_if_lt C 76 dX2_seek_16 (by decide) (fun c16 => absurd c16 (nI_pos (by omega))) (fun c16 => ?_)
      refine wx_iconst C 0 dX2_seek_19 (by decide) ?_
      refine wx_istore C [1, 2, 3, 4, 0] [(0, .ref (X.1.1 + 8)), (1, .int (nI q)), (2, .int (nI (q - (bl (cB M) b i).length))), (3, .int (nI i)), (4, .int 0)] dX2_seek_20 (by decide) rfl ?_
      exact lp_X2_seek_i C hQ hb h60 hi q hq hp (fun h => ih (i + 1) (by omega) (by omega) h) (b + 1) 0 (by omega) (by omega) (by simpa [rowl] using hle)
set_option maxHeartbeats 4000000 in
set_option maxRecDepth 100000 in
theorem t_X2_seek (G : g_G) (M : g_M) (L : g_L) (x : Int32) {b : Nat} (hb : M 1 5 = nI b) (h60 : b ≤ 60) : mt G yX2_seek (Cond.code yX2_seek cX2_seek 5 (some .boolean)) 2 [.ref (G.1 + 8), .int x] M L (qI (skP M L b x)) := by
  refine mt_of (by decide) rfl (Nat.le_of_ble_eq_true rfl) [(0, .ref (G.1 + 8)), (1, .int x)] rfl (fun X hG C hQ => ?_)
  subst hG
  refine wx_iload_n C 1 dX2_seek_0 rfl rfl ?_
  refine wx_istore_n C [1, 2, 0] [(0, .ref (X.1.1 + 8)), (1, .int x), (2, .int x)] dX2_seek_1 rfl (by decide) rfl ?_
  refine wx_iconst C 0 dX2_seek_2 (by decide) ?_
  refine wx_istore_n C [1, 2, 3, 0] [(0, .ref (X.1.1 + 8)), (1, .int x), (2, .int x), (3, .int 0)] dX2_seek_3 rfl (by decide) rfl ?_
  by_cases hx : x < 0
  · refine wx_iload_n C 3 dX2_seek_4 rfl rfl ?_
    refine wx_aload_n C 0 dX2_seek_5 rfl rfl ?_
    refine gf_X2_13 C dX2_seek_6 ?_
    refine gf_X2_42 C dX2_seek_9 ?_
    refine wx_icmp_ge C 76 dX2_seek_12 (by decide) (fun c12 => ?_) (fun c12 => ?_)
    · refine wx_iconst C 0 dX2_seek_76 (by decide) ?_
      refine wx_zret C hQ dX2_seek_77 (by decide) ?_
      exact ⟨_, rfl, rfl, Or.inr ⟨rfl, rfl, fun q hq e => absurd hx (by rw [e]; exact nI_pos hq)⟩⟩
    · refine wx_iload_n C 2 dX2_seek_15 rfl rfl ?_
      refine wx_if_lt C 76 dX2_seek_16 (by decide) (fun c16 => ?_) (fun c16 => absurd c16 (fun h => h hx))
      refine wx_iconst C 0 dX2_seek_76 (by decide) ?_
      refine wx_zret C hQ dX2_seek_77 (by decide) ?_
      exact ⟨_, rfl, rfl, Or.inr ⟨rfl, rfl, fun q hq e => absurd hx (by rw [e]; exact nI_pos hq)⟩⟩
  · obtain ⟨q, hq, rfl⟩ := nI_of hx
    exact lp_X2_seek C hQ hb h60 q hq (fun v M1 L1 h => ⟨v, rfl, h⟩) (b + 1) 0 (by omega) (by omega) (Nat.zero_le _)
end
section
/-! numbers: rows of the kit's COUNTS.to-paste, pasted -/
theorem fb_rng (x : Int32) : -2147483648 ≤ x.toInt ∧ x.toInt < 2147483648 := by
  have h1 := Int32.le_toInt x
  have h2 := Int32.toInt_lt x
  omega
theorem fb_bmod {z : Int} (h1 : -2147483648 ≤ z) (h2 : z < 2147483648) : z.bmod (2 ^ 32) = z := by
  rw [Int.bmod_eq_of_le (by omega) (by omega)]
theorem fb_addI {x y : Int32} (h1 : -2147483648 ≤ x.toInt + y.toInt) (h2 : x.toInt + y.toInt < 2147483648) : (x + y).toInt = x.toInt + y.toInt := by
  rw [Int32.toInt_add, fb_bmod h1 h2]
theorem fb_subI {x y : Int32} (h1 : -2147483648 ≤ x.toInt - y.toInt) (h2 : x.toInt - y.toInt < 2147483648) : (x - y).toInt = x.toInt - y.toInt := by
  rw [Int32.toInt_sub, fb_bmod h1 h2]
theorem fb_mulI {x y : Int32} (h1 : -2147483648 ≤ x.toInt * y.toInt) (h2 : x.toInt * y.toInt < 2147483648) : (x * y).toInt = x.toInt * y.toInt := by
  rw [Int32.toInt_mul, fb_bmod h1 h2]
theorem fb_negI {x : Int32} (h : x.toInt ≠ -2147483648) : (-x).toInt = -x.toInt := by
  have := fb_rng x
  rw [Int32.toInt_neg, fb_bmod (by omega) (by omega)]
theorem fb_ofI {z : Int} (h1 : -2147483648 ≤ z) (h2 : z < 2147483648) : (Int32.ofInt z).toInt = z := by
  rw [Int32.toInt_ofInt, fb_bmod h1 h2]
theorem fb_asI (x : Int32) : Int32.ofInt x.toInt = x := Int32.ofInt_toInt x
theorem fb_rngL (x : Int64) : -9223372036854775808 ≤ x.toInt ∧ x.toInt < 9223372036854775808 := by
  have h1 := Int64.le_toInt x
  have h2 := Int64.toInt_lt x
  omega
theorem fb_bmodL {z : Int} (h1 : -9223372036854775808 ≤ z) (h2 : z < 9223372036854775808) : z.bmod (2 ^ 64) = z := by
  rw [Int.bmod_eq_of_le (by omega) (by omega)]
theorem fb_addL {x y : Int64} (h1 : -9223372036854775808 ≤ x.toInt + y.toInt) (h2 : x.toInt + y.toInt < 9223372036854775808) : (x + y).toInt = x.toInt + y.toInt := by
  rw [Int64.toInt_add, fb_bmodL h1 h2]
theorem fb_subL {x y : Int64} (h1 : -9223372036854775808 ≤ x.toInt - y.toInt) (h2 : x.toInt - y.toInt < 9223372036854775808) : (x - y).toInt = x.toInt - y.toInt := by
  rw [Int64.toInt_sub, fb_bmodL h1 h2]
theorem fb_mulL {x y : Int64} (h1 : -9223372036854775808 ≤ x.toInt * y.toInt) (h2 : x.toInt * y.toInt < 9223372036854775808) : (x * y).toInt = x.toInt * y.toInt := by
  rw [Int64.toInt_mul, fb_bmodL h1 h2]
/-! ===== floorDiv ===== -/
def jfd (x y : Int32) : Int32 := if 0 ≤ x ^^^ y then x / y else if x / y * y = x then x / y else x / y - 1
theorem xor_nn {x g : Int32} (hg : 0 ≤ g.toInt) : 0 ≤ (x ^^^ g) ↔ 0 ≤ x.toInt := by
  rw [i_le, show (0 : Int32).toInt = 0 from rfl]
  have e1 : (x ^^^ g).toBitVec.msb = decide ((x ^^^ g).toInt < 0) := BitVec.msb_eq_toInt
  have e2 : x.toBitVec.msb = decide (x.toInt < 0) := BitVec.msb_eq_toInt
  have e3 : g.toBitVec.msb = decide (g.toInt < 0) := BitVec.msb_eq_toInt
  rw [Int32.toBitVec_xor, BitVec.msb_xor, e2, e3] at e1
  have e4 : decide (g.toInt < 0) = false := by
    rw [decide_eq_false_iff_not]; omega
  rw [e4, Bool.xor_false] at e1
  have e5 := decide_eq_decide.mp e1
  omega
theorem jfd_toInt {x g : Int32} (hg : 1 ≤ g.toInt) : (jfd x g).toInt = x.toInt / g.toInt := by
  have hrx := fb_rng x
  have hrg := fb_rng g
  have hq : (x / g).toInt = x.toInt.tdiv g.toInt := Int32.toInt_div_of_ne_right x g (by intro e; rw [e] at hg; revert hg; decide)
  unfold jfd
  by_cases hx : 0 ≤ x.toInt
  · rw [if_pos ((xor_nn (by omega)).mpr hx), hq, Int.tdiv_eq_ediv_of_nonneg hx]
  · rw [if_neg (fun h => hx ((xor_nn (by omega)).mp h))]
    have ht := @Int.tdiv_eq_ediv x.toInt g.toInt
    have h1 := Int.ediv_mul_le x.toInt (b := g.toInt) (by omega)
    have h2 := Int.lt_ediv_add_one_mul_self x.toInt (b := g.toInt) (by omega)
    have h3 : x.toInt ≤ x.toInt / g.toInt := by
      apply Int.le_ediv_of_mul_le (by omega)
      have := Int.mul_le_mul_of_nonpos_left (a := x.toInt) (b := g.toInt) (c := 1) (by omega) (by omega)
      omega
    by_cases hd : g.toInt ∣ x.toInt
    · rw [if_pos (Or.inr hd), Int.add_zero] at ht
      have hm : (x / g * g).toInt = x.toInt := by
        rw [fb_mulI] <;> rw [hq, ht, Int.ediv_mul_cancel hd] <;> omega
      rw [if_pos (Int32.toInt_inj.mp hm), hq, ht]
    · rw [if_neg (by intro h; rcases h with h | h; exact hx h; exact hd h), Int.sign_eq_one_of_pos (by omega)] at ht
      rw [Int.add_mul, Int.one_mul] at h2
      have e : (x.toInt / g.toInt + 1) * g.toInt = x.toInt / g.toInt * g.toInt + g.toInt := by rw [Int.add_mul, Int.one_mul]
      have hE : x.toInt / g.toInt < 0 := Int.ediv_neg_of_neg_of_pos (by omega) (by omega)
      have hne : ¬ x / g * g = x := by
        intro z
        have e2 := congrArg Int32.toInt z
        rw [fb_mulI (by rw [hq, ht, e]; omega) (by rw [hq, ht, e]; omega), hq, ht] at e2
        exact hd ⟨x.toInt / g.toInt + 1, by rw [Int.mul_comm]; exact e2.symm⟩
      rw [if_neg hne, fb_subI, hq, ht]
      · show x.toInt / g.toInt + 1 - 1 = _
        omega
      · rw [hq, ht]
        show -2147483648 ≤ x.toInt / g.toInt + 1 - 1
        omega
      · rw [hq, ht]
        show x.toInt / g.toInt + 1 - 1 < 2147483648
        omega
/-- from ends that have passed each other nothing fits -/
theorem fd_gap {lo hi g : Int32} (hg : 1 ≤ g.toInt) (hlo : -2000 ≤ lo.toInt) (h : hi < lo) : ¬ (-(jfd (-lo) g) ≤ jfd hi g) := by
  have hr := fb_rng lo
  rw [i_lt] at h
  have hneg : (-lo).toInt = -lo.toInt := fb_negI (by omega)
  have e1 : (jfd (-lo) g).toInt = (-lo.toInt) / g.toInt := by rw [jfd_toInt hg, hneg]
  have e2 := jfd_toInt (x := hi) hg
  have h1 := Int.ediv_mul_le (-lo.toInt) (b := g.toInt) (by omega)
  have h2 := Int.ediv_mul_le hi.toInt (b := g.toInt) (by omega)
  have h3 : -2147483647 ≤ (-lo.toInt) / g.toInt := by
    apply Int.le_ediv_of_mul_le (by omega)
    have := Int.mul_le_mul_of_nonpos_left (a := -2147483647) (b := g.toInt) (c := 1) (by omega) (by omega)
    omega
  have e3 : (-(jfd (-lo) g)).toInt = -((-lo.toInt) / g.toInt) := by
    rw [fb_negI (by rw [e1]; omega), e1]
  rw [i_le, e3, e2]
  intro hle
  have h4 : 0 ≤ (hi.toInt / g.toInt + (-lo.toInt) / g.toInt) * g.toInt := Int.mul_nonneg (by omega) (by omega)
  rw [Int.add_mul] at h4
  omega
theorem mt_ofJ {G : g_G} {y : MethodName} {cc : ByteArray} {maxL d : Nat} {ret : Option FieldType} {av : List Value} {M : g_M} {L : g_L} {Qr : Option Value → g_M → g_L → Prop} {own : String} (hy : plainFor y = true) (hown : y.cls = own) (hn : (lg_sl av).length ≤ maxL) (lv : List (Nat × Value)) (hlv : lv_args 0 av = lv) (body : ∀ X : g_X, X.1 = G → Cx X cc maxL own ret d → Rx X Qr → wx X M L 0 lv []) : mt G y (.code y cc maxL ret) d av M L Qr := by
  intro l
  refine va_MetF (cc := cc) (maxL := maxL) (ret := ret) hy rfl ?_
  intro p e s m args below meth c s₁ B hml hv
  obtain ⟨rfl, hH, hK⟩ := hv
  have hts := atoms_spec (ws := Cond.code y cc maxL ret :: g_tb) B.pre
  have hl := lv_entry av (n := maxL) hn
  rw [lg_entry_eq]
  rw [hlv] at hl
  exact body (G, p, l, e, rm d, s, m, av.toArray, below, meth, c, 0, 0, MQ below (g_Qc G Qr) av.toArray s 0 0 (g_A G), maxL) rfl ⟨B.exec, B.bytes, hml, rfl, by rw [← hown]; exact findClass_of_methodNamed B.named, fun w hw => hts w (List.mem_cons_of_mem _ hw), hK, B.returns, B.notSynchronized, ⟨Nat.le_refl _, Nat.le_refl _⟩, Nat.le_refl _, Nat.le_refl _⟩ rfl s.heap [] _ hH va_S.rf hl
theorem mt_mono {G : g_G} {y : MethodName} {cd : Cond} {d : Nat} {av : List Value} {M : g_M} {L : g_L} {Qr Qr2 : Option Value → g_M → g_L → Prop} (h : mt G y cd d av M L Qr) (hq : ∀ r M1 L1, Qr r M1 L1 → Qr2 r M1 L1) : mt G y cd d av M L Qr2 := by
  intro l p e ha hc hk s m args below hf happ hP hK
  obtain ⟨n, o, h1, h2, h3, ⟨⟨⟨r, M1, L1, e1, e2, e3⟩, hF⟩, hL⟩⟩ := h l p e ha hc hk s m args below hf happ hP hK
  exact ⟨n, o, h1, h2, h3, ⟨⟨r, M1, L1, e1, hq _ _ _ e2, e3⟩, hF⟩, hL⟩
set_option maxHeartbeats 4000000 in
set_option maxRecDepth 100000 in
theorem t_J9_floorDiv_7cf53 (G : g_G) (M : g_M) (L : g_L) (x y : Int32) (hy : ¬ y = 0) : mt G yJ9_floorDiv_7cf53 (Cond.code yJ9_floorDiv_7cf53 cJ9_floorDiv_7cf53 3 (some .int)) 0 [.int x, .int y] M L (qI fun v M' L' => v = jfd x y ∧ M = M' ∧ L = L') := by
  refine mt_ofJ (by decide +kernel) rfl (Nat.le_of_ble_eq_true rfl) [(0, .int x), (1, .int y)] rfl (fun X hG C hQ => ?_)
  subst hG
  refine wx_iload_n C 0 dJ9_floorDiv_7cf53_0 rfl rfl ?_
  refine wx_iload_n C 1 dJ9_floorDiv_7cf53_1 rfl rfl ?_
  refine wx_idiv C dJ9_floorDiv_7cf53_2 hy ?_
  refine wx_istore_n C [1, 2, 0] [(0, .int x), (1, .int y), (2, .int (x / y))] dJ9_floorDiv_7cf53_3 rfl (by decide) rfl ?_
  refine wx_iload_n C 0 dJ9_floorDiv_7cf53_4 rfl rfl ?_
  refine wx_iload_n C 1 dJ9_floorDiv_7cf53_5 rfl rfl ?_
  refine wx_ixor C dJ9_floorDiv_7cf53_6 ?_
  refine wx_if_ge C 21 dJ9_floorDiv_7cf53_7 (by decide) (fun c7 => ?_) (fun c7 => ?_)
  · refine wx_iload_n C 2 dJ9_floorDiv_7cf53_21 rfl rfl ?_
    refine wx_iret C hQ dJ9_floorDiv_7cf53_22 ?_
    refine ⟨_, rfl, ?_, rfl, rfl⟩
    unfold jfd
    first
    | rw [if_pos c7]
    | rw [if_neg c7, if_pos c14]
  · refine wx_iload_n C 2 dJ9_floorDiv_7cf53_10 rfl rfl ?_
    refine wx_iload_n C 1 dJ9_floorDiv_7cf53_11 rfl rfl ?_
    refine wx_imul C dJ9_floorDiv_7cf53_12 ?_
    refine wx_iload_n C 0 dJ9_floorDiv_7cf53_13 rfl rfl ?_
    refine wx_icmp_eq C 21 dJ9_floorDiv_7cf53_14 (by decide) (fun c14 => ?_) (fun c14 => ?_)
    · refine wx_iload_n C 2 dJ9_floorDiv_7cf53_21 rfl rfl ?_
      refine wx_iret C hQ dJ9_floorDiv_7cf53_22 ?_
      refine ⟨_, rfl, ?_, rfl, rfl⟩
      unfold jfd
      first
      | rw [if_pos c7]
      | rw [if_neg c7, if_pos c14]
    · refine wx_iload_n C 2 dJ9_floorDiv_7cf53_17 rfl rfl ?_
      refine wx_iconst C 1 dJ9_floorDiv_7cf53_18 (by decide) ?_
      refine wx_isub C dJ9_floorDiv_7cf53_19 ?_
      refine wx_iret C hQ dJ9_floorDiv_7cf53_20 ?_
      exact ⟨_, rfl, by unfold jfd; rw [if_neg c7, if_neg c14], rfl, rfl⟩
end
section
/-! ===== Net: lines by an axis ===== -/
/-- what lines by an axis hang on: hours, places, END, GRID, the row's dots and their number -/
abbrev Lp : Type := (Nat → Int32) × (Nat → Int32) × Int32 × Int32 × (Nat → Nat) × Nat
def lo1 (t z : Nat → Int32) (e v : Int32) (r : Nat → Nat) : Nat → Int32
  | 0 => -2000
  | i + 1 => if lo1 t z e v r i < z (r i) - v * t (r i) - e then z (r i) - v * t (r i) - e else lo1 t z e v r i
def hi1 (t z : Nat → Int32) (e v : Int32) (r : Nat → Nat) : Nat → Int32
  | 0 => 2000
  | i + 1 => if z (r i) - v * t (r i) + e < hi1 t z e v r i then z (r i) - v * t (r i) + e else hi1 t z e v r i
def spL (p : Lp) (v : Int32) : Int32 := -(jfd (-(lo1 p.1 p.2.1 p.2.2.1 v p.2.2.2.2.1 p.2.2.2.2.2)) p.2.2.2.1)
def spG (p : Lp) (v : Int32) : Int32 := jfd (hi1 p.1 p.2.1 p.2.2.1 v p.2.2.2.2.1 p.2.2.2.2.2) p.2.2.2.1
def spK (p : Lp) (v : Int32) : Bool := decide (spL p v ≤ spG p v)
theorem lo1_up {t z : Nat → Int32} {e v : Int32} {r : Nat → Nat} {i : Nat} : ∀ n, (lo1 t z e v r i).toInt ≤ (lo1 t z e v r (i + n)).toInt
  | 0 => Int.le_refl _
  | n + 1 => by
    have h := lo1_up (t := t) (z := z) (e := e) (v := v) (r := r) (i := i) n
    rw [← Nat.add_assoc, lo1]
    split
    · rename_i h2
      rw [i_lt] at h2
      omega
    · exact h
theorem hi1_dn {t z : Nat → Int32} {e v : Int32} {r : Nat → Nat} {i : Nat} : ∀ n, (hi1 t z e v r (i + n)).toInt ≤ (hi1 t z e v r i).toInt
  | 0 => Int.le_refl _
  | n + 1 => by
    have h := hi1_dn (t := t) (z := z) (e := e) (v := v) (r := r) (i := i) n
    rw [← Nat.add_assoc, hi1]
    split
    · rename_i h2
      rw [i_lt] at h2
      omega
    · exact h
theorem lo1_ge {t z : Nat → Int32} {e v : Int32} {r : Nat → Nat} (i : Nat) : -2000 ≤ (lo1 t z e v r i).toInt := by
  have h := lo1_up (t := t) (z := z) (e := e) (v := v) (r := r) (i := 0) i
  rw [Nat.zero_add] at h
  exact h
theorem hi1_le {t z : Nat → Int32} {e v : Int32} {r : Nat → Nat} (i : Nat) : (hi1 t z e v r i).toInt ≤ 2000 := by
  have h := hi1_dn (t := t) (z := z) (e := e) (v := v) (r := r) (i := 0) i
  rw [Nat.zero_add] at h
  exact h
theorem sp_early {p : Lp} {v : Int32} {i : Nat} (hg : 1 ≤ p.2.2.2.1.toInt) (hi : i ≤ p.2.2.2.2.2) (h : hi1 p.1 p.2.1 p.2.2.1 v p.2.2.2.2.1 i < lo1 p.1 p.2.1 p.2.2.1 v p.2.2.2.2.1 i) : spK p v = false := by
  have h1 := lo1_up (t := p.1) (z := p.2.1) (e := p.2.2.1) (v := v) (r := p.2.2.2.2.1) (i := i) (p.2.2.2.2.2 - i)
  have h2 := hi1_dn (t := p.1) (z := p.2.1) (e := p.2.2.1) (v := v) (r := p.2.2.2.2.1) (i := i) (p.2.2.2.2.2 - i)
  rw [show i + (p.2.2.2.2.2 - i) = p.2.2.2.2.2 by omega] at h1 h2
  rw [i_lt] at h
  unfold spK spL spG
  rw [decide_eq_false_iff_not]
  exact fd_gap hg (lo1_ge _) (by rw [i_lt]; omega)
/-- a row that is one: length and dots -/
def rok (M : g_M) (k l : Nat) (r : Nat → Nat) : Prop := g_row k ∧ M k 1 = nI l ∧ l ≤ 16 ∧ ∀ i, i < l → M (k + 1) i = nI (r i) ∧ r i < 60
def cLp (M : g_M) (ax : Int32) (r : Nat → Nat) (l : Nat) : Lp := (M 2, plc (M 3) (M 4) ax, M 7 2, M 7 1, r, l)
/-- the Net's own two numbers are told anew -/
def nt (M : g_M) (a b : Int32) : g_M := g_st (g_st M 7 3 a) 7 4 b
theorem nt_ap (M : g_M) (a b : Int32) (x y : Nat) : nt M a b x y = if x = 7 ∧ y = 4 then b else if x = 7 ∧ y = 3 then a else M x y := by
  unfold nt; rw [g_st_ap, g_st_ap]
theorem nt_o (M : g_M) (a b : Int32) {x : Nat} (h : x ≠ 7) : nt M a b x = M x := by
  funext y
  rw [nt_ap, if_neg (by omega), if_neg (by omega)]
theorem nt_nt (M : g_M) (a b c d : Int32) : nt (nt M a b) c d = nt M c d := by
  funext x y
  simp only [nt_ap]
  (repeat' split) <;> first | rfl | (exfalso; omega)
theorem nt_self (M : g_M) : nt M (M 7 3) (M 7 4) = M := by
  funext x y
  simp only [nt_ap]
  (repeat' split)
  · rename_i h; rw [h.1, h.2]
  · rename_i h; rw [h.1, h.2]
  · rfl
theorem nt_cLp (M : g_M) (a b ax : Int32) (r : Nat → Nat) (l : Nat) : cLp (nt M a b) ax r l = cLp M ax r l := rfl
theorem g_row_7 {j : Nat} (h : g_row j) : j ≠ 7 ∧ j + 1 ≠ 7 := by
  rcases h with rfl | rfl | ⟨p, hp, rfl⟩ | ⟨i, hi, rfl⟩ <;> omega
theorem rok.nt {M : g_M} {k l : Nat} {r : Nat → Nat} (h : rok M k l r) (a b : Int32) : rok (nt M a b) k l r := by
  obtain ⟨h1, h2, h3, h4⟩ := h
  obtain ⟨e1, e2⟩ := g_row_7 h1
  exact ⟨h1, by rw [nt_o _ _ _ e1]; exact h2, h3, fun i hi => by rw [nt_o _ _ _ e2]; exact h4 i hi⟩
theorem stp1 {g : Int32} (h : 1 ≤ g.toInt) : (if 1 < g then g else 1) = g := by
  split
  · rfl
  · rename_i h2
    rw [i_lt, show (1 : Int32).toInt = 1 from rfl] at h2
    rw [i_eq, show (1 : Int32).toInt = 1 from rfl]
    omega
theorem ne0_1 {g : Int32} (h : 1 ≤ g.toInt) : ¬ g = 0 := by
  intro e
  rw [e, show (0 : Int32).toInt = 0 from rfl] at h
  omega
/-- what span leaves -/
def spP (M : g_M) (L : g_L) (p : Lp) (v : Int32) : Int32 → g_M → g_L → Prop := fun u M' L' => L = L' ∧ u = bI (spK p v) ∧ ∃ a b, M' = nt M a b ∧ (spK p v = true → a = spL p v ∧ b = spG p v)
set_option maxHeartbeats 4000000 in
set_option maxRecDepth 100000 in
theorem e_X4_span {X : g_X} {Qr : Option Value → g_M → g_L → Prop} (C : Cx X cX4_span 9 RX4 (some .boolean) 1) (hQ : Rx X Qr) {M : g_M} {L : g_L} {k l : Nat} {r : Nat → Nat} {ax v lo hi x6 : Int32} (hk : rok M k l r) (hg0 : 1 ≤ (M 7 1).toInt) (hK0 : spK (cLp M ax r l) v = decide (-(jfd (-lo) (M 7 1)) ≤ jfd hi (M 7 1))) (hE0 : spK (cLp M ax r l) v = true → -(jfd (-lo) (M 7 1)) = spL (cLp M ax r l) v ∧ jfd hi (M 7 1) = spG (cLp M ax r l) v) (hp : ∀ u M1 L1, spP M L (cLp M ax r l) v u M1 L1 → Qr (some (.int u)) M1 L1) : wx X M L 97 [(0, .ref (X.1.1 + 7)), (1, .ref (X.1.1 + k)), (2, .int ax), (3, .int v), (4, .int lo), (5, .int hi), (6, .int x6)] [] := by
  refine wx_iconst C 1 dX4_span_97 (by decide) ?_
  refine wx_aload_n C 0 dX4_span_98 rfl rfl ?_
  refine gf_X4_9 C dX4_span_99 ?_
  refine wx_mmax C w2_192 w2_193 w1_13 w2_194 (by decide) (Nat.le_of_ble_eq_true rfl) dX4_span_102 ?_
  refine wx_nmi (fun stp hstp => ?_)
  have hstp : stp = M 7 1 := hstp.trans (stp1 hg0)
  have hg : 1 ≤ stp.toInt := by rw [hstp]; exact hg0
  refine wx_istore C [1, 2, 3, 4, 5, 6, 0] [(0, .ref (X.1.1 + 7)), (1, .ref (X.1.1 + k)), (2, .int ax), (3, .int v), (4, .int lo), (5, .int hi), (6, .int stp)] dX4_span_105 (by decide) rfl ?_
  refine wx_aload_n C 0 dX4_span_107 rfl rfl ?_
  refine wx_iload C 4 dX4_span_108 rfl ?_
  refine wx_ineg C dX4_span_110 ?_
  refine wx_iload C 6 dX4_span_111 rfl ?_
  refine ca_X4_48 C (rest := [.ref (X.1.1 + 7)]) (t_J9_floorDiv_7cf53 X.1 M L (-lo) stp (ne0_1 hg)) (by decide) rfl rfl (Nat.le_of_ble_eq_true rfl) dX4_span_113 (kI fun r113 M113 L113 q113 => ?_)
  obtain ⟨rfl, rfl, rfl⟩ := q113
  refine wx_ineg C dX4_span_116 ?_
  refine pf_X4_51 C dX4_span_117 ?_
  refine wx_aload_n C 0 dX4_span_120 rfl rfl ?_
  refine wx_iload C 5 dX4_span_121 rfl ?_
  refine wx_iload C 6 dX4_span_123 rfl ?_
  refine ca_X4_48 C (rest := [.ref (X.1.1 + 7)]) (t_J9_floorDiv_7cf53 X.1 (g_st M 7 3 (-(jfd (-lo) stp))) L hi stp (ne0_1 hg)) (by decide) rfl rfl (Nat.le_of_ble_eq_true rfl) dX4_span_125 (kI fun r125 M125 L125 q125 => ?_)
  obtain ⟨rfl, rfl, rfl⟩ := q125
  refine pf_X4_54 C dX4_span_128 ?_
  refine wx_aload_n C 0 dX4_span_131 rfl rfl ?_
  refine gf_X4_51 C dX4_span_132 ?_
  refine wx_aload_n C 0 dX4_span_135 rfl rfl ?_
  refine gf_X4_54 C dX4_span_136 ?_
  refine wx_icmp_gt C 146 dX4_span_139 (by decide) (fun c139 => ?_) (fun c139 => ?_)
  · refine wx_iconst C 0 dX4_span_146 (by decide) ?_
    refine wx_zret C hQ dX4_span_147 (by decide) ?_
    refine hp _ _ _ ⟨rfl, ?_, _, _, rfl, ?_⟩
    · rw [(show spK (cLp M ax r l) v = decide (-(jfd (-lo) stp) ≤ jfd hi stp) by rw [hstp]; exact hK0)]
      simp only [g_st_ap] at c139
      rw [decide_eq_false]
      · rfl
      · simpa using c139
    · intro hk2
      rw [hstp]; exact hE0 hk2
  · refine wx_iconst C 1 dX4_span_142 (by decide) ?_
    refine wx_goto C 147 dX4_span_143 (by decide) ?_
    refine wx_zret C hQ dX4_span_147 (by decide) ?_
    refine hp _ _ _ ⟨rfl, ?_, _, _, rfl, ?_⟩
    · rw [(show spK (cLp M ax r l) v = decide (-(jfd (-lo) stp) ≤ jfd hi stp) by rw [hstp]; exact hK0)]
      simp only [g_st_ap] at c139
      rw [decide_eq_true]
      · rfl
      · simpa using c139
    · intro hk2
      rw [hstp]; exact hE0 hk2
set_option maxHeartbeats 4000000 in
set_option maxRecDepth 100000 in
theorem lp_X4_span {X : g_X} {Qr : Option Value → g_M → g_L → Prop} (C : Cx X cX4_span 9 RX4 (some .boolean) 1) (hQ : Rx X Qr) {M : g_M} {L : g_L} {k l : Nat} {r : Nat → Nat} {ax v : Int32} (hk : rok M k l r) (hg0 : 1 ≤ (M 7 1).toInt) (hp : ∀ u M1 L1, spP M L (cLp M ax r l) v u M1 L1 → Qr (some (.int u)) M1 L1) : ∀ (n i : Nat), i ≤ l → l < i + n → wx X M L 13 [(0, .ref (X.1.1 + 7)), (1, .ref (X.1.1 + k)), (2, .int ax), (3, .int v), (4, .int (lo1 (M 2) (plc (M 3) (M 4) ax) (M 7 2) v r i)), (5, .int (hi1 (M 2) (plc (M 3) (M 4) ax) (M 7 2) v r i)), (6, .int (nI i))] [] := by
  intro n
  induction n with
  | zero =>
    intro i h1 h2
    exact absurd h2 (by omega)
  | succ n ih =>
    intro i hi0 hin
    refine wx_iload C 6 dX4_span_13 rfl ?_
    refine wx_aload_n C 1 dX4_span_15 rfl rfl ?_
    refine gf_X4_22 C hk.1 dX4_span_16 ?_
    refine wx_icmp_ge C 97 dX4_span_19 (by decide) (fun c19 => ?_) (fun c19 => ?_)
    · first
      | exact e_X4_span C hQ hk hg0 (by rw [sp_early (p := cLp M ax r l) hg0 hi0 c26]; exact (decide_eq_false (fd_gap hg0 (lo1_ge _) c26)).symm) (fun h => by rw [sp_early (p := cLp M ax r l) hg0 hi0 c26] at h; cases h) hp
      | (have hib : i = l := by
          rw [hk.2.1] at c19
          have := hk.2.2.1
          exact Nat.le_antisymm hi0 ((nI_leI (by omega) (by omega)).mp c19)
         rw [hib]
         exact e_X4_span C hQ hk hg0 rfl (fun _ => ⟨rfl, rfl⟩) hp)
    · have hi : i < l := by
        rw [hk.2.1] at c19
        have := hk.2.2.1
        exact Nat.lt_of_not_le (fun h => c19 ((nI_leI (by omega) (by omega)).mpr h))
      refine wx_iload C 4 dX4_span_22 rfl ?_
      refine wx_iload C 5 dX4_span_24 rfl ?_
      refine wx_icmp_gt C 97 dX4_span_26 (by decide) (fun c26 => ?_) (fun c26 => ?_)
      · first
        | exact e_X4_span C hQ hk hg0 (by rw [sp_early (p := cLp M ax r l) hg0 hi0 c26]; exact (decide_eq_false (fd_gap hg0 (lo1_ge _) c26)).symm) (fun h => by rw [sp_early (p := cLp M ax r l) hg0 hi0 c26] at h; cases h) hp
        | (have hib : i = l := by
            rw [hk.2.1] at c19
            have := hk.2.2.1
            exact Nat.le_antisymm hi0 ((nI_leI (by omega) (by omega)).mp c19)
           rw [hib]
           exact e_X4_span C hQ hk hg0 rfl (fun _ => ⟨rfl, rfl⟩) hp)
      · refine wx_aload_n C 1 dX4_span_29 rfl rfl ?_
        refine gf_X4_27 C hk.1 dX4_span_30 ?_
        refine wx_iload C 6 dX4_span_33 rfl ?_
        refine wx_iald C (k + 1) i (g_row_lt2 hk.1) (sh_rowD hk.1) (by decide) dX4_span_35 rfl (by have := hk.2.2.1; omega) ?_
        refine wx_istore C [1, 2, 3, 4, 5, 6, 7, 0] [(0, .ref (X.1.1 + 7)), (1, .ref (X.1.1 + k)), (2, .int ax), (3, .int v), (4, .int (lo1 (M 2) (plc (M 3) (M 4) ax) (M 7 2) v r i)), (5, .int (hi1 (M 2) (plc (M 3) (M 4) ax) (M 7 2) v r i)), (6, .int (nI i)), (7, .int (M (k + 1) i))] dX4_span_36 (by decide) rfl ?_
        refine wx_aload_n C 0 dX4_span_38 rfl rfl ?_
        refine gf_X4_18 C dX4_span_39 ?_
        refine wx_iload C 7 dX4_span_42 rfl ?_
        refine wx_iload_n C 2 dX4_span_44 rfl rfl ?_
        refine ca_X4_31 C (rest := []) (t_X7_placeOf X.1 M L (hk.2.2.2 i hi).1 (hk.2.2.2 i hi).2 ax) (by decide) rfl (by decide) rfl rfl (Nat.le_of_ble_eq_true rfl) dX4_span_45 (kI fun r45 M45 L45 q45 => ?_)
        obtain ⟨rfl, rfl, rfl⟩ := q45
        refine wx_iload_n C 3 dX4_span_48 rfl rfl ?_
        refine wx_aload_n C 0 dX4_span_49 rfl rfl ?_
        refine gf_X4_18 C dX4_span_50 ?_
        refine gf_X4_37 C dX4_span_53 ?_
        refine wx_iload C 7 dX4_span_56 rfl ?_
        refine wx_iald C 2 (r i) (by decide) (fun _ _ => rfl) (by decide) dX4_span_58 ((hk.2.2.2 i hi).1) (hk.2.2.2 i hi).2 ?_
        refine wx_imul C dX4_span_59 ?_
        refine wx_isub C dX4_span_60 ?_
        refine wx_istore C [1, 2, 3, 4, 5, 6, 7, 8, 0] [(0, .ref (X.1.1 + 7)), (1, .ref (X.1.1 + k)), (2, .int ax), (3, .int v), (4, .int (lo1 (M 2) (plc (M 3) (M 4) ax) (M 7 2) v r i)), (5, .int (hi1 (M 2) (plc (M 3) (M 4) ax) (M 7 2) v r i)), (6, .int (nI i)), (7, .int (M (k + 1) i)), (8, .int ((plc (M 3) (M 4) ax (r i)) - (v * (M 2 (r i)))))] dX4_span_61 (by decide) rfl ?_
        refine wx_iload C 4 dX4_span_63 rfl ?_
        refine wx_iload C 8 dX4_span_65 rfl ?_
        refine wx_aload_n C 0 dX4_span_67 rfl rfl ?_
        refine gf_X4_15 C dX4_span_68 ?_
        refine wx_isub C dX4_span_71 ?_
        refine wx_mmax C w2_192 w2_193 w1_13 w2_194 (by decide) (Nat.le_of_ble_eq_true rfl) dX4_span_72 ?_
        refine wx_istore C [1, 2, 3, 4, 0, 5, 6, 7, 8] [(0, .ref (X.1.1 + 7)), (1, .ref (X.1.1 + k)), (2, .int ax), (3, .int v), (4, .int (if (lo1 (M 2) (plc (M 3) (M 4) ax) (M 7 2) v r i) < (((plc (M 3) (M 4) ax (r i)) - (v * (M 2 (r i)))) - (M 7 2)) then (((plc (M 3) (M 4) ax (r i)) - (v * (M 2 (r i)))) - (M 7 2)) else (lo1 (M 2) (plc (M 3) (M 4) ax) (M 7 2) v r i))), (5, .int (hi1 (M 2) (plc (M 3) (M 4) ax) (M 7 2) v r i)), (6, .int (nI i)), (7, .int (M (k + 1) i)), (8, .int ((plc (M 3) (M 4) ax (r i)) - (v * (M 2 (r i)))))] dX4_span_75 (by decide) rfl ?_
        refine wx_iload C 5 dX4_span_77 rfl ?_
        refine wx_iload C 8 dX4_span_79 rfl ?_
        refine wx_aload_n C 0 dX4_span_81 rfl rfl ?_
        refine gf_X4_15 C dX4_span_82 ?_
        refine wx_iadd C dX4_span_85 ?_
        refine wx_mmin C w2_195 w2_196 w1_13 w2_197 (by decide) (Nat.le_of_ble_eq_true rfl) dX4_span_86 ?_
        refine wx_istore C [1, 2, 3, 4, 5, 0, 6, 7, 8] [(0, .ref (X.1.1 + 7)), (1, .ref (X.1.1 + k)), (2, .int ax), (3, .int v), (4, .int (if (lo1 (M 2) (plc (M 3) (M 4) ax) (M 7 2) v r i) < (((plc (M 3) (M 4) ax (r i)) - (v * (M 2 (r i)))) - (M 7 2)) then (((plc (M 3) (M 4) ax (r i)) - (v * (M 2 (r i)))) - (M 7 2)) else (lo1 (M 2) (plc (M 3) (M 4) ax) (M 7 2) v r i))), (5, .int (if (((plc (M 3) (M 4) ax (r i)) - (v * (M 2 (r i)))) + (M 7 2)) < (hi1 (M 2) (plc (M 3) (M 4) ax) (M 7 2) v r i) then (((plc (M 3) (M 4) ax (r i)) - (v * (M 2 (r i)))) + (M 7 2)) else (hi1 (M 2) (plc (M 3) (M 4) ax) (M 7 2) v r i))), (6, .int (nI i)), (7, .int (M (k + 1) i)), (8, .int ((plc (M 3) (M 4) ax (r i)) - (v * (M 2 (r i)))))] dX4_span_89 (by decide) rfl ?_
        refine wx_iinc C (v := (nI (i + 1))) 6 [1, 2, 3, 4, 5, 6, 0, 7, 8] [(0, .ref (X.1.1 + 7)), (1, .ref (X.1.1 + k)), (2, .int ax), (3, .int v), (4, .int (if (lo1 (M 2) (plc (M 3) (M 4) ax) (M 7 2) v r i) < (((plc (M 3) (M 4) ax (r i)) - (v * (M 2 (r i)))) - (M 7 2)) then (((plc (M 3) (M 4) ax (r i)) - (v * (M 2 (r i)))) - (M 7 2)) else (lo1 (M 2) (plc (M 3) (M 4) ax) (M 7 2) v r i))), (5, .int (if (((plc (M 3) (M 4) ax (r i)) - (v * (M 2 (r i)))) + (M 7 2)) < (hi1 (M 2) (plc (M 3) (M 4) ax) (M 7 2) v r i) then (((plc (M 3) (M 4) ax (r i)) - (v * (M 2 (r i)))) + (M 7 2)) else (hi1 (M 2) (plc (M 3) (M 4) ax) (M 7 2) v r i))), (6, .int (nI (i + 1))), (7, .int (M (k + 1) i)), (8, .int ((plc (M 3) (M 4) ax (r i)) - (v * (M 2 (r i)))))] dX4_span_91 rfl (nI_1 _) (by decide) rfl ?_
        refine wx_goto C 13 dX4_span_94 (by decide) ?_
        exact wx_sub [0, 1, 2, 3, 4, 5, 6] rfl (ih (i + 1) (by omega) (by omega))
set_option maxHeartbeats 4000000 in
set_option maxRecDepth 100000 in
theorem t_X4_span (G : g_G) (M : g_M) (L : g_L) {k l : Nat} {r : Nat → Nat} (hk : rok M k l r) (hg0 : 1 ≤ (M 7 1).toInt) (ax v : Int32) : mt G yX4_span (Cond.code yX4_span cX4_span 9 (some .boolean)) 1 [.ref (G.1 + 7), .ref (G.1 + k), .int ax, .int v] M L (qI (spP M L (cLp M ax r l) v)) := by
  refine mt_of (by decide) rfl (Nat.le_of_ble_eq_true rfl) [(0, .ref (G.1 + 7)), (1, .ref (G.1 + k)), (2, .int ax), (3, .int v)] rfl (fun X hG C hQ => ?_)
  subst hG
  refine wx_sipush C (-2000) dX4_span_0 (by decide) ?_
  refine wx_istore C [1, 2, 3, 4, 0] [(0, .ref (X.1.1 + 7)), (1, .ref (X.1.1 + k)), (2, .int ax), (3, .int v), (4, .int (-2000))] dX4_span_3 (by decide) rfl ?_
  refine wx_sipush C 2000 dX4_span_5 (by decide) ?_
  refine wx_istore C [1, 2, 3, 4, 5, 0] [(0, .ref (X.1.1 + 7)), (1, .ref (X.1.1 + k)), (2, .int ax), (3, .int v), (4, .int (-2000)), (5, .int 2000)] dX4_span_8 (by decide) rfl ?_
  refine wx_iconst C 0 dX4_span_10 (by decide) ?_
  refine wx_istore C [1, 2, 3, 4, 5, 6, 0] [(0, .ref (X.1.1 + 7)), (1, .ref (X.1.1 + k)), (2, .int ax), (3, .int v), (4, .int (-2000)), (5, .int 2000), (6, .int 0)] dX4_span_11 (by decide) rfl ?_
  exact lp_X4_span C hQ hk hg0 (fun u M1 L1 h => ⟨u, rfl, h⟩) (l + 1) 0 (by omega) (by omega)
end
section
/-! ===== Net: heaps ===== -/
/-- the s-th speed -/
def vs (s : Nat) : Int32 := nI s + (-20)
theorem vs_1 (s : Nat) : vs s + 1 = vs (s + 1) := by
  unfold vs
  rw [← nI_1, Int32.add_assoc, Int32.add_assoc, Int32.add_comm (-20) 1]
theorem vs_toInt {s : Nat} (h : s ≤ 41) : (vs s).toInt = (s : Int) - 20 := by
  unfold vs
  have e1 : (nI s).toInt = (s : Int) := nI_toInt (by omega)
  have e2 : (-20 : Int32).toInt = -20 := rfl
  rw [fb_addI (by rw [e1, e2]; omega) (by rw [e1, e2]; omega), e1, e2]
  omega
theorem vs_gt {s : Nat} (h : s ≤ 41) : 20 < vs s ↔ s = 41 := by
  rw [i_lt, vs_toInt h, show (20 : Int32).toInt = 20 from rfl]
  omega
def cnI (p : Lp) (v : Int32) : Int32 := if spK p v then spG p v - spL p v + 1 else 0
def sumL (p : Lp) : Nat → Int64
  | 0 => 0
  | s + 1 => sumL p s + (cnI p (vs s)).toInt64
def anyS (p : Lp) : Nat → Bool
  | 0 => false
  | s + 1 => anyS p s || spK p (vs s)
theorem anyS_up {p : Lp} {s : Nat} (h : anyS p s = true) : ∀ n, anyS p (s + n) = true
  | 0 => h
  | n + 1 => by
    rw [← Nat.add_assoc, anyS, anyS_up h n]
    rfl
theorem anyS_at {p : Lp} {s n : Nat} (hs : s < n) (h : spK p (vs s) = true) : anyS p n = true := by
  have h1 : anyS p (s + 1) = true := by rw [anyS, h, Bool.or_true]
  have h2 := anyS_up h1 (n - (s + 1))
  rwa [show s + 1 + (n - (s + 1)) = n by omega] at h2
/-- a heap is not empty -/
def snd (M : g_M) (r : Nat → Nat) (l : Nat) : Bool := anyS (cLp M 0 r l) 41 && anyS (cLp M 1 r l) 41
def NO : Int64 := -9223372036854775808
/-- what a line with the start a by GRID and the speed v has at an hour -/
def thr (g a v h : Int32) : Int64 := a.toInt64 * g.toInt64 + (v * h).toInt64
def edS (p : Lp) (h : Int32) (w : Bool) : Nat → Int64
  | 0 => NO
  | s + 1 => if spK p (vs s) then (if edS p h w s = NO ∨ (if w then edS p h w s < thr p.2.2.2.1 (if w then spG p (vs s) else spL p (vs s)) (vs s) h else thr p.2.2.2.1 (if w then spG p (vs s) else spL p (vs s)) (vs s) h < edS p h w s) then thr p.2.2.2.1 (if w then spG p (vs s) else spL p (vs s)) (vs s) h else edS p h w s) else edS p h w s
/-- span from a memory whose Net has been used -/
theorem t_span2 (G : g_G) (M : g_M) (L : g_L) {k l : Nat} {r : Nat → Nat} (hk : rok M k l r) (hg0 : 1 ≤ (M 7 1).toInt) (a b ax v : Int32) : mt G yX4_span (Cond.code yX4_span cX4_span 9 (some .boolean)) 1 [.ref (G.1 + 7), .ref (G.1 + k), .int ax, .int v] (nt M a b) L (qI fun u M' L' => L = L' ∧ u = bI (spK (cLp M ax r l) v) ∧ ∃ a1 b1, M' = nt M a1 b1 ∧ (spK (cLp M ax r l) v = true → a1 = spL (cLp M ax r l) v ∧ b1 = spG (cLp M ax r l) v)) := by
  refine mt_mono (t_X4_span G (nt M a b) L (hk.nt a b) hg0 ax v) (fun r M1 L1 h => ?_)
  obtain ⟨u, e, h1, h2, a1, b1, h3, h4⟩ := h
  rw [nt_nt] at h3
  exact ⟨u, e, h1, h2, a1, b1, h3, h4⟩
set_option maxHeartbeats 4000000 in
set_option maxRecDepth 100000 in
theorem lp_X4_linesBy {X : g_X} {Qr : Option Value → g_M → g_L → Prop} (C : Cx X cX4_linesBy 6 RX4 (some .long) 2) (hQ : Rx X Qr) {M : g_M} {L : g_L} {k l : Nat} {r : Nat → Nat} {ax : Int32} (hk : rok M k l r) (hg0 : 1 ≤ (M 7 1).toInt) (hp : ∀ a b, Qr (some (.long (sumL (cLp M ax r l) 41))) (nt M a b) L) : ∀ (n i : Nat), i ≤ 41 → 41 < i + n → ∀ (a b : Int32), wx X (nt M a b) L 6 [(0, .ref (X.1.1 + 7)), (1, .ref (X.1.1 + k)), (2, .int ax), (3, .long (sumL (cLp M ax r l) i)), (5, .int (vs i))] [] := by
  intro n
  induction n with
  | zero =>
    intro i h1 h2
    exact absurd h2 (by omega)
  | succ n ih =>
    intro i hi0 hin a b
    refine wx_iload C 4 dX4_linesBy_6 rfl ?_
    refine wx_bipush C 20 dX4_linesBy_8 (by decide) ?_
    refine wx_icmp_gt C 45 dX4_linesBy_10 (by decide) (fun c10 => ?_) (fun c10 => ?_)
    · have hs : i = 41 := (vs_gt hi0).mp c10
      refine wx_lload_n C 3 dX4_linesBy_45 rfl rfl ?_
      refine wx_lret C hQ dX4_linesBy_46 ?_
      rw [hs]
      exact hp a b
    · have hs : i < 41 := by
        rw [vs_gt hi0] at c10
        omega
      refine wx_aload_n C 0 dX4_linesBy_13 rfl rfl ?_
      refine wx_aload_n C 1 dX4_linesBy_14 rfl rfl ?_
      refine wx_iload_n C 2 dX4_linesBy_15 rfl rfl ?_
      refine wx_iload C 4 dX4_linesBy_16 rfl ?_
      refine ca_X4_57 C (rest := []) (t_span2 X.1 M L hk hg0 a b ax (vs i)) (by decide) rfl (by decide) rfl rfl (Nat.le_of_ble_eq_true rfl) dX4_linesBy_18 (kI fun r18 M18 L18 q18 => ?_)
      obtain ⟨rfl, rfl, a18, b18, rfl, hab⟩ := q18
      refine wx_if_eq C 39 dX4_linesBy_21 (by decide) (fun c21 => ?_) (fun c21 => ?_)
      · refine wx_iinc C (v := (vs (i + 1))) 4 [1, 2, 3, 4, 0] [(0, .ref (X.1.1 + 7)), (1, .ref (X.1.1 + k)), (2, .int ax), (3, .long (sumL (cLp M ax r l) i)), (5, .int (vs (i + 1)))] dX4_linesBy_39 rfl (vs_1 i) (by decide) rfl ?_
        refine wx_goto C 6 dX4_linesBy_42 (by decide) ?_
        have h := ih (i + 1) (by omega) (by omega) a18 b18
        simp only [sumL, cnI] at h
        rw [if_neg (by rw [bI_0.mp c21]; decide)] at h
        rw [show (0 : Int32).toInt64 = 0 from rfl, Int64.add_zero] at h
        exact h
      · refine wx_lload_n C 3 dX4_linesBy_24 rfl rfl ?_
        refine wx_aload_n C 0 dX4_linesBy_25 rfl rfl ?_
        refine gf_X4_54 C dX4_linesBy_26 ?_
        refine wx_aload_n C 0 dX4_linesBy_29 rfl rfl ?_
        refine gf_X4_51 C dX4_linesBy_30 ?_
        refine wx_isub C dX4_linesBy_33 ?_
        refine wx_iconst C 1 dX4_linesBy_34 (by decide) ?_
        refine wx_iadd C dX4_linesBy_35 ?_
        refine wx_i2l C dX4_linesBy_36 ?_
        refine wx_ladd C dX4_linesBy_37 ?_
        refine wx_lstore_n C [1, 2, 3, 0, 4] [(0, .ref (X.1.1 + 7)), (1, .ref (X.1.1 + k)), (2, .int ax), (3, .long ((sumL (cLp M ax r l) i) + (((((nt M a18 b18) 7 4) - ((nt M a18 b18) 7 3)) + 1).toInt64))), (5, .int (vs i))] dX4_linesBy_38 rfl (by decide) rfl ?_
        refine wx_iinc C (v := (vs (i + 1))) 4 [1, 2, 3, 4, 0] [(0, .ref (X.1.1 + 7)), (1, .ref (X.1.1 + k)), (2, .int ax), (3, .long ((sumL (cLp M ax r l) i) + (((((nt M a18 b18) 7 4) - ((nt M a18 b18) 7 3)) + 1).toInt64))), (5, .int (vs (i + 1)))] dX4_linesBy_39 rfl (vs_1 i) (by decide) rfl ?_
        refine wx_goto C 6 dX4_linesBy_42 (by decide) ?_
        have h := ih (i + 1) (by omega) (by omega) a18 b18
        simp only [sumL, cnI] at h
        obtain ⟨rfl, rfl⟩ := hab (bI_n0.mp c21)
        rw [if_pos (bI_n0.mp c21)] at h
        exact h
set_option maxHeartbeats 4000000 in
set_option maxRecDepth 100000 in
theorem t_X4_linesBy (G : g_G) (M : g_M) (L : g_L) {k l : Nat} {r : Nat → Nat} (hk : rok M k l r) (hg0 : 1 ≤ (M 7 1).toInt) (ax : Int32) : mt G yX4_linesBy (Cond.code yX4_linesBy cX4_linesBy 6 (some .long)) 2 [.ref (G.1 + 7), .ref (G.1 + k), .int ax] M L (qL fun v M' L' => L = L' ∧ v = sumL (cLp M ax r l) 41 ∧ ∃ a b, M' = nt M a b) := by
  refine mt_of (by decide) rfl (Nat.le_of_ble_eq_true rfl) [(0, .ref (G.1 + 7)), (1, .ref (G.1 + k)), (2, .int ax)] rfl (fun X hG C hQ => ?_)
  subst hG
  refine wx_lconst C 0 dX4_linesBy_0 (by decide) ?_
  refine wx_lstore_n C [1, 2, 3, 0] [(0, .ref (X.1.1 + 7)), (1, .ref (X.1.1 + k)), (2, .int ax), (3, .long 0)] dX4_linesBy_1 rfl (by decide) rfl ?_
  refine wx_bipush C (-20) dX4_linesBy_2 (by decide) ?_
  refine wx_istore C [1, 2, 3, 4, 0] [(0, .ref (X.1.1 + 7)), (1, .ref (X.1.1 + k)), (2, .int ax), (3, .long 0), (5, .int (-20))] dX4_linesBy_4 (by decide) rfl ?_
  have h := lp_X4_linesBy C hQ hk hg0 (fun a b => ⟨_, rfl, rfl, rfl, a, b, rfl⟩) 42 0 (by omega) (by omega) (M 7 3) (M 7 4)
  rw [nt_self] at h
  exact h
theorem t_linesBy2 (G : g_G) (M : g_M) (L : g_L) {k l : Nat} {r : Nat → Nat} (hk : rok M k l r) (hg0 : 1 ≤ (M 7 1).toInt) (a b ax : Int32) : mt G yX4_linesBy (Cond.code yX4_linesBy cX4_linesBy 6 (some .long)) 2 [.ref (G.1 + 7), .ref (G.1 + k), .int ax] (nt M a b) L (qL fun v M' L' => L = L' ∧ v = sumL (cLp M ax r l) 41 ∧ ∃ a b, M' = nt M a b) := by
  refine mt_mono (t_X4_linesBy G (nt M a b) L (hk.nt a b) hg0 ax) (fun r M1 L1 h => ?_)
  obtain ⟨u, e, h1, h2, a1, b1, h3⟩ := h
  rw [nt_nt] at h3
  exact ⟨u, e, h1, h2, a1, b1, h3⟩
set_option maxHeartbeats 4000000 in
set_option maxRecDepth 100000 in
theorem t_X4_linesOf (G : g_G) (M : g_M) (L : g_L) {k l : Nat} {r : Nat → Nat} (hk : rok M k l r) (hg0 : 1 ≤ (M 7 1).toInt) : mt G yX4_linesOf (Cond.code yX4_linesOf cX4_linesOf 2 (some .long)) 3 [.ref (G.1 + 7), .ref (G.1 + k)] M L (qL fun v M' L' => L = L' ∧ v = sumL (cLp M 0 r l) 41 * sumL (cLp M 1 r l) 41 ∧ ∃ a b, M' = nt M a b) := by
  refine mt_of (by decide) rfl (Nat.le_of_ble_eq_true rfl) [(0, .ref (G.1 + 7)), (1, .ref (G.1 + k))] rfl (fun X hG C hQ => ?_)
  subst hG
  refine wx_aload_n C 0 dX4_linesOf_0 rfl rfl ?_
  refine wx_aload_n C 1 dX4_linesOf_1 rfl rfl ?_
  refine wx_iconst C 0 dX4_linesOf_2 (by decide) ?_
  refine ca_X4_61 C (rest := []) (t_X4_linesBy X.1 M L hk hg0 0) (by decide) rfl (by decide) rfl rfl (Nat.le_of_ble_eq_true rfl) dX4_linesOf_3 (kL fun r3 M3 L3 q3 => ?_)
  obtain ⟨rfl, rfl, a3, b3, rfl⟩ := q3
  refine wx_aload_n C 0 dX4_linesOf_6 rfl rfl ?_
  refine wx_aload_n C 1 dX4_linesOf_7 rfl rfl ?_
  refine wx_iconst C 1 dX4_linesOf_8 (by decide) ?_
  refine ca_X4_61 C (rest := [.long (sumL (cLp M 0 r l) 41)]) (t_linesBy2 X.1 M L hk hg0 a3 b3 1) (by decide) rfl (by decide) rfl rfl (Nat.le_of_ble_eq_true rfl) dX4_linesOf_9 (kL fun r9 M9 L9 q9 => ?_)
  obtain ⟨rfl, rfl, a9, b9, rfl⟩ := q9
  refine wx_lmul C dX4_linesOf_12 ?_
  refine wx_lret C hQ dX4_linesOf_13 ?_
  exact ⟨_, rfl, rfl, rfl, a9, b9, rfl⟩
set_option maxHeartbeats 4000000 in
set_option maxRecDepth 100000 in
theorem lp_X4_isSoundBy {X : g_X} {Qr : Option Value → g_M → g_L → Prop} (C : Cx X cX4_isSoundBy 4 RX4 (some .boolean) 2) (hQ : Rx X Qr) {M : g_M} {L : g_L} {k l : Nat} {r : Nat → Nat} {ax : Int32} (hk : rok M k l r) (hg0 : 1 ≤ (M 7 1).toInt) (hp : ∀ a b, Qr (some (.int (bI (anyS (cLp M ax r l) 41)))) (nt M a b) L) : ∀ (n i : Nat), i ≤ 41 → 41 < i + n → anyS (cLp M ax r l) i = false → ∀ (a b : Int32), wx X (nt M a b) L 3 [(0, .ref (X.1.1 + 7)), (1, .ref (X.1.1 + k)), (2, .int ax), (3, .int (vs i))] [] := by
  intro n
  induction n with
  | zero =>
    intro i h1 h2
    exact absurd h2 (by omega)
  | succ n ih =>
    intro i hi0 hin hno a b
    refine wx_iload_n C 3 dX4_isSoundBy_3 rfl rfl ?_
    refine wx_bipush C 20 dX4_isSoundBy_4 (by decide) ?_
    refine wx_icmp_gt C 27 dX4_isSoundBy_6 (by decide) (fun c6 => ?_) (fun c6 => ?_)
    · have hs : i = 41 := (vs_gt hi0).mp c6
      refine wx_iconst C 0 dX4_isSoundBy_27 (by decide) ?_
      refine wx_zret C hQ dX4_isSoundBy_28 (by decide) ?_
      have h := hp a b
      rw [← hs, hno] at h
      exact h
    · have hs : i < 41 := by
        rw [vs_gt hi0] at c6
        omega
      refine wx_aload_n C 0 dX4_isSoundBy_9 rfl rfl ?_
      refine wx_aload_n C 1 dX4_isSoundBy_10 rfl rfl ?_
      refine wx_iload_n C 2 dX4_isSoundBy_11 rfl rfl ?_
      refine wx_iload_n C 3 dX4_isSoundBy_12 rfl rfl ?_
      refine ca_X4_57 C (rest := []) (t_span2 X.1 M L hk hg0 a b ax (vs i)) (by decide) rfl (by decide) rfl rfl (Nat.le_of_ble_eq_true rfl) dX4_isSoundBy_13 (kI fun r13 M13 L13 q13 => ?_)
      obtain ⟨rfl, rfl, a13, b13, rfl, hab⟩ := q13
      refine wx_if_eq C 21 dX4_isSoundBy_16 (by decide) (fun c16 => ?_) (fun c16 => ?_)
      · refine wx_iinc C (v := (vs (i + 1))) 3 [1, 2, 3, 0] [(0, .ref (X.1.1 + 7)), (1, .ref (X.1.1 + k)), (2, .int ax), (3, .int (vs (i + 1)))] dX4_isSoundBy_21 rfl (vs_1 i) (by decide) rfl ?_
        refine wx_goto C 3 dX4_isSoundBy_24 (by decide) ?_
        exact ih (i + 1) (by omega) (by omega) (by rw [anyS, hno, bI_0.mp c16]; rfl) a13 b13
      · refine wx_iconst C 1 dX4_isSoundBy_19 (by decide) ?_
        refine wx_zret C hQ dX4_isSoundBy_20 (by decide) ?_
        have h := hp a13 b13
        rw [anyS_at hs (bI_n0.mp c16)] at h
        exact h
set_option maxHeartbeats 4000000 in
set_option maxRecDepth 100000 in
theorem t_X4_isSoundBy (G : g_G) (M : g_M) (L : g_L) {k l : Nat} {r : Nat → Nat} (hk : rok M k l r) (hg0 : 1 ≤ (M 7 1).toInt) (ax : Int32) : mt G yX4_isSoundBy (Cond.code yX4_isSoundBy cX4_isSoundBy 4 (some .boolean)) 2 [.ref (G.1 + 7), .ref (G.1 + k), .int ax] M L (qI fun v M' L' => L = L' ∧ v = bI (anyS (cLp M ax r l) 41) ∧ ∃ a b, M' = nt M a b) := by
  refine mt_of (by decide) rfl (Nat.le_of_ble_eq_true rfl) [(0, .ref (G.1 + 7)), (1, .ref (G.1 + k)), (2, .int ax)] rfl (fun X hG C hQ => ?_)
  subst hG
  refine wx_bipush C (-20) dX4_isSoundBy_0 (by decide) ?_
  refine wx_istore_n C [1, 2, 3, 0] [(0, .ref (X.1.1 + 7)), (1, .ref (X.1.1 + k)), (2, .int ax), (3, .int (-20))] dX4_isSoundBy_2 rfl (by decide) rfl ?_
  have h := lp_X4_isSoundBy C hQ hk hg0 (fun a b => ⟨_, rfl, rfl, rfl, a, b, rfl⟩) 42 0 (by omega) (by omega) rfl (M 7 3) (M 7 4)
  rw [nt_self] at h
  exact h
theorem t_isSoundBy2 (G : g_G) (M : g_M) (L : g_L) {k l : Nat} {r : Nat → Nat} (hk : rok M k l r) (hg0 : 1 ≤ (M 7 1).toInt) (a b ax : Int32) : mt G yX4_isSoundBy (Cond.code yX4_isSoundBy cX4_isSoundBy 4 (some .boolean)) 2 [.ref (G.1 + 7), .ref (G.1 + k), .int ax] (nt M a b) L (qI fun v M' L' => L = L' ∧ v = bI (anyS (cLp M ax r l) 41) ∧ ∃ a b, M' = nt M a b) := by
  refine mt_mono (t_X4_isSoundBy G (nt M a b) L (hk.nt a b) hg0 ax) (fun r M1 L1 h => ?_)
  obtain ⟨u, e, h1, h2, a1, b1, h3⟩ := h
  rw [nt_nt] at h3
  exact ⟨u, e, h1, h2, a1, b1, h3⟩
set_option maxHeartbeats 4000000 in
set_option maxRecDepth 100000 in
theorem t_X4_isSound (G : g_G) (M : g_M) (L : g_L) {k l : Nat} {r : Nat → Nat} (hk : rok M k l r) (hg0 : 1 ≤ (M 7 1).toInt) : mt G yX4_isSound (Cond.code yX4_isSound cX4_isSound 2 (some .boolean)) 3 [.ref (G.1 + 7), .ref (G.1 + k)] M L (qI fun v M' L' => L = L' ∧ v = bI (snd M r l) ∧ ∃ a b, M' = nt M a b) := by
  refine mt_of (by decide) rfl (Nat.le_of_ble_eq_true rfl) [(0, .ref (G.1 + 7)), (1, .ref (G.1 + k))] rfl (fun X hG C hQ => ?_)
  subst hG
  refine wx_aload_n C 0 dX4_isSound_0 rfl rfl ?_
  refine wx_aload_n C 1 dX4_isSound_1 rfl rfl ?_
  refine wx_iconst C 0 dX4_isSound_2 (by decide) ?_
  refine ca_X4_65 C (rest := []) (t_X4_isSoundBy X.1 M L hk hg0 0) (by decide) rfl (by decide) rfl rfl (Nat.le_of_ble_eq_true rfl) dX4_isSound_3 (kI fun r3 M3 L3 q3 => ?_)
  obtain ⟨rfl, rfl, a3, b3, rfl⟩ := q3
  refine wx_if_eq C 22 dX4_isSound_6 (by decide) (fun c6 => ?_) (fun c6 => ?_)
  · refine wx_iconst C 0 dX4_isSound_22 (by decide) ?_
    refine wx_zret C hQ dX4_isSound_23 (by decide) ?_
    refine ⟨_, rfl, rfl, ?_, _, _, rfl⟩
    unfold snd
    first
    | rw [bI_0.mp c6, Bool.false_and]; rfl
    | rw [bI_0.mp c15, Bool.and_false]; rfl
  · refine wx_aload_n C 0 dX4_isSound_9 rfl rfl ?_
    refine wx_aload_n C 1 dX4_isSound_10 rfl rfl ?_
    refine wx_iconst C 1 dX4_isSound_11 (by decide) ?_
    refine ca_X4_65 C (rest := []) (t_isSoundBy2 X.1 M L hk hg0 a3 b3 1) (by decide) rfl (by decide) rfl rfl (Nat.le_of_ble_eq_true rfl) dX4_isSound_12 (kI fun r12 M12 L12 q12 => ?_)
    obtain ⟨rfl, rfl, a12, b12, rfl⟩ := q12
    refine wx_if_eq C 22 dX4_isSound_15 (by decide) (fun c15 => ?_) (fun c15 => ?_)
    · refine wx_iconst C 0 dX4_isSound_22 (by decide) ?_
      refine wx_zret C hQ dX4_isSound_23 (by decide) ?_
      refine ⟨_, rfl, rfl, ?_, _, _, rfl⟩
      unfold snd
      first
      | rw [bI_0.mp c6, Bool.false_and]; rfl
      | rw [bI_0.mp c15, Bool.and_false]; rfl
    · refine wx_iconst C 1 dX4_isSound_18 (by decide) ?_
      refine wx_goto C 23 dX4_isSound_19 (by decide) ?_
      refine wx_zret C hQ dX4_isSound_23 (by decide) ?_
      refine ⟨_, rfl, rfl, ?_, _, _, rfl⟩
      unfold snd
      rw [bI_n0.mp c6, bI_n0.mp c15]
      rfl
theorem t_isSound2 (G : g_G) (M : g_M) (L : g_L) {k l : Nat} {r : Nat → Nat} (hk : rok M k l r) (hg0 : 1 ≤ (M 7 1).toInt) (a b : Int32) : mt G yX4_isSound (Cond.code yX4_isSound cX4_isSound 2 (some .boolean)) 3 [.ref (G.1 + 7), .ref (G.1 + k)] (nt M a b) L (qI fun v M' L' => L = L' ∧ v = bI (snd M r l) ∧ ∃ a b, M' = nt M a b) := by
  refine mt_mono (t_X4_isSound G (nt M a b) L (hk.nt a b) hg0) (fun r M1 L1 h => ?_)
  obtain ⟨u, e, h1, h2, a1, b1, h3⟩ := h
  rw [nt_nt] at h3
  exact ⟨u, e, h1, h2, a1, b1, h3⟩
/-- one more speed is looked at -/
theorem edS_1 {p : Lp} {h : Int32} {w : Bool} {s : Nat} {x : Int64} (hk : spK p (vs s) = true) (hx : x = thr p.2.2.2.1 (if w then spG p (vs s) else spL p (vs s)) (vs s) h) : edS p h w (s + 1) = if edS p h w s = NO ∨ (if w then edS p h w s < x else x < edS p h w s) then x else edS p h w s := by
  subst hx
  rw [edS, if_pos hk]
set_option maxHeartbeats 4000000 in
set_option maxRecDepth 100000 in
theorem lp_X4_edge {X : g_X} {Qr : Option Value → g_M → g_L → Prop} (C : Cx X cX4_edge 10 RX4 (some .long) 2) (hQ : Rx X Qr) {M : g_M} {L : g_L} {k l : Nat} {r : Nat → Nat} {ax : Int32} (hk : rok M k l r) (hg0 : 1 ≤ (M 7 1).toInt) {h : Int32} {w : Bool} (hp : ∀ a b, Qr (some (.long (edS (cLp M ax r l) h w 41))) (nt M a b) L) : ∀ (n i : Nat), i ≤ 41 → 41 < i + n → ∀ (a b : Int32), wx X (nt M a b) L 9 [(0, .ref (X.1.1 + 7)), (1, .ref (X.1.1 + k)), (2, .int ax), (3, .int h), (4, .int (bI w)), (5, .long (edS (cLp M ax r l) h w i)), (7, .int (vs i))] [] := by
  intro n
  induction n with
  | zero =>
    intro i h1 h2
    exact absurd h2 (by omega)
  | succ n ih =>
    intro i hi0 hin a b
    refine wx_iload C 6 dX4_edge_9 rfl ?_
    refine wx_bipush C 20 dX4_edge_11 (by decide) ?_
    refine wx_icmp_gt C 101 dX4_edge_13 (by decide) (fun c13 => ?_) (fun c13 => ?_)
    · have hs : i = 41 := (vs_gt hi0).mp c13
      refine wx_lload C 5 dX4_edge_101 rfl ?_
      refine wx_lret C hQ dX4_edge_103 ?_
      rw [hs]
      exact hp a b
    · have hs : i < 41 := by
        rw [vs_gt hi0] at c13
        omega
      refine wx_aload_n C 0 dX4_edge_16 rfl rfl ?_
      refine wx_aload_n C 1 dX4_edge_17 rfl rfl ?_
      refine wx_iload_n C 2 dX4_edge_18 rfl rfl ?_
      refine wx_iload C 6 dX4_edge_19 rfl ?_
      refine ca_X4_57 C (rest := []) (t_span2 X.1 M L hk hg0 a b ax (vs i)) (by decide) rfl (by decide) rfl rfl (Nat.le_of_ble_eq_true rfl) dX4_edge_21 (kI fun r21 M21 L21 q21 => ?_)
      obtain ⟨rfl, rfl, a21, b21, rfl, hab⟩ := q21
      refine wx_if_eq C 95 dX4_edge_24 (by decide) (fun c24 => ?_) (fun c24 => ?_)
      · refine wx_iinc C (v := (vs (i + 1))) 6 [1, 2, 3, 4, 5, 6, 0] [(0, .ref (X.1.1 + 7)), (1, .ref (X.1.1 + k)), (2, .int ax), (3, .int h), (4, .int (bI w)), (5, .long (edS (cLp M ax r l) h w i)), (7, .int (vs (i + 1)))] dX4_edge_95 rfl (vs_1 i) (by decide) rfl ?_
        refine wx_goto C 9 dX4_edge_98 (by decide) ?_
        refine wx_sub [0, 1, 2, 3, 4, 5, 6] ?_ (ih (i + 1) (by omega) (by omega) a21 b21)
        rw [edS, if_neg (by rw [bI_0.mp c24]; decide)]
        rfl
      · refine wx_iload C 4 dX4_edge_27 rfl ?_
        refine wx_if_eq C 39 dX4_edge_29 (by decide) (fun c29 => ?_) (fun c29 => ?_)
        · refine wx_aload_n C 0 dX4_edge_39 rfl rfl ?_
          refine gf_X4_51 C dX4_edge_40 ?_
          refine wx_i2l C dX4_edge_43 ?_
          refine wx_aload_n C 0 dX4_edge_44 rfl rfl ?_
          refine gf_X4_9 C dX4_edge_45 ?_
          refine wx_i2l C dX4_edge_48 ?_
          refine wx_lmul C dX4_edge_49 ?_
          refine wx_iload C 6 dX4_edge_50 rfl ?_
          refine wx_iload_n C 3 dX4_edge_52 rfl rfl ?_
          refine wx_imul C dX4_edge_53 ?_
          refine wx_i2l C dX4_edge_54 ?_
          refine wx_ladd C dX4_edge_55 ?_
          refine wx_nml (fun x8 hx8 => ?_)
          refine wx_lstore C [1, 2, 3, 4, 5, 6, 7, 0] [(0, .ref (X.1.1 + 7)), (1, .ref (X.1.1 + k)), (2, .int ax), (3, .int h), (4, .int (bI w)), (5, .long (edS (cLp M ax r l) h w i)), (7, .int (vs i)), (8, .long x8)] dX4_edge_56 (by decide) rfl ?_
          have hA := hab (bI_n0.mp c24)
          have hx8 : x8 = thr (M 7 1) (if w then spG (cLp M ax r l) (vs i) else spL (cLp M ax r l) (vs i)) (vs i) h := by
            rw [hx8]
            first
            | (rw [if_pos (bI_n0.mp c29), ← hA.2]; rfl)
            | (rw [if_neg (show ¬ w = true by rw [bI_0.mp c29]; decide), ← hA.1]; rfl)
          refine wx_lload C 5 dX4_edge_58 rfl ?_
          refine wx_ldc2 C w3_75 dX4_edge_60 ?_
          refine wx_lcmp C dX4_edge_63 ?_
          refine wx_if_eq C 91 dX4_edge_64 (by decide) (fun c64 => ?_) (fun c64 => ?_)
          · refine wx_lload C 7 dX4_edge_91 rfl ?_
            refine wx_lstore C [1, 2, 3, 4, 5, 0, 6, 7] [(0, .ref (X.1.1 + 7)), (1, .ref (X.1.1 + k)), (2, .int ax), (3, .int h), (4, .int (bI w)), (5, .long x8), (7, .int (vs i)), (8, .long x8)] dX4_edge_93 (by decide) rfl ?_
            refine wx_iinc C (v := (vs (i + 1))) 6 [1, 2, 3, 4, 5, 6, 0, 7] [(0, .ref (X.1.1 + 7)), (1, .ref (X.1.1 + k)), (2, .int ax), (3, .int h), (4, .int (bI w)), (5, .long x8), (7, .int (vs (i + 1))), (8, .long x8)] dX4_edge_95 rfl (vs_1 i) (by decide) rfl ?_
            refine wx_goto C 9 dX4_edge_98 (by decide) ?_
            have e := edS_1 (p := cLp M ax r l) (h := h) (w := w) (bI_n0.mp c24) hx8
            rw [if_pos (by first | exact Or.inl ((lg_cmp_eq _ _).mp c64) | (refine Or.inr ?_; rw [if_pos (bI_n0.mp c69)]; exact (lg_cmp_gt _ _).mp (Int32.not_le.mp c77)) | (refine Or.inr ?_; rw [if_neg (show ¬ w = true by rw [bI_0.mp c69]; decide)]; exact (lg_cmp_lt _ _).mp (Int32.not_le.mp c88)))] at e
            refine wx_sub [0, 1, 2, 3, 4, 5, 6] ?_ (ih (i + 1) (by omega) (by omega) a21 b21)
            rw [e]
            rfl
          · refine wx_iload C 4 dX4_edge_67 rfl ?_
            refine wx_if_eq C 83 dX4_edge_69 (by decide) (fun c69 => ?_) (fun c69 => ?_)
            · refine wx_lload C 7 dX4_edge_83 rfl ?_
              refine wx_lload C 5 dX4_edge_85 rfl ?_
              refine wx_lcmp C dX4_edge_87 ?_
              refine wx_if_ge C 95 dX4_edge_88 (by decide) (fun c88 => ?_) (fun c88 => ?_)
              · refine wx_iinc C (v := (vs (i + 1))) 6 [1, 2, 3, 4, 5, 6, 0, 7] [(0, .ref (X.1.1 + 7)), (1, .ref (X.1.1 + k)), (2, .int ax), (3, .int h), (4, .int (bI w)), (5, .long (edS (cLp M ax r l) h w i)), (7, .int (vs (i + 1))), (8, .long x8)] dX4_edge_95 rfl (vs_1 i) (by decide) rfl ?_
                refine wx_goto C 9 dX4_edge_98 (by decide) ?_
                have e := edS_1 (p := cLp M ax r l) (h := h) (w := w) (bI_n0.mp c24) hx8
                rw [if_neg (by intro z; rcases z with z | z; exact c64 ((lg_cmp_eq _ _).mpr z); first | (rw [if_pos (bI_n0.mp c69)] at z; exact absurd ((lg_cmp_gt _ _).mpr z) (Int32.not_lt.mpr c77)) | (rw [if_neg (show ¬ w = true by rw [bI_0.mp c69]; decide)] at z; exact absurd ((lg_cmp_lt _ _).mpr z) (Int32.not_lt.mpr c88)))] at e
                refine wx_sub [0, 1, 2, 3, 4, 5, 6] ?_ (ih (i + 1) (by omega) (by omega) a21 b21)
                rw [e]
                rfl
              · refine wx_lload C 7 dX4_edge_91 rfl ?_
                refine wx_lstore C [1, 2, 3, 4, 5, 0, 6, 7] [(0, .ref (X.1.1 + 7)), (1, .ref (X.1.1 + k)), (2, .int ax), (3, .int h), (4, .int (bI w)), (5, .long x8), (7, .int (vs i)), (8, .long x8)] dX4_edge_93 (by decide) rfl ?_
                refine wx_iinc C (v := (vs (i + 1))) 6 [1, 2, 3, 4, 5, 6, 0, 7] [(0, .ref (X.1.1 + 7)), (1, .ref (X.1.1 + k)), (2, .int ax), (3, .int h), (4, .int (bI w)), (5, .long x8), (7, .int (vs (i + 1))), (8, .long x8)] dX4_edge_95 rfl (vs_1 i) (by decide) rfl ?_
                refine wx_goto C 9 dX4_edge_98 (by decide) ?_
                have e := edS_1 (p := cLp M ax r l) (h := h) (w := w) (bI_n0.mp c24) hx8
                rw [if_pos (by first | exact Or.inl ((lg_cmp_eq _ _).mp c64) | (refine Or.inr ?_; rw [if_pos (bI_n0.mp c69)]; exact (lg_cmp_gt _ _).mp (Int32.not_le.mp c77)) | (refine Or.inr ?_; rw [if_neg (show ¬ w = true by rw [bI_0.mp c69]; decide)]; exact (lg_cmp_lt _ _).mp (Int32.not_le.mp c88)))] at e
                refine wx_sub [0, 1, 2, 3, 4, 5, 6] ?_ (ih (i + 1) (by omega) (by omega) a21 b21)
                rw [e]
                rfl
            · refine wx_lload C 7 dX4_edge_72 rfl ?_
              refine wx_lload C 5 dX4_edge_74 rfl ?_
              refine wx_lcmp C dX4_edge_76 ?_
              refine wx_if_le C 95 dX4_edge_77 (by decide) (fun c77 => ?_) (fun c77 => ?_)
              · refine wx_iinc C (v := (vs (i + 1))) 6 [1, 2, 3, 4, 5, 6, 0, 7] [(0, .ref (X.1.1 + 7)), (1, .ref (X.1.1 + k)), (2, .int ax), (3, .int h), (4, .int (bI w)), (5, .long (edS (cLp M ax r l) h w i)), (7, .int (vs (i + 1))), (8, .long x8)] dX4_edge_95 rfl (vs_1 i) (by decide) rfl ?_
                refine wx_goto C 9 dX4_edge_98 (by decide) ?_
                have e := edS_1 (p := cLp M ax r l) (h := h) (w := w) (bI_n0.mp c24) hx8
                rw [if_neg (by intro z; rcases z with z | z; exact c64 ((lg_cmp_eq _ _).mpr z); first | (rw [if_pos (bI_n0.mp c69)] at z; exact absurd ((lg_cmp_gt _ _).mpr z) (Int32.not_lt.mpr c77)) | (rw [if_neg (show ¬ w = true by rw [bI_0.mp c69]; decide)] at z; exact absurd ((lg_cmp_lt _ _).mpr z) (Int32.not_lt.mpr c88)))] at e
                refine wx_sub [0, 1, 2, 3, 4, 5, 6] ?_ (ih (i + 1) (by omega) (by omega) a21 b21)
                rw [e]
                rfl
              · refine wx_goto C 91 dX4_edge_80 (by decide) ?_
                refine wx_lload C 7 dX4_edge_91 rfl ?_
                refine wx_lstore C [1, 2, 3, 4, 5, 0, 6, 7] [(0, .ref (X.1.1 + 7)), (1, .ref (X.1.1 + k)), (2, .int ax), (3, .int h), (4, .int (bI w)), (5, .long x8), (7, .int (vs i)), (8, .long x8)] dX4_edge_93 (by decide) rfl ?_
                refine wx_iinc C (v := (vs (i + 1))) 6 [1, 2, 3, 4, 5, 6, 0, 7] [(0, .ref (X.1.1 + 7)), (1, .ref (X.1.1 + k)), (2, .int ax), (3, .int h), (4, .int (bI w)), (5, .long x8), (7, .int (vs (i + 1))), (8, .long x8)] dX4_edge_95 rfl (vs_1 i) (by decide) rfl ?_
                refine wx_goto C 9 dX4_edge_98 (by decide) ?_
                have e := edS_1 (p := cLp M ax r l) (h := h) (w := w) (bI_n0.mp c24) hx8
                rw [if_pos (by first | exact Or.inl ((lg_cmp_eq _ _).mp c64) | (refine Or.inr ?_; rw [if_pos (bI_n0.mp c69)]; exact (lg_cmp_gt _ _).mp (Int32.not_le.mp c77)) | (refine Or.inr ?_; rw [if_neg (show ¬ w = true by rw [bI_0.mp c69]; decide)]; exact (lg_cmp_lt _ _).mp (Int32.not_le.mp c88)))] at e
                refine wx_sub [0, 1, 2, 3, 4, 5, 6] ?_ (ih (i + 1) (by omega) (by omega) a21 b21)
                rw [e]
                rfl
        · refine wx_aload_n C 0 dX4_edge_32 rfl rfl ?_
          refine gf_X4_54 C dX4_edge_33 ?_
          refine wx_goto C 43 dX4_edge_36 (by decide) ?_
          refine wx_i2l C dX4_edge_43 ?_
          refine wx_aload_n C 0 dX4_edge_44 rfl rfl ?_
          refine gf_X4_9 C dX4_edge_45 ?_
          refine wx_i2l C dX4_edge_48 ?_
          refine wx_lmul C dX4_edge_49 ?_
          refine wx_iload C 6 dX4_edge_50 rfl ?_
          refine wx_iload_n C 3 dX4_edge_52 rfl rfl ?_
          refine wx_imul C dX4_edge_53 ?_
          refine wx_i2l C dX4_edge_54 ?_
          refine wx_ladd C dX4_edge_55 ?_
          refine wx_nml (fun x8 hx8 => ?_)
          refine wx_lstore C [1, 2, 3, 4, 5, 6, 7, 0] [(0, .ref (X.1.1 + 7)), (1, .ref (X.1.1 + k)), (2, .int ax), (3, .int h), (4, .int (bI w)), (5, .long (edS (cLp M ax r l) h w i)), (7, .int (vs i)), (8, .long x8)] dX4_edge_56 (by decide) rfl ?_
          have hA := hab (bI_n0.mp c24)
          have hx8 : x8 = thr (M 7 1) (if w then spG (cLp M ax r l) (vs i) else spL (cLp M ax r l) (vs i)) (vs i) h := by
            rw [hx8]
            first
            | (rw [if_pos (bI_n0.mp c29), ← hA.2]; rfl)
            | (rw [if_neg (show ¬ w = true by rw [bI_0.mp c29]; decide), ← hA.1]; rfl)
          refine wx_lload C 5 dX4_edge_58 rfl ?_
          refine wx_ldc2 C w3_75 dX4_edge_60 ?_
          refine wx_lcmp C dX4_edge_63 ?_
          refine wx_if_eq C 91 dX4_edge_64 (by decide) (fun c64 => ?_) (fun c64 => ?_)
          · refine wx_lload C 7 dX4_edge_91 rfl ?_
            refine wx_lstore C [1, 2, 3, 4, 5, 0, 6, 7] [(0, .ref (X.1.1 + 7)), (1, .ref (X.1.1 + k)), (2, .int ax), (3, .int h), (4, .int (bI w)), (5, .long x8), (7, .int (vs i)), (8, .long x8)] dX4_edge_93 (by decide) rfl ?_
            refine wx_iinc C (v := (vs (i + 1))) 6 [1, 2, 3, 4, 5, 6, 0, 7] [(0, .ref (X.1.1 + 7)), (1, .ref (X.1.1 + k)), (2, .int ax), (3, .int h), (4, .int (bI w)), (5, .long x8), (7, .int (vs (i + 1))), (8, .long x8)] dX4_edge_95 rfl (vs_1 i) (by decide) rfl ?_
            refine wx_goto C 9 dX4_edge_98 (by decide) ?_
            have e := edS_1 (p := cLp M ax r l) (h := h) (w := w) (bI_n0.mp c24) hx8
            rw [if_pos (by first | exact Or.inl ((lg_cmp_eq _ _).mp c64) | (refine Or.inr ?_; rw [if_pos (bI_n0.mp c69)]; exact (lg_cmp_gt _ _).mp (Int32.not_le.mp c77)) | (refine Or.inr ?_; rw [if_neg (show ¬ w = true by rw [bI_0.mp c69]; decide)]; exact (lg_cmp_lt _ _).mp (Int32.not_le.mp c88)))] at e
            refine wx_sub [0, 1, 2, 3, 4, 5, 6] ?_ (ih (i + 1) (by omega) (by omega) a21 b21)
            rw [e]
            rfl
          · refine wx_iload C 4 dX4_edge_67 rfl ?_
            refine wx_if_eq C 83 dX4_edge_69 (by decide) (fun c69 => ?_) (fun c69 => ?_)
            · refine wx_lload C 7 dX4_edge_83 rfl ?_
              refine wx_lload C 5 dX4_edge_85 rfl ?_
              refine wx_lcmp C dX4_edge_87 ?_
              refine wx_if_ge C 95 dX4_edge_88 (by decide) (fun c88 => ?_) (fun c88 => ?_)
              · refine wx_iinc C (v := (vs (i + 1))) 6 [1, 2, 3, 4, 5, 6, 0, 7] [(0, .ref (X.1.1 + 7)), (1, .ref (X.1.1 + k)), (2, .int ax), (3, .int h), (4, .int (bI w)), (5, .long (edS (cLp M ax r l) h w i)), (7, .int (vs (i + 1))), (8, .long x8)] dX4_edge_95 rfl (vs_1 i) (by decide) rfl ?_
                refine wx_goto C 9 dX4_edge_98 (by decide) ?_
                have e := edS_1 (p := cLp M ax r l) (h := h) (w := w) (bI_n0.mp c24) hx8
                rw [if_neg (by intro z; rcases z with z | z; exact c64 ((lg_cmp_eq _ _).mpr z); first | (rw [if_pos (bI_n0.mp c69)] at z; exact absurd ((lg_cmp_gt _ _).mpr z) (Int32.not_lt.mpr c77)) | (rw [if_neg (show ¬ w = true by rw [bI_0.mp c69]; decide)] at z; exact absurd ((lg_cmp_lt _ _).mpr z) (Int32.not_lt.mpr c88)))] at e
                refine wx_sub [0, 1, 2, 3, 4, 5, 6] ?_ (ih (i + 1) (by omega) (by omega) a21 b21)
                rw [e]
                rfl
              · refine wx_lload C 7 dX4_edge_91 rfl ?_
                refine wx_lstore C [1, 2, 3, 4, 5, 0, 6, 7] [(0, .ref (X.1.1 + 7)), (1, .ref (X.1.1 + k)), (2, .int ax), (3, .int h), (4, .int (bI w)), (5, .long x8), (7, .int (vs i)), (8, .long x8)] dX4_edge_93 (by decide) rfl ?_
                refine wx_iinc C (v := (vs (i + 1))) 6 [1, 2, 3, 4, 5, 6, 0, 7] [(0, .ref (X.1.1 + 7)), (1, .ref (X.1.1 + k)), (2, .int ax), (3, .int h), (4, .int (bI w)), (5, .long x8), (7, .int (vs (i + 1))), (8, .long x8)] dX4_edge_95 rfl (vs_1 i) (by decide) rfl ?_
                refine wx_goto C 9 dX4_edge_98 (by decide) ?_
                have e := edS_1 (p := cLp M ax r l) (h := h) (w := w) (bI_n0.mp c24) hx8
                rw [if_pos (by first | exact Or.inl ((lg_cmp_eq _ _).mp c64) | (refine Or.inr ?_; rw [if_pos (bI_n0.mp c69)]; exact (lg_cmp_gt _ _).mp (Int32.not_le.mp c77)) | (refine Or.inr ?_; rw [if_neg (show ¬ w = true by rw [bI_0.mp c69]; decide)]; exact (lg_cmp_lt _ _).mp (Int32.not_le.mp c88)))] at e
                refine wx_sub [0, 1, 2, 3, 4, 5, 6] ?_ (ih (i + 1) (by omega) (by omega) a21 b21)
                rw [e]
                rfl
            · refine wx_lload C 7 dX4_edge_72 rfl ?_
              refine wx_lload C 5 dX4_edge_74 rfl ?_
              refine wx_lcmp C dX4_edge_76 ?_
              refine wx_if_le C 95 dX4_edge_77 (by decide) (fun c77 => ?_) (fun c77 => ?_)
              · refine wx_iinc C (v := (vs (i + 1))) 6 [1, 2, 3, 4, 5, 6, 0, 7] [(0, .ref (X.1.1 + 7)), (1, .ref (X.1.1 + k)), (2, .int ax), (3, .int h), (4, .int (bI w)), (5, .long (edS (cLp M ax r l) h w i)), (7, .int (vs (i + 1))), (8, .long x8)] dX4_edge_95 rfl (vs_1 i) (by decide) rfl ?_
                refine wx_goto C 9 dX4_edge_98 (by decide) ?_
                have e := edS_1 (p := cLp M ax r l) (h := h) (w := w) (bI_n0.mp c24) hx8
                rw [if_neg (by intro z; rcases z with z | z; exact c64 ((lg_cmp_eq _ _).mpr z); first | (rw [if_pos (bI_n0.mp c69)] at z; exact absurd ((lg_cmp_gt _ _).mpr z) (Int32.not_lt.mpr c77)) | (rw [if_neg (show ¬ w = true by rw [bI_0.mp c69]; decide)] at z; exact absurd ((lg_cmp_lt _ _).mpr z) (Int32.not_lt.mpr c88)))] at e
                refine wx_sub [0, 1, 2, 3, 4, 5, 6] ?_ (ih (i + 1) (by omega) (by omega) a21 b21)
                rw [e]
                rfl
              · refine wx_goto C 91 dX4_edge_80 (by decide) ?_
                refine wx_lload C 7 dX4_edge_91 rfl ?_
                refine wx_lstore C [1, 2, 3, 4, 5, 0, 6, 7] [(0, .ref (X.1.1 + 7)), (1, .ref (X.1.1 + k)), (2, .int ax), (3, .int h), (4, .int (bI w)), (5, .long x8), (7, .int (vs i)), (8, .long x8)] dX4_edge_93 (by decide) rfl ?_
                refine wx_iinc C (v := (vs (i + 1))) 6 [1, 2, 3, 4, 5, 6, 0, 7] [(0, .ref (X.1.1 + 7)), (1, .ref (X.1.1 + k)), (2, .int ax), (3, .int h), (4, .int (bI w)), (5, .long x8), (7, .int (vs (i + 1))), (8, .long x8)] dX4_edge_95 rfl (vs_1 i) (by decide) rfl ?_
                refine wx_goto C 9 dX4_edge_98 (by decide) ?_
                have e := edS_1 (p := cLp M ax r l) (h := h) (w := w) (bI_n0.mp c24) hx8
                rw [if_pos (by first | exact Or.inl ((lg_cmp_eq _ _).mp c64) | (refine Or.inr ?_; rw [if_pos (bI_n0.mp c69)]; exact (lg_cmp_gt _ _).mp (Int32.not_le.mp c77)) | (refine Or.inr ?_; rw [if_neg (show ¬ w = true by rw [bI_0.mp c69]; decide)]; exact (lg_cmp_lt _ _).mp (Int32.not_le.mp c88)))] at e
                refine wx_sub [0, 1, 2, 3, 4, 5, 6] ?_ (ih (i + 1) (by omega) (by omega) a21 b21)
                rw [e]
                rfl
set_option maxHeartbeats 4000000 in
set_option maxRecDepth 100000 in
theorem t_X4_edge (G : g_G) (M : g_M) (L : g_L) {k l : Nat} {r : Nat → Nat} (hk : rok M k l r) (hg0 : 1 ≤ (M 7 1).toInt) (ax h : Int32) (w : Bool) : mt G yX4_edge (Cond.code yX4_edge cX4_edge 10 (some .long)) 2 [.ref (G.1 + 7), .ref (G.1 + k), .int ax, .int h, .int (bI w)] M L (qL fun v M' L' => L = L' ∧ v = edS (cLp M ax r l) h w 41 ∧ ∃ a b, M' = nt M a b) := by
  refine mt_of (by decide) rfl (Nat.le_of_ble_eq_true rfl) [(0, .ref (G.1 + 7)), (1, .ref (G.1 + k)), (2, .int ax), (3, .int h), (4, .int (bI w))] rfl (fun X hG C hQ => ?_)
  subst hG
  refine wx_ldc2 C w3_75 dX4_edge_0 ?_
  refine wx_lstore C [1, 2, 3, 4, 5, 0] [(0, .ref (X.1.1 + 7)), (1, .ref (X.1.1 + k)), (2, .int ax), (3, .int h), (4, .int (bI w)), (5, .long (-9223372036854775808))] dX4_edge_3 (by decide) rfl ?_
  refine wx_bipush C (-20) dX4_edge_5 (by decide) ?_
  refine wx_istore C [1, 2, 3, 4, 5, 6, 0] [(0, .ref (X.1.1 + 7)), (1, .ref (X.1.1 + k)), (2, .int ax), (3, .int h), (4, .int (bI w)), (5, .long (-9223372036854775808)), (7, .int (-20))] dX4_edge_7 (by decide) rfl ?_
  have h := lp_X4_edge C hQ hk hg0 (h := h) (w := w) (fun a b => ⟨_, rfl, rfl, rfl, a, b, rfl⟩) 42 0 (by omega) (by omega) (M 7 3) (M 7 4)
  rw [nt_self] at h
  exact h
end
section
/-! ===== Net: what a row reaches; Line ===== -/
theorem t_edge2 (G : g_G) (M : g_M) (L : g_L) {k l : Nat} {r : Nat → Nat} (hk : rok M k l r) (hg0 : 1 ≤ (M 7 1).toInt) (a b ax h : Int32) (w : Bool) : mt G yX4_edge (Cond.code yX4_edge cX4_edge 10 (some .long)) 2 [.ref (G.1 + 7), .ref (G.1 + k), .int ax, .int h, .int (bI w)] (nt M a b) L (qL fun v M' L' => L = L' ∧ v = edS (cLp M ax r l) h w 41 ∧ ∃ a b, M' = nt M a b) := by
  refine mt_mono (t_X4_edge G (nt M a b) L (hk.nt a b) hg0 ax h w) (fun r M1 L1 h => ?_)
  obtain ⟨u, e, h1, h2, a1, b1, h3⟩ := h
  rw [nt_nt] at h3
  exact ⟨u, e, h1, h2, a1, b1, h3⟩
def rchB (p : Lp) (pl h : Int32) : Bool := decide (edS p h false 41 - p.2.2.1.toInt64 ≤ pl.toInt64 ∧ pl.toInt64 ≤ edS p h true 41 + p.2.2.1.toInt64)
def rch (M : g_M) (r : Nat → Nat) (l e : Nat) : Bool := snd M r l && (rchB (cLp M 0 r l) (plc (M 3) (M 4) 0 e) (M 2 e) && rchB (cLp M 1 r l) (plc (M 3) (M 4) 1 e) (M 2 e))
set_option maxHeartbeats 4000000 in
set_option maxRecDepth 100000 in
theorem t_X4_reachesBy (G : g_G) (M : g_M) (L : g_L) {k l e : Nat} {r : Nat → Nat} (hk : rok M k l r) (hg0 : 1 ≤ (M 7 1).toInt) {x : Int32} (hx : x = nI e) (he : e < 60) (ax : Int32) : mt G yX4_reachesBy (Cond.code yX4_reachesBy cX4_reachesBy 6 (some .boolean)) 3 [.ref (G.1 + 7), .ref (G.1 + k), .int x, .int ax] M L (qI fun v M' L' => L = L' ∧ v = bI (rchB (cLp M ax r l) (plc (M 3) (M 4) ax e) (M 2 e)) ∧ ∃ a b, M' = nt M a b) := by
  refine mt_of (by decide) rfl (Nat.le_of_ble_eq_true rfl) [(0, .ref (G.1 + 7)), (1, .ref (G.1 + k)), (2, .int x), (3, .int ax)] rfl (fun X hG C hQ => ?_)
  subst hG
  refine wx_aload_n C 0 dX4_reachesBy_0 rfl rfl ?_
  refine gf_X4_18 C dX4_reachesBy_1 ?_
  refine wx_iload_n C 2 dX4_reachesBy_4 rfl rfl ?_
  refine wx_iload_n C 3 dX4_reachesBy_5 rfl rfl ?_
  refine ca_X4_31 C (rest := []) (t_X7_placeOf X.1 M L hx he ax) (by decide) rfl (by decide) rfl rfl (Nat.le_of_ble_eq_true rfl) dX4_reachesBy_6 (kI fun r6 M6 L6 q6 => ?_)
  obtain ⟨rfl, rfl, rfl⟩ := q6
  refine wx_istore C [1, 2, 3, 4, 0] [(0, .ref (X.1.1 + 7)), (1, .ref (X.1.1 + k)), (2, .int x), (3, .int ax), (4, .int (plc (M 3) (M 4) ax e))] dX4_reachesBy_9 (by decide) rfl ?_
  refine wx_aload_n C 0 dX4_reachesBy_11 rfl rfl ?_
  refine gf_X4_18 C dX4_reachesBy_12 ?_
  refine gf_X4_37 C dX4_reachesBy_15 ?_
  refine wx_iload_n C 2 dX4_reachesBy_18 rfl rfl ?_
  refine wx_iald C 2 e (by decide) (fun _ _ => rfl) (by decide) dX4_reachesBy_19 hx he ?_
  refine wx_istore C [1, 2, 3, 4, 5, 0] [(0, .ref (X.1.1 + 7)), (1, .ref (X.1.1 + k)), (2, .int x), (3, .int ax), (4, .int (plc (M 3) (M 4) ax e)), (5, .int (M 2 e))] dX4_reachesBy_20 (by decide) rfl ?_
  refine wx_iload C 4 dX4_reachesBy_22 rfl ?_
  refine wx_i2l C dX4_reachesBy_24 ?_
  refine wx_aload_n C 0 dX4_reachesBy_25 rfl rfl ?_
  refine wx_aload_n C 1 dX4_reachesBy_26 rfl rfl ?_
  refine wx_iload_n C 3 dX4_reachesBy_27 rfl rfl ?_
  refine wx_iload C 5 dX4_reachesBy_28 rfl ?_
  refine wx_iconst C 0 dX4_reachesBy_30 (by decide) ?_
  refine ca_X4_71 C (rest := [.long ((plc (M 3) (M 4) ax e).toInt64)]) (t_X4_edge X.1 M L hk hg0 ax (M 2 e) false) (by decide) rfl (by decide) rfl rfl (Nat.le_of_ble_eq_true rfl) dX4_reachesBy_31 (kL fun r31 M31 L31 q31 => ?_)
  obtain ⟨rfl, rfl, a31, b31, rfl⟩ := q31
  refine wx_aload_n C 0 dX4_reachesBy_34 rfl rfl ?_
  refine gf_X4_15 C dX4_reachesBy_35 ?_
  refine wx_i2l C dX4_reachesBy_38 ?_
  refine wx_lsub C dX4_reachesBy_39 ?_
  refine wx_lcmp C dX4_reachesBy_40 ?_
  refine wx_if_lt C 70 dX4_reachesBy_41 (by decide) (fun c41 => ?_) (fun c41 => ?_)
  · refine wx_iconst C 0 dX4_reachesBy_70 (by decide) ?_
    refine wx_zret C hQ dX4_reachesBy_71 (by decide) ?_
    refine ⟨_, rfl, rfl, ?_, _, _, rfl⟩
    unfold rchB
    rw [decide_eq_false]
    · rfl
    · intro z
      first
      | exact absurd ((lg_cmp_lt _ _).mp c41) (Int64.not_lt.mpr z.1)
      | exact absurd ((lg_cmp_gt _ _).mp c63) (Int64.not_lt.mpr z.2)
  · refine wx_iload C 4 dX4_reachesBy_44 rfl ?_
    refine wx_i2l C dX4_reachesBy_46 ?_
    refine wx_aload_n C 0 dX4_reachesBy_47 rfl rfl ?_
    refine wx_aload_n C 1 dX4_reachesBy_48 rfl rfl ?_
    refine wx_iload_n C 3 dX4_reachesBy_49 rfl rfl ?_
    refine wx_iload C 5 dX4_reachesBy_50 rfl ?_
    refine wx_iconst C 1 dX4_reachesBy_52 (by decide) ?_
    refine ca_X4_71 C (rest := [.long ((plc (M 3) (M 4) ax e).toInt64)]) (t_edge2 X.1 M L hk hg0 a31 b31 ax (M 2 e) true) (by decide) rfl (by decide) rfl rfl (Nat.le_of_ble_eq_true rfl) dX4_reachesBy_53 (kL fun r53 M53 L53 q53 => ?_)
    obtain ⟨rfl, rfl, a53, b53, rfl⟩ := q53
    refine wx_aload_n C 0 dX4_reachesBy_56 rfl rfl ?_
    refine gf_X4_15 C dX4_reachesBy_57 ?_
    refine wx_i2l C dX4_reachesBy_60 ?_
    refine wx_ladd C dX4_reachesBy_61 ?_
    refine wx_lcmp C dX4_reachesBy_62 ?_
    refine wx_if_gt C 70 dX4_reachesBy_63 (by decide) (fun c63 => ?_) (fun c63 => ?_)
    · refine wx_iconst C 0 dX4_reachesBy_70 (by decide) ?_
      refine wx_zret C hQ dX4_reachesBy_71 (by decide) ?_
      refine ⟨_, rfl, rfl, ?_, _, _, rfl⟩
      unfold rchB
      rw [decide_eq_false]
      · rfl
      · intro z
        first
        | exact absurd ((lg_cmp_lt _ _).mp c41) (Int64.not_lt.mpr z.1)
        | exact absurd ((lg_cmp_gt _ _).mp c63) (Int64.not_lt.mpr z.2)
    · refine wx_iconst C 1 dX4_reachesBy_66 (by decide) ?_
      refine wx_goto C 71 dX4_reachesBy_67 (by decide) ?_
      refine wx_zret C hQ dX4_reachesBy_71 (by decide) ?_
      refine ⟨_, rfl, rfl, ?_, _, _, rfl⟩
      unfold rchB
      rw [decide_eq_true]
      · rfl
      · exact ⟨Int64.not_lt.mp (fun z => c41 ((lg_cmp_lt _ _).mpr z)), Int64.not_lt.mp (fun z => c63 ((lg_cmp_gt _ _).mpr z))⟩
theorem t_reachesBy2 (G : g_G) (M : g_M) (L : g_L) {k l e : Nat} {r : Nat → Nat} (hk : rok M k l r) (hg0 : 1 ≤ (M 7 1).toInt) {x : Int32} (hx : x = nI e) (he : e < 60) (a b ax : Int32) : mt G yX4_reachesBy (Cond.code yX4_reachesBy cX4_reachesBy 6 (some .boolean)) 3 [.ref (G.1 + 7), .ref (G.1 + k), .int x, .int ax] (nt M a b) L (qI fun v M' L' => L = L' ∧ v = bI (rchB (cLp M ax r l) (plc (M 3) (M 4) ax e) (M 2 e)) ∧ ∃ a b, M' = nt M a b) := by
  refine mt_mono (t_X4_reachesBy G (nt M a b) L (hk.nt a b) hg0 hx he ax) (fun r M1 L1 h => ?_)
  obtain ⟨u, e, h1, h2, a1, b1, h3⟩ := h
  rw [nt_nt] at h3
  exact ⟨u, e, h1, h2, a1, b1, h3⟩
set_option maxHeartbeats 4000000 in
set_option maxRecDepth 100000 in
theorem t_X4_reaches (G : g_G) (M : g_M) (L : g_L) {k l e : Nat} {r : Nat → Nat} (hk : rok M k l r) (hg0 : 1 ≤ (M 7 1).toInt) {x : Int32} (hx : x = nI e) (he : e < 60) : mt G yX4_reaches (Cond.code yX4_reaches cX4_reaches 3 (some .boolean)) 4 [.ref (G.1 + 7), .ref (G.1 + k), .int x] M L (qI fun v M' L' => L = L' ∧ v = bI (rch M r l e) ∧ ∃ a b, M' = nt M a b) := by
  refine mt_of (by decide) rfl (Nat.le_of_ble_eq_true rfl) [(0, .ref (G.1 + 7)), (1, .ref (G.1 + k)), (2, .int x)] rfl (fun X hG C hQ => ?_)
  subst hG
  refine wx_aload_n C 0 dX4_reaches_0 rfl rfl ?_
  refine wx_aload_n C 1 dX4_reaches_1 rfl rfl ?_
  refine ca_X4_75 C (rest := []) (t_X4_isSound X.1 M L hk hg0) (by decide) rfl (by decide) rfl rfl (Nat.le_of_ble_eq_true rfl) dX4_reaches_2 (kI fun r2 M2 L2 q2 => ?_)
  obtain ⟨rfl, rfl, a2, b2, rfl⟩ := q2
  refine wx_if_eq C 32 dX4_reaches_5 (by decide) (fun c5 => ?_) (fun c5 => ?_)
  · refine wx_iconst C 0 dX4_reaches_32 (by decide) ?_
    refine wx_zret C hQ dX4_reaches_33 (by decide) ?_
    refine ⟨_, rfl, rfl, ?_, _, _, rfl⟩
    unfold rch
    first
    | rw [bI_0.mp c5, Bool.false_and]; rfl
    | rw [bI_0.mp c15, Bool.false_and, Bool.and_false]; rfl
    | rw [bI_0.mp c25, Bool.and_false, Bool.and_false]; rfl
  · refine wx_aload_n C 0 dX4_reaches_8 rfl rfl ?_
    refine wx_aload_n C 1 dX4_reaches_9 rfl rfl ?_
    refine wx_iload_n C 2 dX4_reaches_10 rfl rfl ?_
    refine wx_iconst C 0 dX4_reaches_11 (by decide) ?_
    refine ca_X4_79 C (rest := []) (t_reachesBy2 X.1 M L hk hg0 hx he a2 b2 0) (by decide) rfl (by decide) rfl rfl (Nat.le_of_ble_eq_true rfl) dX4_reaches_12 (kI fun r12 M12 L12 q12 => ?_)
    obtain ⟨rfl, rfl, a12, b12, rfl⟩ := q12
    refine wx_if_eq C 32 dX4_reaches_15 (by decide) (fun c15 => ?_) (fun c15 => ?_)
    · refine wx_iconst C 0 dX4_reaches_32 (by decide) ?_
      refine wx_zret C hQ dX4_reaches_33 (by decide) ?_
      refine ⟨_, rfl, rfl, ?_, _, _, rfl⟩
      unfold rch
      first
      | rw [bI_0.mp c5, Bool.false_and]; rfl
      | rw [bI_0.mp c15, Bool.false_and, Bool.and_false]; rfl
      | rw [bI_0.mp c25, Bool.and_false, Bool.and_false]; rfl
    · refine wx_aload_n C 0 dX4_reaches_18 rfl rfl ?_
      refine wx_aload_n C 1 dX4_reaches_19 rfl rfl ?_
      refine wx_iload_n C 2 dX4_reaches_20 rfl rfl ?_
      refine wx_iconst C 1 dX4_reaches_21 (by decide) ?_
      refine ca_X4_79 C (rest := []) (t_reachesBy2 X.1 M L hk hg0 hx he a12 b12 1) (by decide) rfl (by decide) rfl rfl (Nat.le_of_ble_eq_true rfl) dX4_reaches_22 (kI fun r22 M22 L22 q22 => ?_)
      obtain ⟨rfl, rfl, a22, b22, rfl⟩ := q22
      refine wx_if_eq C 32 dX4_reaches_25 (by decide) (fun c25 => ?_) (fun c25 => ?_)
      · refine wx_iconst C 0 dX4_reaches_32 (by decide) ?_
        refine wx_zret C hQ dX4_reaches_33 (by decide) ?_
        refine ⟨_, rfl, rfl, ?_, _, _, rfl⟩
        unfold rch
        first
        | rw [bI_0.mp c5, Bool.false_and]; rfl
        | rw [bI_0.mp c15, Bool.false_and, Bool.and_false]; rfl
        | rw [bI_0.mp c25, Bool.and_false, Bool.and_false]; rfl
      · refine wx_iconst C 1 dX4_reaches_28 (by decide) ?_
        refine wx_goto C 33 dX4_reaches_29 (by decide) ?_
        refine wx_zret C hQ dX4_reaches_33 (by decide) ?_
        refine ⟨_, rfl, rfl, ?_, _, _, rfl⟩
        unfold rch
        rw [bI_n0.mp c5, bI_n0.mp c15, bI_n0.mp c25]
        rfl
/-! Line -/
def sm (f : Nat → Int64) : Nat → Int64
  | 0 => 0
  | i + 1 => sm f i + f i
def smT (t : Nat → Int32) (r : Nat → Nat) : Nat → Int64 := sm (fun i => (t (r i)).toInt64)
def smX (t z : Nat → Int32) (r : Nat → Nat) : Nat → Int64 := sm (fun i => (t (r i)).toInt64 * (z (r i)).toInt64)
def lnS (L : g_L) (a b c : Int64) : g_L := g_sl (g_sl (g_sl L 146 0 a) 146 1 b) 146 2 c
theorem lnS_up (L : g_L) (a b c x y : Int64) : g_sl (g_sl (lnS L a b c) 146 1 (lnS L a b c 146 1 + x)) 146 2 (g_sl (lnS L a b c) 146 1 (lnS L a b c 146 1 + x) 146 2 + y) = lnS L a (b + x) (c + y) := by
  have e1 : lnS L a b c 146 1 = b := rfl
  have e2 : g_sl (lnS L a b c) 146 1 (b + x) 146 2 = c := rfl
  rw [e1, e2]
  funext u v
  simp only [lnS, g_sl_ap]
  (repeat' split) <;> first | rfl | (exfalso; omega)
/-- above and below the speed's line -/
def spT (t z : Nat → Int32) (r : Nat → Nat) (l : Nat) : Int64 := (nI l).toInt64 * smX t z r l - smT t r l * smT z r l
def spB (t : Nat → Int32) (r : Nat → Nat) (l : Nat) : Int64 := (nI l).toInt64 * smX t t r l - smT t r l * smT t r l
def lnF (L : g_L) (t z : Nat → Int32) (r : Nat → Nat) (l : Nat) : g_L := g_sl (g_sl (lnS L (nI l).toInt64 (smT t r l) (smT z r l)) 146 3 (spT t z r l)) 146 4 (spB t r l)
def jab (x : Int64) : Int64 := if 0 < x then x else -x
def gcs : Nat → Int64 → Int64 → Int64
  | 0, a, _ => a
  | n + 1, a, b => if b = 0 then a else gcs n b (a - a / b * b)
def red (top below : Int64) (part : Int32) : Int64 := if gcs 200 (jab top) (jab below) = 0 then NO else (if part = 0 then top else below) / gcs 200 (jab top) (jab below)
def pT (L : g_L) : Int64 := L 146 2 * L 146 4 - L 146 3 * L 146 1
def pB (L : g_L) : Int64 := L 146 0 * L 146 4
set_option maxHeartbeats 4000000 in
set_option maxRecDepth 100000 in
theorem lp_X3_through {X : g_X} {Qr : Option Value → g_M → g_L → Prop} (C : Cx X cX3_through 13 RX3 (some .boolean) 1) (hQ : Rx X Qr) {M : g_M} {L : g_L} {k l : Nat} {r : Nat → Nat} {ax : Int32} (hk : rok M k l r) (hp : Qr (some (.int (bI (decide (0 < spB (M 2) r l))))) M (lnF L (M 2) (plc (M 3) (M 4) ax) r l)) : ∀ (n i : Nat), i ≤ l → l < i + n → wx X M (lnS L (nI l).toInt64 (smT (M 2) r i) (smT (plc (M 3) (M 4) ax) r i)) 28 [(0, .ref (X.1.1 + 146)), (1, .ref (X.1.1 + 1)), (2, .ref (X.1.1 + k)), (3, .int ax), (4, .long (smX (M 2) (M 2) r i)), (6, .long (smX (M 2) (plc (M 3) (M 4) ax) r i)), (8, .int (nI i))] [] := by
  intro n
  induction n with
  | zero =>
    intro i h1 h2
    exact absurd h2 (by omega)
  | succ n ih =>
    intro i hi0 hin
    refine wx_iload C 6 dX3_through_28 rfl ?_
    refine wx_aload_n C 2 dX3_through_30 rfl rfl ?_
    refine gf_X3_9 C hk.1 dX3_through_31 ?_
    refine wx_icmp_ge C 115 dX3_through_34 (by decide) (fun c34 => ?_) (fun c34 => ?_)
    · have hib : i = l := by
        rw [hk.2.1] at c34
        have := hk.2.2.1
        exact Nat.le_antisymm hi0 ((nI_leI (by omega) (by omega)).mp c34)
      rw [hib]
      refine wx_aload_n C 0 dX3_through_115 rfl rfl ?_
      refine wx_aload_n C 0 dX3_through_116 rfl rfl ?_
      refine gf_X3_15 C dX3_through_117 ?_
      refine wx_lload C 5 dX3_through_120 rfl ?_
      refine wx_lmul C dX3_through_122 ?_
      refine wx_aload_n C 0 dX3_through_123 rfl rfl ?_
      refine gf_X3_21 C dX3_through_124 ?_
      refine wx_aload_n C 0 dX3_through_127 rfl rfl ?_
      refine gf_X3_24 C dX3_through_128 ?_
      refine wx_lmul C dX3_through_131 ?_
      refine wx_lsub C dX3_through_132 ?_
      refine pf_X3_39 C dX3_through_133 ?_
      refine wx_aload_n C 0 dX3_through_136 rfl rfl ?_
      refine wx_aload_n C 0 dX3_through_137 rfl rfl ?_
      refine gf_X3_15 C dX3_through_138 ?_
      refine wx_lload C 4 dX3_through_141 rfl ?_
      refine wx_lmul C dX3_through_143 ?_
      refine wx_aload_n C 0 dX3_through_144 rfl rfl ?_
      refine gf_X3_21 C dX3_through_145 ?_
      refine wx_aload_n C 0 dX3_through_148 rfl rfl ?_
      refine gf_X3_21 C dX3_through_149 ?_
      refine wx_lmul C dX3_through_152 ?_
      refine wx_lsub C dX3_through_153 ?_
      refine pf_X3_42 C dX3_through_154 ?_
      refine wx_aload_n C 0 dX3_through_157 rfl rfl ?_
      refine gf_X3_42 C dX3_through_158 ?_
      refine wx_lconst C 0 dX3_through_161 (by decide) ?_
      refine wx_lcmp C dX3_through_162 ?_
      refine wx_if_le C 170 dX3_through_163 (by decide) (fun c163 => ?_) (fun c163 => ?_)
      · refine wx_iconst C 0 dX3_through_170 (by decide) ?_
        refine wx_zret C hQ dX3_through_171 (by decide) ?_
        have hz : ¬ 0 < spB (M 2) r l := Int64.not_lt.mpr ((lg_cmp_le _ _).mp c163)
        rw [decide_eq_false hz] at hp
        exact hp
      · refine wx_iconst C 1 dX3_through_166 (by decide) ?_
        refine wx_goto C 171 dX3_through_167 (by decide) ?_
        refine wx_zret C hQ dX3_through_171 (by decide) ?_
        have hz : 0 < spB (M 2) r l := Int64.not_le.mp (fun z => c163 ((lg_cmp_le _ _).mpr z))
        rw [decide_eq_true hz] at hp
        exact hp
    · have hi : i < l := by
        rw [hk.2.1] at c34
        have := hk.2.2.1
        exact Nat.lt_of_not_le (fun h => c34 ((nI_leI (by omega) (by omega)).mpr h))
      have hri := hk.2.2.2 i hi
      refine wx_aload_n C 1 dX3_through_37 rfl rfl ?_
      refine gf_X3_27 C dX3_through_38 ?_
      refine wx_aload_n C 2 dX3_through_41 rfl rfl ?_
      refine gf_X3_33 C hk.1 dX3_through_42 ?_
      refine wx_iload C 6 dX3_through_45 rfl ?_
      refine wx_iald C (k + 1) i (g_row_lt2 hk.1) (sh_rowD hk.1) (by decide) dX3_through_47 rfl (by have := hk.2.2.1; omega) ?_
      refine wx_iald C 2 (r i) (by decide) (fun _ _ => rfl) (by decide) dX3_through_48 hri.1 hri.2 ?_
      refine wx_i2l C dX3_through_49 ?_
      refine wx_lstore C [1, 2, 3, 4, 5, 6, 7, 0] [(0, .ref (X.1.1 + 146)), (1, .ref (X.1.1 + 1)), (2, .ref (X.1.1 + k)), (3, .int ax), (4, .long (smX (M 2) (M 2) r i)), (6, .long (smX (M 2) (plc (M 3) (M 4) ax) r i)), (8, .int (nI i)), (9, .long ((M 2 (r i)).toInt64))] dX3_through_50 (by decide) rfl ?_
      refine wx_aload_n C 1 dX3_through_52 rfl rfl ?_
      refine wx_aload_n C 2 dX3_through_53 rfl rfl ?_
      refine gf_X3_33 C hk.1 dX3_through_54 ?_
      refine wx_iload C 6 dX3_through_57 rfl ?_
      refine wx_iald C (k + 1) i (g_row_lt2 hk.1) (sh_rowD hk.1) (by decide) dX3_through_59 rfl (by have := hk.2.2.1; omega) ?_
      refine wx_iload_n C 3 dX3_through_60 rfl rfl ?_
      refine ca_X3_35 C (rest := []) (t_X7_placeOf X.1 M (lnS L (nI l).toInt64 (smT (M 2) r i) (smT (plc (M 3) (M 4) ax) r i)) hri.1 hri.2 ax) (by decide) rfl (by decide) rfl rfl (Nat.le_of_ble_eq_true rfl) dX3_through_61 (kI fun r61 M61 L61 q61 => ?_)
      obtain ⟨rfl, rfl, rfl⟩ := q61
      refine wx_i2l C dX3_through_64 ?_
      refine wx_lstore C [1, 2, 3, 4, 5, 6, 7, 8, 0] [(0, .ref (X.1.1 + 146)), (1, .ref (X.1.1 + 1)), (2, .ref (X.1.1 + k)), (3, .int ax), (4, .long (smX (M 2) (M 2) r i)), (6, .long (smX (M 2) (plc (M 3) (M 4) ax) r i)), (8, .int (nI i)), (9, .long ((M 2 (r i)).toInt64)), (11, .long ((plc (M 3) (M 4) ax (r i)).toInt64))] dX3_through_65 (by decide) rfl ?_
      refine wx_aload_n C 0 dX3_through_67 rfl rfl ?_
      refine wx_dup C dX3_through_68 rfl ?_
      refine gf_X3_21 C dX3_through_69 ?_
      refine wx_lload C 7 dX3_through_72 rfl ?_
      refine wx_ladd C dX3_through_74 ?_
      refine pf_X3_21 C dX3_through_75 ?_
      refine wx_aload_n C 0 dX3_through_78 rfl rfl ?_
      refine wx_dup C dX3_through_79 rfl ?_
      refine gf_X3_24 C dX3_through_80 ?_
      refine wx_lload C 8 dX3_through_83 rfl ?_
      refine wx_ladd C dX3_through_85 ?_
      refine pf_X3_24 C dX3_through_86 ?_
      refine wx_lload C 4 dX3_through_89 rfl ?_
      refine wx_lload C 7 dX3_through_91 rfl ?_
      refine wx_lload C 7 dX3_through_93 rfl ?_
      refine wx_lmul C dX3_through_95 ?_
      refine wx_ladd C dX3_through_96 ?_
      refine wx_lstore C [1, 2, 3, 4, 0, 5, 6, 7, 8] [(0, .ref (X.1.1 + 146)), (1, .ref (X.1.1 + 1)), (2, .ref (X.1.1 + k)), (3, .int ax), (4, .long ((smX (M 2) (M 2) r i) + (((M 2 (r i)).toInt64) * ((M 2 (r i)).toInt64)))), (6, .long (smX (M 2) (plc (M 3) (M 4) ax) r i)), (8, .int (nI i)), (9, .long ((M 2 (r i)).toInt64)), (11, .long ((plc (M 3) (M 4) ax (r i)).toInt64))] dX3_through_97 (by decide) rfl ?_
      refine wx_lload C 5 dX3_through_99 rfl ?_
      refine wx_lload C 7 dX3_through_101 rfl ?_
      refine wx_lload C 8 dX3_through_103 rfl ?_
      refine wx_lmul C dX3_through_105 ?_
      refine wx_ladd C dX3_through_106 ?_
      refine wx_lstore C [1, 2, 3, 4, 5, 0, 6, 7, 8] [(0, .ref (X.1.1 + 146)), (1, .ref (X.1.1 + 1)), (2, .ref (X.1.1 + k)), (3, .int ax), (4, .long ((smX (M 2) (M 2) r i) + (((M 2 (r i)).toInt64) * ((M 2 (r i)).toInt64)))), (6, .long ((smX (M 2) (plc (M 3) (M 4) ax) r i) + (((M 2 (r i)).toInt64) * ((plc (M 3) (M 4) ax (r i)).toInt64)))), (8, .int (nI i)), (9, .long ((M 2 (r i)).toInt64)), (11, .long ((plc (M 3) (M 4) ax (r i)).toInt64))] dX3_through_107 (by decide) rfl ?_
      refine wx_iinc C (v := (nI (i + 1))) 6 [1, 2, 3, 4, 5, 6, 0, 7, 8] [(0, .ref (X.1.1 + 146)), (1, .ref (X.1.1 + 1)), (2, .ref (X.1.1 + k)), (3, .int ax), (4, .long ((smX (M 2) (M 2) r i) + (((M 2 (r i)).toInt64) * ((M 2 (r i)).toInt64)))), (6, .long ((smX (M 2) (plc (M 3) (M 4) ax) r i) + (((M 2 (r i)).toInt64) * ((plc (M 3) (M 4) ax (r i)).toInt64)))), (8, .int (nI (i + 1))), (9, .long ((M 2 (r i)).toInt64)), (11, .long ((plc (M 3) (M 4) ax (r i)).toInt64))] dX3_through_109 rfl (nI_1 _) (by decide) rfl ?_
      refine wx_goto C 28 dX3_through_112 (by decide) ?_
      rw [lnS_up]
      exact wx_sub [0, 1, 2, 3, 4, 5, 6] rfl (ih (i + 1) (by omega) (by omega))
set_option maxHeartbeats 4000000 in
set_option maxRecDepth 100000 in
theorem t_X3_through (G : g_G) (M : g_M) (L : g_L) {k l : Nat} {r : Nat → Nat} (hk : rok M k l r) (ax : Int32) : mt G yX3_through (Cond.code yX3_through cX3_through 13 (some .boolean)) 1 [.ref (G.1 + 146), .ref (G.1 + 1), .ref (G.1 + k), .int ax] M L (qI fun v M' L' => M = M' ∧ v = bI (decide (0 < spB (M 2) r l)) ∧ L' = lnF L (M 2) (plc (M 3) (M 4) ax) r l) := by
  refine mt_of (by decide) rfl (Nat.le_of_ble_eq_true rfl) [(0, .ref (G.1 + 146)), (1, .ref (G.1 + 1)), (2, .ref (G.1 + k)), (3, .int ax)] rfl (fun X hG C hQ => ?_)
  subst hG
  refine wx_aload_n C 0 dX3_through_0 rfl rfl ?_
  refine wx_aload_n C 2 dX3_through_1 rfl rfl ?_
  refine gf_X3_9 C hk.1 dX3_through_2 ?_
  refine wx_i2l C dX3_through_5 ?_
  refine pf_X3_15 C dX3_through_6 ?_
  refine wx_aload_n C 0 dX3_through_9 rfl rfl ?_
  refine wx_lconst C 0 dX3_through_10 (by decide) ?_
  refine pf_X3_21 C dX3_through_11 ?_
  refine wx_aload_n C 0 dX3_through_14 rfl rfl ?_
  refine wx_lconst C 0 dX3_through_15 (by decide) ?_
  refine pf_X3_24 C dX3_through_16 ?_
  refine wx_lconst C 0 dX3_through_19 (by decide) ?_
  refine wx_lstore C [1, 2, 3, 4, 0] [(0, .ref (X.1.1 + 146)), (1, .ref (X.1.1 + 1)), (2, .ref (X.1.1 + k)), (3, .int ax), (4, .long 0)] dX3_through_20 (by decide) rfl ?_
  refine wx_lconst C 0 dX3_through_22 (by decide) ?_
  refine wx_lstore C [1, 2, 3, 4, 5, 0] [(0, .ref (X.1.1 + 146)), (1, .ref (X.1.1 + 1)), (2, .ref (X.1.1 + k)), (3, .int ax), (4, .long 0), (6, .long 0)] dX3_through_23 (by decide) rfl ?_
  refine wx_iconst C 0 dX3_through_25 (by decide) ?_
  refine wx_istore C [1, 2, 3, 4, 5, 6, 0] [(0, .ref (X.1.1 + 146)), (1, .ref (X.1.1 + 1)), (2, .ref (X.1.1 + k)), (3, .int ax), (4, .long 0), (6, .long 0), (8, .int 0)] dX3_through_26 (by decide) rfl ?_
  have h := lp_X3_through C hQ hk (ax := ax) (L := L) ⟨_, rfl, rfl, rfl, rfl⟩ (l + 1) 0 (by omega) (by omega)
  have e : lnS L (nI l).toInt64 (smT (M 2) r 0) (smT (plc (M 3) (M 4) ax) r 0) = g_sl (g_sl (g_sl L 146 0 ((M k 1).toInt64)) 146 1 0) 146 2 0 := by rw [hk.2.1]; rfl
  rw [e] at h
  exact h
set_option maxHeartbeats 4000000 in
set_option maxRecDepth 100000 in
theorem t_X3_placeTop (G : g_G) (M : g_M) (L : g_L)  : mt G yX3_placeTop (Cond.code yX3_placeTop cX3_placeTop 1 (some .long)) 0 [.ref (G.1 + 146)] M L (qL fun v M' L' => M = M' ∧ v = pT L ∧ L = L') := by
  refine mt_of (by decide) rfl (Nat.le_of_ble_eq_true rfl) [(0, .ref (G.1 + 146))] rfl (fun X hG C hQ => ?_)
  subst hG
  refine wx_aload_n C 0 dX3_placeTop_0 rfl rfl ?_
  refine gf_X3_24 C dX3_placeTop_1 ?_
  refine wx_aload_n C 0 dX3_placeTop_4 rfl rfl ?_
  refine gf_X3_42 C dX3_placeTop_5 ?_
  refine wx_lmul C dX3_placeTop_8 ?_
  refine wx_aload_n C 0 dX3_placeTop_9 rfl rfl ?_
  refine gf_X3_39 C dX3_placeTop_10 ?_
  refine wx_aload_n C 0 dX3_placeTop_13 rfl rfl ?_
  refine gf_X3_21 C dX3_placeTop_14 ?_
  refine wx_lmul C dX3_placeTop_17 ?_
  refine wx_lsub C dX3_placeTop_18 ?_
  refine wx_lret C hQ dX3_placeTop_19 ?_
  exact ⟨_, rfl, rfl, rfl, rfl⟩
set_option maxHeartbeats 4000000 in
set_option maxRecDepth 100000 in
theorem t_X3_placeBelow (G : g_G) (M : g_M) (L : g_L)  : mt G yX3_placeBelow (Cond.code yX3_placeBelow cX3_placeBelow 1 (some .long)) 0 [.ref (G.1 + 146)] M L (qL fun v M' L' => M = M' ∧ v = pB L ∧ L = L') := by
  refine mt_of (by decide) rfl (Nat.le_of_ble_eq_true rfl) [(0, .ref (G.1 + 146))] rfl (fun X hG C hQ => ?_)
  subst hG
  refine wx_aload_n C 0 dX3_placeBelow_0 rfl rfl ?_
  refine gf_X3_15 C dX3_placeBelow_1 ?_
  refine wx_aload_n C 0 dX3_placeBelow_4 rfl rfl ?_
  refine gf_X3_42 C dX3_placeBelow_5 ?_
  refine wx_lmul C dX3_placeBelow_8 ?_
  refine wx_lret C hQ dX3_placeBelow_9 ?_
  exact ⟨_, rfl, rfl, rfl, rfl⟩
set_option maxHeartbeats 4000000 in
set_option maxRecDepth 100000 in
theorem t_X3_missTop (G : g_G) (M : g_M) (L : g_L) (h p : Int64) : mt G yX3_missTop (Cond.code yX3_missTop cX3_missTop 5 (some .long)) 1 [.ref (G.1 + 146), .long h, .long p] M L (qL fun v M' L' => M = M' ∧ v = jab (p * pB L - pT L - L 146 3 * L 146 0 * h) ∧ L = L') := by
  refine mt_of (by decide) rfl (Nat.le_of_ble_eq_true rfl) [(0, .ref (G.1 + 146)), (1, .long h), (3, .long p)] rfl (fun X hG C hQ => ?_)
  subst hG
  refine wx_lload_n C 2 dX3_missTop_0 rfl rfl ?_
  refine wx_aload_n C 0 dX3_missTop_1 rfl rfl ?_
  refine ca_X3_45 C (rest := [.long p]) (t_X3_placeBelow X.1 M L) (by decide) rfl (by decide) rfl rfl (Nat.le_of_ble_eq_true rfl) dX3_missTop_2 (kL fun r2 M2 L2 q2 => ?_)
  obtain ⟨rfl, rfl, rfl⟩ := q2
  refine wx_lmul C dX3_missTop_5 ?_
  refine wx_aload_n C 0 dX3_missTop_6 rfl rfl ?_
  refine ca_X3_49 C (rest := [.long (p * (pB L))]) (t_X3_placeTop X.1 M L) (by decide) rfl (by decide) rfl rfl (Nat.le_of_ble_eq_true rfl) dX3_missTop_7 (kL fun r7 M7 L7 q7 => ?_)
  obtain ⟨rfl, rfl, rfl⟩ := q7
  refine wx_lsub C dX3_missTop_10 ?_
  refine wx_aload_n C 0 dX3_missTop_11 rfl rfl ?_
  refine gf_X3_39 C dX3_missTop_12 ?_
  refine wx_aload_n C 0 dX3_missTop_15 rfl rfl ?_
  refine gf_X3_15 C dX3_missTop_16 ?_
  refine wx_lmul C dX3_missTop_19 ?_
  refine wx_lload_n C 1 dX3_missTop_20 rfl rfl ?_
  refine wx_lmul C dX3_missTop_21 ?_
  refine wx_lsub C dX3_missTop_22 ?_
  refine wx_mabsl C w3_114 w3_115 w1_13 w3_116 (by decide) (Nat.le_of_ble_eq_true rfl) dX3_missTop_23 ?_
  refine wx_lret C hQ dX3_missTop_26 ?_
  exact ⟨_, rfl, rfl, rfl, rfl⟩
set_option maxHeartbeats 4000000 in
set_option maxRecDepth 100000 in
theorem lp_X3_gcd {X : g_X} {Qr : Option Value → g_M → g_L → Prop} (C : Cx X cX3_commonDivisor 11 RX3 (some .long) 0) (hQ : Rx X Qr) {M : g_M} {L : g_L} {a0 b0 : Int64} : ∀ (n i : Nat), i ≤ 200 → 200 < i + n → ∀ (a b : Int64), Qr (some (.long (gcs (200 - i) a b))) M L → wx X M L 9 [(0, .long a0), (2, .long b0), (4, .long a), (6, .long b), (8, .int (nI i))] [] := by
  intro n
  induction n with
  | zero =>
    intro i h1 h2
    exact absurd h2 (by omega)
  | succ n ih =>
    intro i hi0 hin a b hp
    refine wx_iload C 4 dX3_commonDivisor_9 rfl ?_
    refine wx_sipush C 200 dX3_commonDivisor_11 (by decide) ?_
    refine wx_icmp_ge C 45 dX3_commonDivisor_14 (by decide) (fun c14 => ?_) (fun c14 => ?_)
    · refine wx_lload C 2 dX3_commonDivisor_45 rfl ?_
      refine wx_lret C hQ dX3_commonDivisor_47 ?_
      first
      | (rw [if_pos ((lg_cmp_eq _ _).mp c21)] at hp; exact hp)
      | (rw [show 200 - i = 0 by have := (nI_leI (a := 200) (b := i) (by decide) (by omega)).mp c14; omega, gcs] at hp; exact hp)
    · have hi : i < 200 := Nat.lt_of_not_le (fun h => c14 ((nI_leI (a := 200) (b := i) (by decide) (by omega)).mpr h))
      rw [show 200 - i = (200 - (i + 1)) + 1 by omega, gcs] at hp
      refine wx_lload C 3 dX3_commonDivisor_17 rfl ?_
      refine wx_lconst C 0 dX3_commonDivisor_19 (by decide) ?_
      refine wx_lcmp C dX3_commonDivisor_20 ?_
      refine wx_if_eq C 45 dX3_commonDivisor_21 (by decide) (fun c21 => ?_) (fun c21 => ?_)
      · refine wx_lload C 2 dX3_commonDivisor_45 rfl ?_
        refine wx_lret C hQ dX3_commonDivisor_47 ?_
        first
        | (rw [if_pos ((lg_cmp_eq _ _).mp c21)] at hp; exact hp)
        | (rw [show 200 - i = 0 by have := (nI_leI (a := 200) (b := i) (by decide) (by omega)).mp c14; omega, gcs] at hp; exact hp)
      · refine wx_lload C 2 dX3_commonDivisor_24 rfl ?_
        refine wx_lload C 3 dX3_commonDivisor_26 rfl ?_
        refine wx_lrem C dX3_commonDivisor_28 (fun z => c21 ((lg_cmp_eq _ _).mpr z)) ?_
        refine wx_lstore C [1, 2, 3, 4, 5, 0] [(0, .long a0), (2, .long b0), (4, .long a), (6, .long b), (8, .int (nI i)), (9, .long (a - a / b * b))] dX3_commonDivisor_29 (by decide) rfl ?_
        refine wx_lload C 3 dX3_commonDivisor_31 rfl ?_
        refine wx_lstore C [1, 2, 0, 3, 4, 5] [(0, .long a0), (2, .long b0), (4, .long b), (6, .long b), (8, .int (nI i)), (9, .long (a - a / b * b))] dX3_commonDivisor_33 (by decide) rfl ?_
        refine wx_lload C 5 dX3_commonDivisor_35 rfl ?_
        refine wx_lstore C [1, 2, 3, 0, 4, 5] [(0, .long a0), (2, .long b0), (4, .long b), (6, .long (a - a / b * b)), (8, .int (nI i)), (9, .long (a - a / b * b))] dX3_commonDivisor_37 (by decide) rfl ?_
        refine wx_iinc C (v := (nI (i + 1))) 4 [1, 2, 3, 4, 0, 5] [(0, .long a0), (2, .long b0), (4, .long b), (6, .long (a - a / b * b)), (8, .int (nI (i + 1))), (9, .long (a - a / b * b))] dX3_commonDivisor_39 rfl (nI_1 _) (by decide) rfl ?_
        refine wx_goto C 9 dX3_commonDivisor_42 (by decide) ?_
        rw [if_neg (fun z => c21 ((lg_cmp_eq _ _).mpr z))] at hp
        exact wx_sub [0, 1, 2, 3, 4] rfl (ih (i + 1) (by omega) (by omega) _ _ hp)
set_option maxHeartbeats 4000000 in
set_option maxRecDepth 100000 in
theorem t_X3_commonDivisor (G : g_G) (M : g_M) (L : g_L) (a b : Int64) : mt G yX3_commonDivisor (Cond.code yX3_commonDivisor cX3_commonDivisor 11 (some .long)) 0 [.long a, .long b] M L (qL fun v M' L' => M = M' ∧ v = gcs 200 a b ∧ L = L') := by
  refine mt_of (by decide) rfl (Nat.le_of_ble_eq_true rfl) [(0, .long a), (2, .long b)] rfl (fun X hG C hQ => ?_)
  subst hG
  refine wx_lload_n C 0 dX3_commonDivisor_0 rfl rfl ?_
  refine wx_lstore C [1, 2, 0] [(0, .long a), (2, .long b), (4, .long a)] dX3_commonDivisor_1 (by decide) rfl ?_
  refine wx_lload_n C 1 dX3_commonDivisor_3 rfl rfl ?_
  refine wx_lstore C [1, 2, 3, 0] [(0, .long a), (2, .long b), (4, .long a), (6, .long b)] dX3_commonDivisor_4 (by decide) rfl ?_
  refine wx_iconst C 0 dX3_commonDivisor_6 (by decide) ?_
  refine wx_istore C [1, 2, 3, 4, 0] [(0, .long a), (2, .long b), (4, .long a), (6, .long b), (8, .int 0)] dX3_commonDivisor_7 (by decide) rfl ?_
  exact lp_X3_gcd C hQ 201 0 (by omega) (by omega) a b ⟨_, rfl, rfl, rfl, rfl⟩
set_option maxHeartbeats 4000000 in
set_option maxRecDepth 100000 in
theorem t_X3_reduced (G : g_G) (M : g_M) (L : g_L) (top below : Int64) (part : Int32) : mt G yX3_reduced (Cond.code yX3_reduced cX3_reduced 7 (some .long)) 1 [.long top, .long below, .int part] M L (qL fun v M' L' => M = M' ∧ v = red top below part ∧ L = L') := by
  refine mt_of (by decide) rfl (Nat.le_of_ble_eq_true rfl) [(0, .long top), (2, .long below), (4, .int part)] rfl (fun X hG C hQ => ?_)
  subst hG
  refine wx_lload_n C 0 dX3_reduced_0 rfl rfl ?_
  refine wx_mabsl C w3_114 w3_115 w1_13 w3_116 (by decide) (Nat.le_of_ble_eq_true rfl) dX3_reduced_1 ?_
  refine wx_lload_n C 1 dX3_reduced_4 rfl rfl ?_
  refine wx_mabsl C w3_114 w3_115 w1_13 w3_116 (by decide) (Nat.le_of_ble_eq_true rfl) dX3_reduced_5 ?_
  refine ca_X3_58 C (rest := []) (t_X3_commonDivisor X.1 M L (jab top) (jab below)) (by decide) rfl rfl (Nat.le_of_ble_eq_true rfl) dX3_reduced_8 (kL fun r8 M8 L8 q8 => ?_)
  obtain ⟨rfl, rfl, rfl⟩ := q8
  refine wx_lstore C [1, 2, 3, 0] [(0, .long top), (2, .long below), (4, .int part), (5, .long (gcs 200 (jab top) (jab below)))] dX3_reduced_11 (by decide) rfl ?_
  refine wx_lload C 3 dX3_reduced_13 rfl ?_
  refine wx_lconst C 0 dX3_reduced_15 (by decide) ?_
  refine wx_lcmp C dX3_reduced_16 ?_
  refine wx_if_ne C 24 dX3_reduced_17 (by decide) (fun c17 => ?_) (fun c17 => ?_)
  · refine wx_iload C 2 dX3_reduced_24 rfl ?_
    refine wx_if_ne C 33 dX3_reduced_26 (by decide) (fun c26 => ?_) (fun c26 => ?_)
    · refine wx_lload_n C 1 dX3_reduced_33 rfl rfl ?_
      refine wx_lload C 3 dX3_reduced_34 rfl ?_
      refine wx_ldiv C dX3_reduced_36 (fun z => c17 ((lg_cmp_eq _ _).mpr z)) ?_
      refine wx_lret C hQ dX3_reduced_37 ?_
      refine ⟨_, rfl, rfl, ?_, rfl⟩
      unfold red
      rw [if_neg (fun z => c17 ((lg_cmp_eq _ _).mpr z))]
      first
      | rw [if_pos c26]
      | rw [if_neg c26]
    · refine wx_lload_n C 0 dX3_reduced_29 rfl rfl ?_
      refine wx_goto C 34 dX3_reduced_30 (by decide) ?_
      refine wx_lload C 3 dX3_reduced_34 rfl ?_
      refine wx_ldiv C dX3_reduced_36 (fun z => c17 ((lg_cmp_eq _ _).mpr z)) ?_
      refine wx_lret C hQ dX3_reduced_37 ?_
      refine ⟨_, rfl, rfl, ?_, rfl⟩
      unfold red
      rw [if_neg (fun z => c17 ((lg_cmp_eq _ _).mpr z))]
      first
      | rw [if_pos c26]
      | rw [if_neg c26]
  · refine wx_ldc2 C w3_120 dX3_reduced_20 ?_
    refine wx_lret C hQ dX3_reduced_23 ?_
    refine ⟨_, rfl, rfl, ?_, rfl⟩
    unfold red
    rw [if_pos ((lg_cmp_eq _ _).mp c17)]
    rfl
end
section
/-! ===== Wanderers, Acts ===== -/
def cHas (M : g_M) (x : Int32) : Bool := decide (0 ≤ x ∧ x < M 16 2) && decide (M (18 + 3 * x.toNatClampNeg) 1 = 0)
set_option maxHeartbeats 4000000 in
set_option maxRecDepth 100000 in
theorem t_X9_has (G : g_G) (M : g_M) (L : g_L) {x : Int32} {e : Nat} (he : M 16 2 = nI e) (h12 : e ≤ 12) : mt G yX9_has (Cond.code yX9_has cX9_has 2 (some .boolean)) 0 [.ref (G.1 + 16), .int x] M L (qI fun v M' L' => v = bI (cHas M x) ∧ M = M' ∧ L = L') := by
  refine mt_of (by decide) rfl (Nat.le_of_ble_eq_true rfl) [(0, .ref (G.1 + 16)), (1, .int x)] rfl (fun X hG C hQ => ?_)
  subst hG
  refine wx_iload_n C 1 dX9_has_0 rfl rfl ?_
  refine wx_if_lt C 28 dX9_has_1 (by decide) (fun c1 => ?_) (fun c1 => ?_)
  · refine wx_iconst C 0 dX9_has_28 (by decide) ?_
    refine wx_zret C hQ dX9_has_29 (by decide) ?_
    refine ⟨_, rfl, ?_, rfl, rfl⟩
    unfold cHas
    first
    | (rw [decide_eq_false (fun z => absurd c1 (Int32.not_lt.mpr z.1)), Bool.false_and]; rfl)
    | (rw [decide_eq_false (fun z => absurd c9 (Int32.not_le.mpr z.2)), Bool.false_and]; rfl)
    | (rw [nI_clamp (by omega), decide_eq_false c21, Bool.and_false]; rfl)
  · refine wx_iload_n C 1 dX9_has_4 rfl rfl ?_
    refine wx_aload_n C 0 dX9_has_5 rfl rfl ?_
    refine gf_X9_22 C dX9_has_6 ?_
    refine wx_icmp_ge C 28 dX9_has_9 (by decide) (fun c9 => ?_) (fun c9 => ?_)
    · refine wx_iconst C 0 dX9_has_28 (by decide) ?_
      refine wx_zret C hQ dX9_has_29 (by decide) ?_
      refine ⟨_, rfl, ?_, rfl, rfl⟩
      unfold cHas
      first
      | (rw [decide_eq_false (fun z => absurd c1 (Int32.not_lt.mpr z.1)), Bool.false_and]; rfl)
      | (rw [decide_eq_false (fun z => absurd c9 (Int32.not_le.mpr z.2)), Bool.false_and]; rfl)
      | (rw [nI_clamp (by omega), decide_eq_false c21, Bool.and_false]; rfl)
    · obtain ⟨p, hp, rfl⟩ : ∃ p, p < e ∧ x = nI p := in_of (by omega) (Int32.not_lt.mp c1) (by rw [← he]; exact Int32.not_le.mp c9)
      refine wx_aload_n C 0 dX9_has_12 rfl rfl ?_
      refine gf_X9_11 C dX9_has_13 ?_
      refine wx_iload_n C 1 dX9_has_16 rfl rfl ?_
      refine wx_aaldW C p dX9_has_17 rfl (by omega) ?_
      refine gf_X9_26 C (by omega) dX9_has_18 ?_
      refine wx_if_ne C 28 dX9_has_21 (by decide) (fun c21 => ?_) (fun c21 => ?_)
      · refine wx_iconst C 0 dX9_has_28 (by decide) ?_
        refine wx_zret C hQ dX9_has_29 (by decide) ?_
        refine ⟨_, rfl, ?_, rfl, rfl⟩
        unfold cHas
        first
        | (rw [decide_eq_false (fun z => absurd c1 (Int32.not_lt.mpr z.1)), Bool.false_and]; rfl)
        | (rw [decide_eq_false (fun z => absurd c9 (Int32.not_le.mpr z.2)), Bool.false_and]; rfl)
        | (rw [nI_clamp (by omega), decide_eq_false c21, Bool.and_false]; rfl)
      · refine wx_iconst C 1 dX9_has_24 (by decide) ?_
        refine wx_goto C 29 dX9_has_25 (by decide) ?_
        refine wx_zret C hQ dX9_has_29 (by decide) ?_
        refine ⟨_, rfl, ?_, rfl, rfl⟩
        unfold cHas
        rw [nI_clamp (by omega), decide_eq_true c21, decide_eq_true ⟨Int32.not_lt.mp c1, Int32.not_le.mp c9⟩]
        rfl
theorem cHas_t {M : g_M} {x : Int32} {e : Nat} (he : M 16 2 = nI e) (h12 : e ≤ 12) (h : cHas M x = true) : ∃ p, p < e ∧ x = nI p ∧ M (18 + 3 * p) 1 = 0 := by
  unfold cHas at h
  rw [Bool.and_eq_true, decide_eq_true_eq, decide_eq_true_eq] at h
  obtain ⟨⟨h1, h2⟩, h3⟩ := h
  rw [he] at h2
  obtain ⟨p, hp, rfl⟩ := in_of (by omega) h1 h2
  rw [nI_clamp (by omega)] at h3
  exact ⟨p, hp, rfl, h3⟩
theorem cHas_n {M : g_M} {p e : Nat} (he : M 16 2 = nI e) (h12 : e ≤ 12) (hp : p < e) : cHas M (nI p) = decide (M (18 + 3 * p) 1 = 0) := by
  unfold cHas
  rw [nI_clamp (by omega), he, decide_eq_true (show 0 ≤ nI p ∧ nI p < nI e from ⟨nI_pos' (by omega), nI_lt hp (by omega)⟩), Bool.true_and]
set_option maxHeartbeats 4000000 in
set_option maxRecDepth 100000 in
theorem t_X9_add (G : g_G) (M : g_M) (L : g_L) (nm : Int32) {e : Nat} (he : M 16 2 = nI e) (h12 : e ≤ 12) : mt G yX9_add (Cond.code yX9_add cX9_add 3 (some .int)) 0 [.ref (G.1 + 16), .int nm] M L (qI fun v M' L' => L = L' ∧ (e = 12 ∧ v = -4 ∧ M = M' ∨ e < 12 ∧ v = nI e ∧ M' = g_st (g_st M (18 + 3 * e) 0 nm) 16 2 (nI (e + 1)))) := by
  refine mt_of (by decide) rfl (Nat.le_of_ble_eq_true rfl) [(0, .ref (G.1 + 16)), (1, .int nm)] rfl (fun X hG C hQ => ?_)
  subst hG
  refine wx_aload_n C 0 dX9_add_0 rfl rfl ?_
  refine gf_X9_22 C dX9_add_1 ?_
  refine wx_bipush C 12 dX9_add_4 (by decide) ?_
  refine wx_icmp_lt C 12 dX9_add_6 (by decide) (fun c6 => ?_) (fun c6 => ?_)
  · have hlt : e < 12 := by
      rw [he] at c6
      exact (nI_ltI (by omega) (by omega)).mp c6
    refine wx_aload_n C 0 dX9_add_12 rfl rfl ?_
    refine gf_X9_22 C dX9_add_13 ?_
    refine wx_istore_n C [1, 2, 0] [(0, .ref (X.1.1 + 16)), (1, .int nm), (2, .int (M 16 2))] dX9_add_16 rfl (by decide) rfl ?_
    refine wx_aload_n C 0 dX9_add_17 rfl rfl ?_
    refine gf_X9_11 C dX9_add_18 ?_
    refine wx_iload_n C 2 dX9_add_21 rfl rfl ?_
    refine wx_aaldW C e dX9_add_22 he hlt ?_
    refine wx_iload_n C 1 dX9_add_23 rfl rfl ?_
    refine pf_X9_30 C hlt dX9_add_24 ?_
    refine wx_aload_n C 0 dX9_add_27 rfl rfl ?_
    refine wx_dup C dX9_add_28 rfl ?_
    refine gf_X9_22 C dX9_add_29 ?_
    refine wx_iconst C 1 dX9_add_32 (by decide) ?_
    refine wx_iadd C dX9_add_33 ?_
    refine pf_X9_22 C dX9_add_34 ?_
    refine wx_iload_n C 2 dX9_add_37 rfl rfl ?_
    refine wx_iret C hQ dX9_add_38 ?_
    refine ⟨_, rfl, rfl, Or.inr ⟨hlt, he, ?_⟩⟩
    have e1 : g_st M (18 + 3 * e) 0 nm 16 2 = nI e := by rw [g_st_ap, if_neg (by omega)]; exact he
    rw [e1, nI_1]
  · refine wx_bipush C (-4) dX9_add_9 (by decide) ?_
    refine wx_iret C hQ dX9_add_11 ?_
    refine ⟨_, rfl, rfl, Or.inl ⟨?_, rfl, rfl⟩⟩
    rw [he] at c6
    exact Nat.le_antisymm h12 (Nat.le_of_not_lt (fun h => c6 ((nI_ltI (a := e) (b := 12) (by omega) (by decide)).mpr h)))
set_option maxHeartbeats 4000000 in
set_option maxRecDepth 100000 in
theorem lp_X9_notGone {X : g_X} {Qr : Option Value → g_M → g_L → Prop} (C : Cx X cX9_notGone 3 RX9 (some .int) 1) (hQ : Rx X Qr) {M : g_M} {L : g_L} {b : Nat} (hb : M 16 2 = nI b) (h12 : b ≤ 12) (hp : Qr (some (.int (nI (cn (fun p => decide (M (18 + 3 * p) 1 = 0)) b)))) M L) : ∀ (n i : Nat), i ≤ b → b < i + n → wx X M L 4 [(0, .ref (X.1.1 + 16)), (1, .int (nI (cn (fun p => decide (M (18 + 3 * p) 1 = 0)) i))), (2, .int (nI i))] [] := by
  intro n
  induction n with
  | zero =>
    intro i h1 h2
    exact absurd h2 (by omega)
  | succ n ih =>
    intro i hi0 hin
    refine wx_iload_n C 2 dX9_notGone_4 rfl rfl ?_
    refine wx_aload_n C 0 dX9_notGone_5 rfl rfl ?_
    refine gf_X9_22 C dX9_notGone_6 ?_
    refine wx_icmp_ge C 29 dX9_notGone_9 (by decide) (fun c9 => ?_) (fun c9 => ?_)
    · have hib : i = b := by
        rw [hb] at c9
        exact Nat.le_antisymm hi0 ((nI_leI (by omega) (by omega)).mp c9)
      rw [hib]
      refine wx_iload_n C 1 dX9_notGone_29 rfl rfl ?_
      refine wx_iret C hQ dX9_notGone_30 ?_
      exact hp
    · have hi : i < b := by
        rw [hb] at c9
        exact Nat.lt_of_not_le (fun h => c9 ((nI_leI (by omega) (by omega)).mpr h))
      refine wx_aload_n C 0 dX9_notGone_12 rfl rfl ?_
      refine wx_iload_n C 2 dX9_notGone_13 rfl rfl ?_
      refine ca_X9_33 C (rest := []) (t_X9_has X.1 M L (x := nI i) hb h12) (by decide) rfl (by decide) rfl rfl (Nat.le_of_ble_eq_true rfl) dX9_notGone_14 (kI fun r14 M14 L14 q14 => ?_)
      obtain ⟨rfl, rfl, rfl⟩ := q14
      rw [cHas_n hb h12 hi]
      refine wx_if_eq C 23 dX9_notGone_17 (by decide) (fun c17 => ?_) (fun c17 => ?_)
      · refine wx_iinc C (v := (nI (i + 1))) 2 [1, 2, 0] [(0, .ref (X.1.1 + 16)), (1, .int (nI (cn (fun p => decide (M (18 + 3 * p) 1 = 0)) i))), (2, .int (nI (i + 1)))] dX9_notGone_23 rfl (nI_1 _) (by decide) rfl ?_
        refine wx_goto C 4 dX9_notGone_26 (by decide) ?_
        have h := ih (i + 1) (by omega) (by omega)
        simp only [cn] at h
        rw [if_neg (by rw [bI_0] at c17; simpa using c17)] at h
        exact h
      · refine wx_iinc C (v := (nI ((cn (fun p => decide (M (18 + 3 * p) 1 = 0)) i) + 1))) 1 [1, 0, 2] [(0, .ref (X.1.1 + 16)), (1, .int (nI ((cn (fun p => decide (M (18 + 3 * p) 1 = 0)) i) + 1))), (2, .int (nI i))] dX9_notGone_20 rfl (nI_1 _) (by decide) rfl ?_
        refine wx_iinc C (v := (nI (i + 1))) 2 [1, 2, 0] [(0, .ref (X.1.1 + 16)), (1, .int (nI ((cn (fun p => decide (M (18 + 3 * p) 1 = 0)) i) + 1))), (2, .int (nI (i + 1)))] dX9_notGone_23 rfl (nI_1 _) (by decide) rfl ?_
        refine wx_goto C 4 dX9_notGone_26 (by decide) ?_
        have h := ih (i + 1) (by omega) (by omega)
        simp only [cn] at h
        rw [if_pos (by rw [bI_n0] at c17; simpa using c17)] at h
        exact h
set_option maxHeartbeats 4000000 in
set_option maxRecDepth 100000 in
theorem t_X9_notGone (G : g_G) (M : g_M) (L : g_L) {b : Nat} (hb : M 16 2 = nI b) (h12 : b ≤ 12) : mt G yX9_notGone (Cond.code yX9_notGone cX9_notGone 3 (some .int)) 1 [.ref (G.1 + 16)] M L (qI fun v M' L' => v = nI (cn (fun p => decide (M (18 + 3 * p) 1 = 0)) b) ∧ M = M' ∧ L = L') := by
  refine mt_of (by decide) rfl (Nat.le_of_ble_eq_true rfl) [(0, .ref (G.1 + 16))] rfl (fun X hG C hQ => ?_)
  subst hG
  refine wx_iconst C 0 dX9_notGone_0 (by decide) ?_
  refine wx_istore_n C [1, 0] [(0, .ref (X.1.1 + 16)), (1, .int 0)] dX9_notGone_1 rfl (by decide) rfl ?_
  refine wx_iconst C 0 dX9_notGone_2 (by decide) ?_
  refine wx_istore_n C [1, 2, 0] [(0, .ref (X.1.1 + 16)), (1, .int 0), (2, .int 0)] dX9_notGone_3 rfl (by decide) rfl ?_
  exact lp_X9_notGone C hQ hb h12 ⟨_, rfl, rfl, rfl, rfl⟩ (b + 1) 0 (by omega) (by omega)
/-- a path's row is told anew, its dots put right: first those of the old row are free -/
def rpl (M : g_M) (p l l2 : Nat) (r r2 : Nat → Nat) (f : Nat → Int32) : g_M := pa (g_sr (pa M r (-1) l) (19 + 3 * p) l2 f) r2 (nI p) l2
set_option maxHeartbeats 4000000 in
set_option maxRecDepth 100000 in
theorem t_X9_replaceRow (G : g_G) (M : g_M) (L : g_L) {x : Int32} {p j l l2 : Nat} {r r2 : Nat → Nat} (hx : x = nI p) (hp : p < 12) (h1 : rok M (19 + 3 * p) l r) (h2 : rok M j l2 r2) (hj : j ≠ 19 + 3 * p) : mt G yX9_replaceRow (Cond.code yX9_replaceRow cX9_replaceRow 4 none) 3 [.ref (G.1 + 16), .int x, .ref (G.1 + j)] M L (qV fun M' L' => L = L' ∧ M' = rpl M p l l2 r r2 (M (j + 1))) := by
  refine mt_of (by decide) rfl (Nat.le_of_ble_eq_true rfl) [(0, .ref (G.1 + 16)), (1, .int x), (2, .ref (G.1 + j))] rfl (fun X hG C hQ => ?_)
  subst hG
  have hj6 := g_row_6 h2.1
  have hw6 := g_row_6 h1.1
  refine wx_aload_n C 0 dX9_replaceRow_0 rfl rfl ?_
  refine gf_X9_11 C dX9_replaceRow_1 ?_
  refine wx_iload_n C 1 dX9_replaceRow_4 rfl rfl ?_
  refine wx_aaldW C p dX9_replaceRow_5 hx hp ?_
  refine gf_X9_37 C hp dX9_replaceRow_6 ?_
  refine wx_astore_n C [1, 2, 3, 0] [(0, .ref (X.1.1 + 16)), (1, .int x), (2, .ref (X.1.1 + j)), (3, .ref (X.1.1 + (19 + 3 * p)))] dX9_replaceRow_9 rfl (by decide) rfl ?_
  refine wx_aload_n C 0 dX9_replaceRow_10 rfl rfl ?_
  refine gf_X9_17 C dX9_replaceRow_11 ?_
  refine wx_aload_n C 3 dX9_replaceRow_14 rfl rfl ?_
  refine wx_iconst C (-1) dX9_replaceRow_15 (by decide) ?_
  refine ca_X9_41 C (rest := []) (t_X7_putAll X.1 M L (-1) r h1.1 h1.2.1 h1.2.2.1 h1.2.2.2) (by decide) rfl (by decide) rfl rfl (Nat.le_of_ble_eq_true rfl) dX9_replaceRow_16 (kV fun M16 L16 q16 => ?_)
  obtain ⟨rfl, rfl⟩ := q16
  refine wx_aload_n C 3 dX9_replaceRow_19 rfl rfl ?_
  refine wx_aload_n C 2 dX9_replaceRow_20 rfl rfl ?_
  refine ca_X9_47 C (rest := []) (t_X6_become X.1 (pa M r (-1) l) L h1.1 h2.1 hj (by rw [pa_out _ _ _ _ hj6.1]; exact h2.2.1) h2.2.2.1) (g_row_lt1 (rw_w hp)) (sh_row (rw_w hp) _ _) (by decide) rfl rfl (Nat.le_of_ble_eq_true rfl) dX9_replaceRow_21 (kV fun M21 L21 q21 => ?_)
  obtain ⟨rfl, rfl⟩ := q21
  have ej : pa M r (-1) l (j + 1) = M (j + 1) := by funext b; exact pa_out _ _ _ _ hj6.2 _
  rw [ej]
  refine wx_aload_n C 0 dX9_replaceRow_24 rfl rfl ?_
  refine gf_X9_17 C dX9_replaceRow_25 ?_
  refine wx_aload_n C 3 dX9_replaceRow_28 rfl rfl ?_
  refine wx_iload_n C 1 dX9_replaceRow_29 rfl rfl ?_
  refine ca_X9_41 C (rest := []) (t_X7_putAll X.1 (g_sr (pa M r (-1) l) (19 + 3 * p) l2 (M (j + 1))) L x r2 h1.1 (g_sr_len _ _ _ _) h2.2.2.1 (fun i hi => by rw [g_sr_at _ _ _ _ hi]; exact h2.2.2.2 i hi)) (by decide) rfl (by decide) rfl rfl (Nat.le_of_ble_eq_true rfl) dX9_replaceRow_30 (kV fun M30 L30 q30 => ?_)
  obtain ⟨rfl, rfl⟩ := q30
  refine wx_vret C hQ dX9_replaceRow_33 ?_
  exact ⟨rfl, rfl, by rw [hx]; rfl⟩
set_option maxHeartbeats 4000000 in
set_option maxRecDepth 100000 in
theorem t_X9_bringBack (G : g_G) (M : g_M) (L : g_L) {x : Int32} {p l : Nat} {r : Nat → Nat} (hx : x = nI p) (hp : p < 12) (h1 : rok M (19 + 3 * p) l r) : mt G yX9_bringBack (Cond.code yX9_bringBack cX9_bringBack 2 none) 1 [.ref (G.1 + 16), .int x] M L (qV fun M' L' => L = L' ∧ M' = pa (g_st M (18 + 3 * p) 1 0) r (nI p) l) := by
  refine mt_of (by decide) rfl (Nat.le_of_ble_eq_true rfl) [(0, .ref (G.1 + 16)), (1, .int x)] rfl (fun X hG C hQ => ?_)
  subst hG
  refine wx_aload_n C 0 dX9_bringBack_0 rfl rfl ?_
  refine gf_X9_11 C dX9_bringBack_1 ?_
  refine wx_iload_n C 1 dX9_bringBack_4 rfl rfl ?_
  refine wx_aaldW C p dX9_bringBack_5 hx hp ?_
  refine wx_iconst C 0 dX9_bringBack_6 (by decide) ?_
  refine pf_X9_26 C hp (by decide) (by decide) dX9_bringBack_7 ?_
  refine wx_aload_n C 0 dX9_bringBack_10 rfl rfl ?_
  refine gf_X9_17 C dX9_bringBack_11 ?_
  refine wx_aload_n C 0 dX9_bringBack_14 rfl rfl ?_
  refine gf_X9_11 C dX9_bringBack_15 ?_
  refine wx_iload_n C 1 dX9_bringBack_18 rfl rfl ?_
  refine wx_aaldW C p dX9_bringBack_19 hx hp ?_
  refine gf_X9_37 C hp dX9_bringBack_20 ?_
  refine wx_iload_n C 1 dX9_bringBack_23 rfl rfl ?_
  refine ca_X9_41 C (rest := []) (t_X7_putAll X.1 (g_st M (18 + 3 * p) 1 0) L x r h1.1 (by rw [g_st_ap, if_neg (by omega)]; exact h1.2.1) h1.2.2.1 (fun i hi => by rw [g_st_ap, if_neg (by omega)]; exact h1.2.2.2 i hi)) (by decide) rfl (by decide) rfl rfl (Nat.le_of_ble_eq_true rfl) dX9_bringBack_24 (kV fun M24 L24 q24 => ?_)
  obtain ⟨rfl, rfl⟩ := q24
  refine wx_vret C hQ dX9_bringBack_27 ?_
  exact ⟨rfl, rfl, by rw [hx]⟩
/-! Acts -/
def actF (M : g_M) (nx : Nat) (x : Int32) (l : Nat) (f : Nat → Int32) : g_M := g_sr (g_st (g_st (g_st M (56 + 3 * nx) 0 x) (56 + 3 * nx) 1 0) (56 + 3 * nx) 2 (-1)) (57 + 3 * nx) l f
def actK (M : g_M) (nx kp : Nat) (x : Int32) (l : Nat) (f : Nat → Int32) : g_M := g_st (g_st (actF M nx x l f) 54 1 (nI ((nx + 1) % 30))) 54 2 (nI (min (kp + 1) 30))
theorem min30 {k : Nat} (h : k ≤ 30) : (if (30 : Int32) < nI (k + 1) then 30 else nI (k + 1)) = nI (min (k + 1) 30) := by
  by_cases h2 : k = 30
  · subst h2; decide
  · rw [if_neg (show ¬ (30 : Int32) < nI (k + 1) from nI_nlt (a := 30) (b := k + 1) (by omega) (by omega)), Nat.min_eq_left (by omega)]
set_option maxHeartbeats 4000000 in
set_option maxRecDepth 100000 in
theorem t_X1_keep (G : g_G) (M : g_M) (L : g_L) {x : Int32} {nx kp j l : Nat} (hn : M 54 1 = nI nx) (hnx : nx < 30) (hk : M 54 2 = nI kp) (hkp : kp ≤ 30) (hj : g_row j) (hl : M j 1 = nI l) (h16 : l ≤ 16) (hne : j ≠ 57 + 3 * nx) : mt G yX1_keep (Cond.code yX1_keep cX1_keep 4 (some (.object "NightDots$Act"))) 3 [.ref (G.1 + 54), .int x, .ref (G.1 + j)] M L (qR G.1 fun k M' L' => L = L' ∧ k = 56 + 3 * nx ∧ M' = actK M nx kp x l (M (j + 1))) := by
  refine mt_of (by decide) rfl (Nat.le_of_ble_eq_true rfl) [(0, .ref (G.1 + 54)), (1, .int x), (2, .ref (G.1 + j))] rfl (fun X hG C hQ => ?_)
  subst hG
  have hj1 : j ≠ 56 + 3 * nx ∧ j + 1 ≠ 56 + 3 * nx := by
    rcases hj with rfl | rfl | ⟨p, hp, rfl⟩ | ⟨i, hi, rfl⟩ <;> omega
  refine wx_aload_n C 0 dX1_keep_0 rfl rfl ?_
  refine gf_X1_11 C dX1_keep_1 ?_
  refine wx_aload_n C 0 dX1_keep_4 rfl rfl ?_
  refine gf_X1_18 C dX1_keep_5 ?_
  refine wx_aaldA C nx dX1_keep_8 hn hnx ?_
  refine wx_astore_n C [1, 2, 3, 0] [(0, .ref (X.1.1 + 54)), (1, .int x), (2, .ref (X.1.1 + j)), (3, .ref (X.1.1 + (56 + 3 * nx)))] dX1_keep_9 rfl (by decide) rfl ?_
  refine wx_aload_n C 3 dX1_keep_10 rfl rfl ?_
  refine wx_iload_n C 1 dX1_keep_11 rfl rfl ?_
  refine pf_X1_22 C hnx dX1_keep_12 ?_
  refine wx_aload_n C 3 dX1_keep_15 rfl rfl ?_
  refine wx_iconst C 0 dX1_keep_16 (by decide) ?_
  refine pf_X1_25 C hnx (by decide) (by decide) dX1_keep_17 ?_
  refine wx_aload_n C 3 dX1_keep_20 rfl rfl ?_
  refine wx_iconst C (-1) dX1_keep_21 (by decide) ?_
  refine pf_X1_29 C hnx dX1_keep_22 ?_
  refine wx_aload_n C 3 dX1_keep_25 rfl rfl ?_
  refine gf_X1_32 C hnx dX1_keep_26 ?_
  refine wx_aload_n C 2 dX1_keep_29 rfl rfl ?_
  refine ca_X1_36 C (rest := []) (t_X6_become X.1 (g_st (g_st (g_st M (56 + 3 * nx) 0 x) (56 + 3 * nx) 1 0) (56 + 3 * nx) 2 (-1)) L (rw_a hnx) hj hne (by rw [g_st_ap, if_neg (by omega), g_st_ap, if_neg (by omega), g_st_ap, if_neg (by omega)]; exact hl) h16) (g_row_lt1 (rw_a hnx)) (sh_row (rw_a hnx) _ _) (by decide) rfl rfl (Nat.le_of_ble_eq_true rfl) dX1_keep_30 (kV fun M30 L30 q30 => ?_)
  obtain ⟨rfl, rfl⟩ := q30
  have ej : (g_st (g_st (g_st M (56 + 3 * nx) 0 x) (56 + 3 * nx) 1 0) (56 + 3 * nx) 2 (-1)) (j + 1) = M (j + 1) := by funext b; rw [g_st_ap, if_neg (by omega), g_st_ap, if_neg (by omega), g_st_ap, if_neg (by omega)]
  rw [ej]
  have en : actF M nx x l (M (j + 1)) 54 1 = nI nx := by rw [actF, g_sr_out _ _ _ _ _ (by omega) (by omega), g_st_ap, if_neg (by omega), g_st_ap, if_neg (by omega), g_st_ap, if_neg (by omega)]; exact hn
  have ek : actF M nx x l (M (j + 1)) 54 2 = nI kp := by rw [actF, g_sr_out _ _ _ _ _ (by omega) (by omega), g_st_ap, if_neg (by omega), g_st_ap, if_neg (by omega), g_st_ap, if_neg (by omega)]; exact hk
  change wx X (actF M nx x l (M (j + 1))) L _ _ _
  refine wx_aload_n C 0 dX1_keep_33 rfl rfl ?_
  refine wx_aload_n C 0 dX1_keep_34 rfl rfl ?_
  refine gf_X1_18 C dX1_keep_35 ?_
  refine wx_iconst C 1 dX1_keep_38 (by decide) ?_
  refine wx_iadd C dX1_keep_39 ?_
  refine wx_bipush C 30 dX1_keep_40 (by decide) ?_
  refine wx_irem C dX1_keep_42 (by decide) ?_
  refine pf_X1_18 C dX1_keep_43 ?_
  refine wx_aload_n C 0 dX1_keep_46 rfl rfl ?_
  refine wx_aload_n C 0 dX1_keep_47 rfl rfl ?_
  refine gf_X1_42 C dX1_keep_48 ?_
  refine wx_iconst C 1 dX1_keep_51 (by decide) ?_
  refine wx_iadd C dX1_keep_52 ?_
  refine wx_bipush C 30 dX1_keep_53 (by decide) ?_
  refine wx_mmin C w3_3 w2_196 w1_13 w2_197 (by decide) (Nat.le_of_ble_eq_true rfl) dX1_keep_55 ?_
  refine pf_X1_42 C dX1_keep_58 ?_
  refine wx_aload_n C 3 dX1_keep_61 rfl rfl ?_
  refine wx_aret C hQ dX1_keep_62 (Or.inl ⟨_, rfl⟩) (Or.inr ⟨_, rfl⟩) ?_
  refine ⟨56 + 3 * nx, rfl, rfl, rfl, ?_⟩
  unfold actK
  rw [en, nI_1, show (30 : Int32) = nI 30 from rfl, pk_rem (by omega) (by omega) (by omega)]
  have e3 : g_st (actF M nx x l (M (j + 1))) 54 1 (nI ((nx + 1) % 30)) 54 2 = nI kp := by rw [g_st_ap, if_neg (by decide)]; exact ek
  rw [e3, nI_1]
  rw [← min30 hkp]
  rfl
set_option maxHeartbeats 4000000 in
set_option maxRecDepth 100000 in
theorem t_X1_takeLatest (G : g_G) (M : g_M) (L : g_L) {nx kp : Nat} (hn : M 54 1 = nI nx) (hnx : nx < 30) (hk : M 54 2 = nI kp) (hkp : kp ≤ 30) : mt G yX1_takeLatest (Cond.code yX1_takeLatest cX1_takeLatest 1 (some (.object "NightDots$Act"))) 0 [.ref (G.1 + 54)] M L (qN G.1 fun k M' L' => L = L' ∧ (kp = 0 ∧ k = none ∧ M = M' ∨ 0 < kp ∧ k = some (56 + 3 * ((nx + 29) % 30)) ∧ M' = g_st (g_st M 54 1 (nI ((nx + 29) % 30))) 54 2 (nI (kp - 1)))) := by
  refine mt_of (by decide) rfl (Nat.le_of_ble_eq_true rfl) [(0, .ref (G.1 + 54))] rfl (fun X hG C hQ => ?_)
  subst hG
  have er : nI nx + 30 - 1 - (nI nx + 30 - 1) / 30 * 30 = nI ((nx + 29) % 30) := by
    rw [show (30 : Int32) = nI 30 from rfl, nI_add, show (1 : Int32) = nI 1 from rfl, pk_sub (by omega), pk_rem (by omega) (by omega) (by omega)]
    rfl
  refine wx_aload_n C 0 dX1_takeLatest_0 rfl rfl ?_
  refine gf_X1_42 C dX1_takeLatest_1 ?_
  refine wx_if_ne C 9 dX1_takeLatest_4 (by decide) (fun c4 => ?_) (fun c4 => ?_)
  · refine wx_aload_n C 0 dX1_takeLatest_9 rfl rfl ?_
    refine wx_aload_n C 0 dX1_takeLatest_10 rfl rfl ?_
    refine gf_X1_18 C dX1_takeLatest_11 ?_
    refine wx_bipush C 30 dX1_takeLatest_14 (by decide) ?_
    refine wx_iadd C dX1_takeLatest_16 ?_
    refine wx_iconst C 1 dX1_takeLatest_17 (by decide) ?_
    refine wx_isub C dX1_takeLatest_18 ?_
    refine wx_bipush C 30 dX1_takeLatest_19 (by decide) ?_
    refine wx_irem C dX1_takeLatest_21 (by decide) ?_
    refine pf_X1_18 C dX1_takeLatest_22 ?_
    refine wx_aload_n C 0 dX1_takeLatest_25 rfl rfl ?_
    refine wx_dup C dX1_takeLatest_26 rfl ?_
    refine gf_X1_42 C dX1_takeLatest_27 ?_
    refine wx_iconst C 1 dX1_takeLatest_30 (by decide) ?_
    refine wx_isub C dX1_takeLatest_31 ?_
    refine pf_X1_42 C dX1_takeLatest_32 ?_
    refine wx_aload_n C 0 dX1_takeLatest_35 rfl rfl ?_
    refine gf_X1_11 C dX1_takeLatest_36 ?_
    refine wx_aload_n C 0 dX1_takeLatest_39 rfl rfl ?_
    refine gf_X1_18 C dX1_takeLatest_40 ?_
    refine wx_aaldA C ((nx + 29) % 30) dX1_takeLatest_43 (by rw [g_st_ap, if_neg (by decide), g_st_ap, if_pos (by decide), hn]; exact er) (by omega) ?_
    refine wx_aret C hQ dX1_takeLatest_44 (Or.inl ⟨_, rfl⟩) (Or.inr ⟨_, rfl⟩) ?_
    refine Or.inr ⟨_, rfl, rfl, Or.inr ⟨?_, rfl, ?_⟩⟩
    · rw [hk] at c4
      exact Nat.pos_of_ne_zero (fun z => c4 (by rw [z]; rfl))
    · have h0 : 0 < kp := by
        rw [hk] at c4
        exact Nat.pos_of_ne_zero (fun z => c4 (by rw [z]; rfl))
      rw [hn, er]
      have e3 : g_st M 54 1 (nI ((nx + 29) % 30)) 54 2 = nI kp := by rw [g_st_ap, if_neg (by decide)]; exact hk
      rw [e3, show nI kp - 1 = nI (kp - 1) from pk_sub (b := 1) h0]
  · refine wx_anull C dX1_takeLatest_7 ?_
    refine wx_aret C hQ dX1_takeLatest_8 (Or.inl ⟨_, rfl⟩) (Or.inl rfl) ?_
    refine Or.inl ⟨rfl, rfl, Or.inl ⟨?_, rfl, rfl⟩⟩
    rw [hk] at c4
    exact nI_inj (by omega) (by decide) c4
set_option maxHeartbeats 4000000 in
set_option maxRecDepth 100000 in
theorem t_X1_forgetAll (G : g_G) (M : g_M) (L : g_L)  : mt G yX1_forgetAll (Cond.code yX1_forgetAll cX1_forgetAll 1 none) 0 [.ref (G.1 + 54)] M L (qV fun M' L' => L = L' ∧ M' = g_st M 54 2 0) := by
  refine mt_of (by decide) rfl (Nat.le_of_ble_eq_true rfl) [(0, .ref (G.1 + 54))] rfl (fun X hG C hQ => ?_)
  subst hG
  refine wx_aload_n C 0 dX1_forgetAll_0 rfl rfl ?_
  refine wx_iconst C 0 dX1_forgetAll_1 (by decide) ?_
  refine pf_X1_42 C dX1_forgetAll_2 ?_
  refine wx_vret C hQ dX1_forgetAll_5 ?_
  exact ⟨rfl, rfl, rfl⟩
end
