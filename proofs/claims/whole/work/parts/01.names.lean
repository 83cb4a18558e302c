-- ===== PART A: goes FIRST, ahead of the names: the tables' words, and 'selects' of the private methods out of them =====
/-- a private method of a class that the tables say can be made, by its rows of tables_1 -/
def lw_okq (q : MethodName × Nat) : Prop := (q.1.cls ≠ "java/lang/invoke/MethodHandle" ∧ q.1.cls ≠ "java/lang/invoke/VarHandle") ∧ Cond.instantiable q.1.cls q.2 ∈ tables_1 ∧ Cond.privateMethod q.1 ∈ tables_1 ∧ Cond.instanceMethod q.1 ∈ tables_1
theorem lw_p0 : lw_okq (⟨"BoxArchive", "trayAt", "(I)LBoxArchive$Tray;"⟩, 8) := ⟨⟨by decide +kernel, by decide +kernel⟩, List.mem_of_getElem? (i := 14) (by decide +kernel), List.mem_of_getElem? (i := 195) (by decide +kernel), List.mem_of_getElem? (i := 196) (by decide +kernel)⟩
theorem lw_p1 : lw_okq (⟨"BoxArchive", "deny", "(I)Z"⟩, 8) := ⟨⟨by decide +kernel, by decide +kernel⟩, List.mem_of_getElem? (i := 14) (by decide +kernel), List.mem_of_getElem? (i := 202) (by decide +kernel), List.mem_of_getElem? (i := 203) (by decide +kernel)⟩
theorem lw_p2 : lw_okq (⟨"BoxArchive", "grant", "()Z"⟩, 8) := ⟨⟨by decide +kernel, by decide +kernel⟩, List.mem_of_getElem? (i := 14) (by decide +kernel), List.mem_of_getElem? (i := 213) (by decide +kernel), List.mem_of_getElem? (i := 214) (by decide +kernel)⟩
theorem lw_p3 : lw_okq (⟨"BoxArchive$Tray", "cut", "(J)J"⟩, 3) := ⟨⟨by decide +kernel, by decide +kernel⟩, List.mem_of_getElem? (i := 144) (by decide +kernel), List.mem_of_getElem? (i := 236) (by decide +kernel), List.mem_of_getElem? (i := 237) (by decide +kernel)⟩
theorem lw_p4 : lw_okq (⟨"BoxArchive", "refuse", "(I)I"⟩, 8) := ⟨⟨by decide +kernel, by decide +kernel⟩, List.mem_of_getElem? (i := 14) (by decide +kernel), List.mem_of_getElem? (i := 244) (by decide +kernel), List.mem_of_getElem? (i := 245) (by decide +kernel)⟩
theorem lw_p5 : lw_okq (⟨"BoxArchive", "answer", "(I)I"⟩, 8) := ⟨⟨by decide +kernel, by decide +kernel⟩, List.mem_of_getElem? (i := 14) (by decide +kernel), List.mem_of_getElem? (i := 332) (by decide +kernel), List.mem_of_getElem? (i := 333) (by decide +kernel)⟩
theorem lw_p6 : lw_okq (⟨"BoxArchive$Thing", "isClosedTo", "(II)Z"⟩, 11) := ⟨⟨by decide +kernel, by decide +kernel⟩, List.mem_of_getElem? (i := 273) (by decide +kernel), List.mem_of_getElem? (i := 440) (by decide +kernel), List.mem_of_getElem? (i := 441) (by decide +kernel)⟩
theorem lw_p7 : lw_okq (⟨"BoxArchive$Catalogue", "insertByMark", "(LBoxArchive$Thing;I)V"⟩, 4) := ⟨⟨by decide +kernel, by decide +kernel⟩, List.mem_of_getElem? (i := 24) (by decide +kernel), List.mem_of_getElem? (i := 488) (by decide +kernel), List.mem_of_getElem? (i := 489) (by decide +kernel)⟩
theorem lw_p8 : lw_okq (⟨"BoxArchive", "whyNotOnShelf", "(II)I"⟩, 8) := ⟨⟨by decide +kernel, by decide +kernel⟩, List.mem_of_getElem? (i := 14) (by decide +kernel), List.mem_of_getElem? (i := 522) (by decide +kernel), List.mem_of_getElem? (i := 523) (by decide +kernel)⟩
theorem lw_p9 : lw_okq (⟨"BoxArchive$Shelves", "isGoalBlocked", "()Z"⟩, 7) := ⟨⟨by decide +kernel, by decide +kernel⟩, List.mem_of_getElem? (i := 69) (by decide +kernel), List.mem_of_getElem? (i := 555) (by decide +kernel), List.mem_of_getElem? (i := 556) (by decide +kernel)⟩
theorem lw_p10 : lw_okq (⟨"BoxArchive$Shelves", "isAstray", "(I)Z"⟩, 7) := ⟨⟨by decide +kernel, by decide +kernel⟩, List.mem_of_getElem? (i := 69) (by decide +kernel), List.mem_of_getElem? (i := 559) (by decide +kernel), List.mem_of_getElem? (i := 560) (by decide +kernel)⟩
theorem lw_p11 : lw_okq (⟨"BoxArchive$Shelves", "nextBox", "()I"⟩, 7) := ⟨⟨by decide +kernel, by decide +kernel⟩, List.mem_of_getElem? (i := 69) (by decide +kernel), List.mem_of_getElem? (i := 563) (by decide +kernel), List.mem_of_getElem? (i := 564) (by decide +kernel)⟩
theorem lw_p12 : lw_okq (⟨"BoxArchive$Shelves", "isGoalEmpty", "(I)Z"⟩, 7) := ⟨⟨by decide +kernel, by decide +kernel⟩, List.mem_of_getElem? (i := 69) (by decide +kernel), List.mem_of_getElem? (i := 567) (by decide +kernel), List.mem_of_getElem? (i := 568) (by decide +kernel)⟩
theorem lw_p13 : lw_okq (⟨"BoxArchive$Shelves", "addCarry", "(II)V"⟩, 7) := ⟨⟨by decide +kernel, by decide +kernel⟩, List.mem_of_getElem? (i := 69) (by decide +kernel), List.mem_of_getElem? (i := 575) (by decide +kernel), List.mem_of_getElem? (i := 576) (by decide +kernel)⟩
theorem lw_p14 : lw_okq (⟨"BoxArchive$Search", "isCheaper", "(II)Z"⟩, 4) := ⟨⟨by decide +kernel, by decide +kernel⟩, List.mem_of_getElem? (i := 124) (by decide +kernel), List.mem_of_getElem? (i := 605) (by decide +kernel), List.mem_of_getElem? (i := 606) (by decide +kernel)⟩
theorem lw_p15 : lw_okq (⟨"BoxArchive", "keepFraction", "(JJ)V"⟩, 8) := ⟨⟨by decide +kernel, by decide +kernel⟩, List.mem_of_getElem? (i := 14) (by decide +kernel), List.mem_of_getElem? (i := 617) (by decide +kernel), List.mem_of_getElem? (i := 618) (by decide +kernel)⟩
def lw_privs_1 : List (MethodName × Nat) := [(⟨"BoxArchive", "trayAt", "(I)LBoxArchive$Tray;"⟩, 8), (⟨"BoxArchive", "deny", "(I)Z"⟩, 8), (⟨"BoxArchive", "grant", "()Z"⟩, 8), (⟨"BoxArchive$Tray", "cut", "(J)J"⟩, 3), (⟨"BoxArchive", "refuse", "(I)I"⟩, 8), (⟨"BoxArchive", "answer", "(I)I"⟩, 8), (⟨"BoxArchive$Thing", "isClosedTo", "(II)Z"⟩, 11), (⟨"BoxArchive$Catalogue", "insertByMark", "(LBoxArchive$Thing;I)V"⟩, 4), (⟨"BoxArchive", "whyNotOnShelf", "(II)I"⟩, 8), (⟨"BoxArchive$Shelves", "isGoalBlocked", "()Z"⟩, 7), (⟨"BoxArchive$Shelves", "isAstray", "(I)Z"⟩, 7), (⟨"BoxArchive$Shelves", "nextBox", "()I"⟩, 7), (⟨"BoxArchive$Shelves", "isGoalEmpty", "(I)Z"⟩, 7), (⟨"BoxArchive$Shelves", "addCarry", "(II)V"⟩, 7), (⟨"BoxArchive$Search", "isCheaper", "(II)Z"⟩, 4), (⟨"BoxArchive", "keepFraction", "(JJ)V"⟩, 8)]
theorem lw_r1 : ∀ q ∈ lw_privs_1, lw_okq q := List.forall_mem_cons.mpr ⟨lw_p0, List.forall_mem_cons.mpr ⟨lw_p1, List.forall_mem_cons.mpr ⟨lw_p2, List.forall_mem_cons.mpr ⟨lw_p3, List.forall_mem_cons.mpr ⟨lw_p4, List.forall_mem_cons.mpr ⟨lw_p5, List.forall_mem_cons.mpr ⟨lw_p6, List.forall_mem_cons.mpr ⟨lw_p7, List.forall_mem_cons.mpr ⟨lw_p8, List.forall_mem_cons.mpr ⟨lw_p9, List.forall_mem_cons.mpr ⟨lw_p10, List.forall_mem_cons.mpr ⟨lw_p11, List.forall_mem_cons.mpr ⟨lw_p12, List.forall_mem_cons.mpr ⟨lw_p13, List.forall_mem_cons.mpr ⟨lw_p14, List.forall_mem_cons.mpr ⟨lw_p15, fun _ h => absurd h List.not_mem_nil⟩⟩⟩⟩⟩⟩⟩⟩⟩⟩⟩⟩⟩⟩⟩⟩
theorem lw_p16 : lw_okq (⟨"BoxArchiveModel", "no", "(I)Z"⟩, 33) := ⟨⟨by decide +kernel, by decide +kernel⟩, List.mem_of_getElem? (i := 632) (by decide +kernel), List.mem_of_getElem? (i := 746) (by decide +kernel), List.mem_of_getElem? (i := 747) (by decide +kernel)⟩
theorem lw_p17 : lw_okq (⟨"BoxArchiveModel", "placed", "(II)I"⟩, 33) := ⟨⟨by decide +kernel, by decide +kernel⟩, List.mem_of_getElem? (i := 632) (by decide +kernel), List.mem_of_getElem? (i := 754) (by decide +kernel), List.mem_of_getElem? (i := 755) (by decide +kernel)⟩
theorem lw_p18 : lw_okq (⟨"BoxArchiveModel", "trayed", "(I)I"⟩, 33) := ⟨⟨by decide +kernel, by decide +kernel⟩, List.mem_of_getElem? (i := 632) (by decide +kernel), List.mem_of_getElem? (i := 758) (by decide +kernel), List.mem_of_getElem? (i := 759) (by decide +kernel)⟩
theorem lw_p19 : lw_okq (⟨"BoxArchiveModel", "refuse", "(I)I"⟩, 33) := ⟨⟨by decide +kernel, by decide +kernel⟩, List.mem_of_getElem? (i := 632) (by decide +kernel), List.mem_of_getElem? (i := 778) (by decide +kernel), List.mem_of_getElem? (i := 779) (by decide +kernel)⟩
theorem lw_p20 : lw_okq (⟨"BoxArchiveModel", "isThing", "(I)Z"⟩, 33) := ⟨⟨by decide +kernel, by decide +kernel⟩, List.mem_of_getElem? (i := 632) (by decide +kernel), List.mem_of_getElem? (i := 782) (by decide +kernel), List.mem_of_getElem? (i := 783) (by decide +kernel)⟩
theorem lw_p21 : lw_okq (⟨"BoxArchiveModel", "hasOf", "(II)I"⟩, 33) := ⟨⟨by decide +kernel, by decide +kernel⟩, List.mem_of_getElem? (i := 632) (by decide +kernel), List.mem_of_getElem? (i := 801) (by decide +kernel), List.mem_of_getElem? (i := 802) (by decide +kernel)⟩
theorem lw_p22 : lw_okq (⟨"BoxArchiveModel", "holds", "()V"⟩, 33) := ⟨⟨by decide +kernel, by decide +kernel⟩, List.mem_of_getElem? (i := 632) (by decide +kernel), List.mem_of_getElem? (i := 818) (by decide +kernel), List.mem_of_getElem? (i := 819) (by decide +kernel)⟩
theorem lw_p23 : lw_okq (⟨"BoxArchiveModel", "seesOf", "(III)Z"⟩, 33) := ⟨⟨by decide +kernel, by decide +kernel⟩, List.mem_of_getElem? (i := 632) (by decide +kernel), List.mem_of_getElem? (i := 853) (by decide +kernel), List.mem_of_getElem? (i := 854) (by decide +kernel)⟩
theorem lw_p24 : lw_okq (⟨"BoxArchiveModel", "isPart", "(II)Z"⟩, 33) := ⟨⟨by decide +kernel, by decide +kernel⟩, List.mem_of_getElem? (i := 632) (by decide +kernel), List.mem_of_getElem? (i := 861) (by decide +kernel), List.mem_of_getElem? (i := 862) (by decide +kernel)⟩
theorem lw_p25 : lw_okq (⟨"BoxArchiveModel", "isFirst", "(IIII)Z"⟩, 33) := ⟨⟨by decide +kernel, by decide +kernel⟩, List.mem_of_getElem? (i := 632) (by decide +kernel), List.mem_of_getElem? (i := 865) (by decide +kernel), List.mem_of_getElem? (i := 866) (by decide +kernel)⟩
theorem lw_p26 : lw_okq (⟨"BoxArchiveModel", "lastTick", "()I"⟩, 33) := ⟨⟨by decide +kernel, by decide +kernel⟩, List.mem_of_getElem? (i := 632) (by decide +kernel), List.mem_of_getElem? (i := 885) (by decide +kernel), List.mem_of_getElem? (i := 886) (by decide +kernel)⟩
theorem lw_p27 : lw_okq (⟨"BoxArchiveModel", "isOut", "(I)Z"⟩, 33) := ⟨⟨by decide +kernel, by decide +kernel⟩, List.mem_of_getElem? (i := 632) (by decide +kernel), List.mem_of_getElem? (i := 889) (by decide +kernel), List.mem_of_getElem? (i := 890) (by decide +kernel)⟩
theorem lw_p28 : lw_okq (⟨"BoxArchiveModel", "latest", "(II)I"⟩, 33) := ⟨⟨by decide +kernel, by decide +kernel⟩, List.mem_of_getElem? (i := 632) (by decide +kernel), List.mem_of_getElem? (i := 893) (by decide +kernel), List.mem_of_getElem? (i := 894) (by decide +kernel)⟩
theorem lw_p29 : lw_okq (⟨"BoxArchiveModel", "enter", "(III)V"⟩, 33) := ⟨⟨by decide +kernel, by decide +kernel⟩, List.mem_of_getElem? (i := 632) (by decide +kernel), List.mem_of_getElem? (i := 897) (by decide +kernel), List.mem_of_getElem? (i := 898) (by decide +kernel)⟩
theorem lw_p30 : lw_okq (⟨"BoxArchiveModel", "boxed", "(II)I"⟩, 33) := ⟨⟨by decide +kernel, by decide +kernel⟩, List.mem_of_getElem? (i := 632) (by decide +kernel), List.mem_of_getElem? (i := 913) (by decide +kernel), List.mem_of_getElem? (i := 914) (by decide +kernel)⟩
theorem lw_p31 : lw_okq (⟨"BoxArchiveModel", "plans", "()Z"⟩, 33) := ⟨⟨by decide +kernel, by decide +kernel⟩, List.mem_of_getElem? (i := 632) (by decide +kernel), List.mem_of_getElem? (i := 925) (by decide +kernel), List.mem_of_getElem? (i := 926) (by decide +kernel)⟩
def lw_privs_2 : List (MethodName × Nat) := [(⟨"BoxArchiveModel", "no", "(I)Z"⟩, 33), (⟨"BoxArchiveModel", "placed", "(II)I"⟩, 33), (⟨"BoxArchiveModel", "trayed", "(I)I"⟩, 33), (⟨"BoxArchiveModel", "refuse", "(I)I"⟩, 33), (⟨"BoxArchiveModel", "isThing", "(I)Z"⟩, 33), (⟨"BoxArchiveModel", "hasOf", "(II)I"⟩, 33), (⟨"BoxArchiveModel", "holds", "()V"⟩, 33), (⟨"BoxArchiveModel", "seesOf", "(III)Z"⟩, 33), (⟨"BoxArchiveModel", "isPart", "(II)Z"⟩, 33), (⟨"BoxArchiveModel", "isFirst", "(IIII)Z"⟩, 33), (⟨"BoxArchiveModel", "lastTick", "()I"⟩, 33), (⟨"BoxArchiveModel", "isOut", "(I)Z"⟩, 33), (⟨"BoxArchiveModel", "latest", "(II)I"⟩, 33), (⟨"BoxArchiveModel", "enter", "(III)V"⟩, 33), (⟨"BoxArchiveModel", "boxed", "(II)I"⟩, 33), (⟨"BoxArchiveModel", "plans", "()Z"⟩, 33)]
theorem lw_r2 : ∀ q ∈ lw_privs_2, lw_okq q := List.forall_mem_cons.mpr ⟨lw_p16, List.forall_mem_cons.mpr ⟨lw_p17, List.forall_mem_cons.mpr ⟨lw_p18, List.forall_mem_cons.mpr ⟨lw_p19, List.forall_mem_cons.mpr ⟨lw_p20, List.forall_mem_cons.mpr ⟨lw_p21, List.forall_mem_cons.mpr ⟨lw_p22, List.forall_mem_cons.mpr ⟨lw_p23, List.forall_mem_cons.mpr ⟨lw_p24, List.forall_mem_cons.mpr ⟨lw_p25, List.forall_mem_cons.mpr ⟨lw_p26, List.forall_mem_cons.mpr ⟨lw_p27, List.forall_mem_cons.mpr ⟨lw_p28, List.forall_mem_cons.mpr ⟨lw_p29, List.forall_mem_cons.mpr ⟨lw_p30, List.forall_mem_cons.mpr ⟨lw_p31, fun _ h => absurd h List.not_mem_nil⟩⟩⟩⟩⟩⟩⟩⟩⟩⟩⟩⟩⟩⟩⟩⟩
theorem lw_p32 : lw_okq (⟨"BoxArchiveModel", "isAway", "(I)Z"⟩, 33) := ⟨⟨by decide +kernel, by decide +kernel⟩, List.mem_of_getElem? (i := 632) (by decide +kernel), List.mem_of_getElem? (i := 929) (by decide +kernel), List.mem_of_getElem? (i := 930) (by decide +kernel)⟩
theorem lw_p33 : lw_okq (⟨"BoxArchiveModel", "take", "(II)V"⟩, 33) := ⟨⟨by decide +kernel, by decide +kernel⟩, List.mem_of_getElem? (i := 632) (by decide +kernel), List.mem_of_getElem? (i := 933) (by decide +kernel), List.mem_of_getElem? (i := 934) (by decide +kernel)⟩
theorem lw_p34 : lw_okq (⟨"BoxArchiveModel", "costOf", "(II)J"⟩, 33) := ⟨⟨by decide +kernel, by decide +kernel⟩, List.mem_of_getElem? (i := 632) (by decide +kernel), List.mem_of_getElem? (i := 950) (by decide +kernel), List.mem_of_getElem? (i := 951) (by decide +kernel)⟩
theorem lw_p35 : lw_okq (⟨"BoxArchiveModel", "weightOf", "(II)J"⟩, 33) := ⟨⟨by decide +kernel, by decide +kernel⟩, List.mem_of_getElem? (i := 632) (by decide +kernel), List.mem_of_getElem? (i := 954) (by decide +kernel), List.mem_of_getElem? (i := 955) (by decide +kernel)⟩
def lw_privs_3 : List (MethodName × Nat) := [(⟨"BoxArchiveModel", "isAway", "(I)Z"⟩, 33), (⟨"BoxArchiveModel", "take", "(II)V"⟩, 33), (⟨"BoxArchiveModel", "costOf", "(II)J"⟩, 33), (⟨"BoxArchiveModel", "weightOf", "(II)J"⟩, 33)]
theorem lw_r3 : ∀ q ∈ lw_privs_3, lw_okq q := List.forall_mem_cons.mpr ⟨lw_p32, List.forall_mem_cons.mpr ⟨lw_p33, List.forall_mem_cons.mpr ⟨lw_p34, List.forall_mem_cons.mpr ⟨lw_p35, fun _ h => absurd h List.not_mem_nil⟩⟩⟩⟩
def lw_privs : List (MethodName × Nat) := lw_privs_1 ++ (lw_privs_2 ++ (lw_privs_3))
def lw_tbl : List Cond := k2_sels lw_privs ++ tables_1
theorem lw_privs_ok : ∀ q ∈ lw_privs, lw_okq q := by
  show ∀ q ∈ lw_privs_1 ++ (lw_privs_2 ++ (lw_privs_3)), lw_okq q
  exact List.forall_mem_append.mpr ⟨lw_r1, List.forall_mem_append.mpr ⟨lw_r2, lw_r3⟩⟩

theorem goodIn_r {big : List Cond} (ws : List Cond) (ps : List Nat) (hp : ws = ps.filterMap (fun i => big[i]?)) (h : ws.all goodWord = true) : GoodIn big ws := by
  intro w hw
  have h1 := List.all_eq_true.mp h w hw
  rw [hp] at hw
  obtain ⟨i, -, hi⟩ := List.mem_filterMap.mp hw
  have hm : w ∈ big := by first | exact List.mem_of_getElem? hi | exact List.getElem?_mem hi
  exact ⟨hm, good_of_word h1⟩
theorem goodIn_app {big a b : List Cond} (ha : GoodIn big a) (hb : GoodIn big b) : GoodIn big (a ++ b) := fun w h => (List.mem_append.mp h).elim (ha w) (hb w)
def RX0 : String := "BoxArchive$Catalogue"
def TX0 : u_T := fun k => match k with
  | 0 => ("BoxArchive$Catalogue", "things", "[LBoxArchive$Thing;", true)
  | 1 => ("BoxArchive$Catalogue", "size", "I", false)
  | 2 => ("BoxArchive$Catalogue", "byMark", "[LBoxArchive$Thing;", true)
  | _ => ("BoxArchive$Catalogue", "pieceMet", "[Z", true)
def tyX0 : Nat → FieldType := fun k => match k with
  | 0 => .array (.object "BoxArchive$Thing")
  | 1 => .int
  | 2 => .array (.object "BoxArchive$Thing")
  | _ => .array .boolean
abbrev wsX00 : List Cond := u_ws RX0 TX0 4
theorem nmX0 : ∀ a, a < 4 → ∀ b, b < 4 → a ≠ b → (TX0 a).2.1 ≠ (TX0 b).2.1 := by decide +kernel
theorem tyX0_ok : ∀ k, k < 4 → parseFieldDescriptor (TX0 k).2.2.1 = some (tyX0 k) := by decide +kernel
abbrev cX0_init : ByteArray := prog_2_method_1_code
def yX0_init : MethodName := ⟨RX0, "<init>", "()V"⟩
abbrev cX0_at : ByteArray := prog_2_method_2_code
def yX0_at : MethodName := ⟨RX0, "at", "(I)LBoxArchive$Thing;"⟩
abbrev cX0_add : ByteArray := prog_2_method_3_code
def yX0_add : MethodName := ⟨RX0, "add", "(ILBoxArchive$Thing;)I"⟩
abbrev cX0_rightIn : ByteArray := prog_2_method_4_code
def yX0_rightIn : MethodName := ⟨RX0, "rightIn", "(LBoxArchive$Thing;)I"⟩
abbrev cX0_heldDay : ByteArray := prog_2_method_5_code
def yX0_heldDay : MethodName := ⟨RX0, "heldDay", "(LBoxArchive$Thing;Z)I"⟩
abbrev cX0_earlier : ByteArray := prog_2_method_6_code
def yX0_earlier : MethodName := ⟨RX0, "earlier", "(II)I"⟩
abbrev cX0_quarrelling : ByteArray := prog_2_method_7_code
def yX0_quarrelling : MethodName := ⟨RX0, "quarrelling", "(I)I"⟩
abbrev cX0_unite : ByteArray := prog_2_method_8_code
def yX0_unite : MethodName := ⟨RX0, "unite", "(II)V"⟩
abbrev cX0_partsSeen : ByteArray := prog_2_method_9_code
def yX0_partsSeen : MethodName := ⟨RX0, "partsSeen", "(LBoxArchive$Thing;III)I"⟩
abbrev cX0_piecesSeen : ByteArray := prog_2_method_10_code
def yX0_piecesSeen : MethodName := ⟨RX0, "piecesSeen", "(LBoxArchive$Thing;II)I"⟩
abbrev cX0_uncataloguedSeen : ByteArray := prog_2_method_11_code
def yX0_uncataloguedSeen : MethodName := ⟨RX0, "uncataloguedSeen", "(LBoxArchive$Thing;II)I"⟩
abbrev cX0_isPartSeen : ByteArray := prog_2_method_12_code
def yX0_isPartSeen : MethodName := ⟨RX0, "isPartSeen", "(LBoxArchive$Thing;LBoxArchive$Thing;III)Z"⟩
abbrev cX0_isMarkOfAnother : ByteArray := prog_2_method_13_code
def yX0_isMarkOfAnother : MethodName := ⟨RX0, "isMarkOfAnother", "(ILBoxArchive$Thing;)Z"⟩
abbrev cX0_lineUpByMark : ByteArray := prog_2_method_14_code
def yX0_lineUpByMark : MethodName := ⟨RX0, "lineUpByMark", "(II)I"⟩
abbrev cX0_insertByMark : ByteArray := prog_2_method_15_code
def yX0_insertByMark : MethodName := ⟨RX0, "insertByMark", "(LBoxArchive$Thing;I)V"⟩
def RX1 : String := "BoxArchive$Layout"
def TX1 : u_T := fun k => match k with
  | 0 => ("BoxArchive$Layout", "placeOf", "[I", true)
  | _ => ("BoxArchive$Layout", "boxIn", "[I", true)
def tyX1 : Nat → FieldType := fun k => match k with
  | 0 => .array .int
  | _ => .array .int
abbrev wsX10 : List Cond := u_ws RX1 TX1 2
theorem nmX1 : ∀ a, a < 2 → ∀ b, b < 2 → a ≠ b → (TX1 a).2.1 ≠ (TX1 b).2.1 := by decide +kernel
theorem tyX1_ok : ∀ k, k < 2 → parseFieldDescriptor (TX1 k).2.2.1 = some (tyX1 k) := by decide +kernel
abbrev cX1_init : ByteArray := prog_3_method_1_code
def yX1_init : MethodName := ⟨RX1, "<init>", "()V"⟩
abbrev cX1_copyFrom : ByteArray := prog_3_method_2_code
def yX1_copyFrom : MethodName := ⟨RX1, "copyFrom", "(LBoxArchive$Layout;)V"⟩
abbrev cX1_isFreeFor : ByteArray := prog_3_method_3_code
def yX1_isFreeFor : MethodName := ⟨RX1, "isFreeFor", "(II)Z"⟩
abbrev cX1_put : ByteArray := prog_3_method_4_code
def yX1_put : MethodName := ⟨RX1, "put", "(II)V"⟩
abbrev cX1_leastEmpty : ByteArray := prog_3_method_5_code
def yX1_leastEmpty : MethodName := ⟨RX1, "leastEmpty", "()I"⟩
def RX2 : String := "BoxArchive$Log"
def TX2 : u_T := fun k => match k with
  | 0 => ("BoxArchive$Log", "things", "[I", true)
  | 1 => ("BoxArchive$Log", "persons", "[I", true)
  | 2 => ("BoxArchive$Log", "ticks", "[I", true)
  | _ => ("BoxArchive$Log", "size", "I", false)
def tyX2 : Nat → FieldType := fun k => match k with
  | 0 => .array .int
  | 1 => .array .int
  | 2 => .array .int
  | _ => .int
abbrev wsX20 : List Cond := u_ws RX2 TX2 4
theorem nmX2 : ∀ a, a < 4 → ∀ b, b < 4 → a ≠ b → (TX2 a).2.1 ≠ (TX2 b).2.1 := by decide +kernel
theorem tyX2_ok : ∀ k, k < 4 → parseFieldDescriptor (TX2 k).2.2.1 = some (tyX2 k) := by decide +kernel
abbrev cX2_init : ByteArray := prog_4_method_1_code
def yX2_init : MethodName := ⟨RX2, "<init>", "()V"⟩
abbrev cX2_whyNot : ByteArray := prog_4_method_2_code
def yX2_whyNot : MethodName := ⟨RX2, "whyNot", "(I)I"⟩
abbrev cX2_append : ByteArray := prog_4_method_3_code
def yX2_append : MethodName := ⟨RX2, "append", "(III)V"⟩
abbrev cX2_holder : ByteArray := prog_4_method_4_code
def yX2_holder : MethodName := ⟨RX2, "holder", "(II)I"⟩
def RX3 : String := "BoxArchive$Search"
def TX3 : u_T := fun k => match k with
  | 0 => ("BoxArchive$Search", "order", "[I", true)
  | 1 => ("BoxArchive$Search", "weight", "[J", true)
  | 2 => ("BoxArchive$Search", "cost", "[J", true)
  | _ => ("BoxArchive$Search", "many", "I", false)
def tyX3 : Nat → FieldType := fun k => match k with
  | 0 => .array .int
  | 1 => .array .long
  | 2 => .array .long
  | _ => .int
abbrev wsX30 : List Cond := u_ws RX3 TX3 4
theorem nmX3 : ∀ a, a < 4 → ∀ b, b < 4 → a ≠ b → (TX3 a).2.1 ≠ (TX3 b).2.1 := by decide +kernel
theorem tyX3_ok : ∀ k, k < 4 → parseFieldDescriptor (TX3 k).2.2.1 = some (tyX3 k) := by decide +kernel
abbrev cX3_init : ByteArray := prog_5_method_1_code
def yX3_init : MethodName := ⟨RX3, "<init>", "()V"⟩
abbrev cX3_takes : ByteArray := prog_5_method_2_code
def yX3_takes : MethodName := ⟨RX3, "takes", "([JI)Z"⟩
abbrev cX3_isFit : ByteArray := prog_5_method_3_code
def yX3_isFit : MethodName := ⟨RX3, "isFit", "(J)Z"⟩
abbrev cX3_arrange : ByteArray := prog_5_method_4_code
def yX3_arrange : MethodName := ⟨RX3, "arrange", "()V"⟩
abbrev cX3_isCheaper : ByteArray := prog_5_method_5_code
def yX3_isCheaper : MethodName := ⟨RX3, "isCheaper", "(II)Z"⟩
abbrev cX3_weightedCosts : ByteArray := prog_5_method_6_code
def yX3_weightedCosts : MethodName := ⟨RX3, "weightedCosts", "()J"⟩
abbrev cX3_weights : ByteArray := prog_5_method_7_code
def yX3_weights : MethodName := ⟨RX3, "weights", "()J"⟩
def RX4 : String := "BoxArchive$Shelves"
def TX4 : u_T := fun k => match k with
  | 0 => ("BoxArchive$Shelves", "now", "LBoxArchive$Layout;", true)
  | 1 => ("BoxArchive$Shelves", "later", "LBoxArchive$Layout;", true)
  | 2 => ("BoxArchive$Shelves", "goalOf", "[I", true)
  | 3 => ("BoxArchive$Shelves", "carryBox", "[I", true)
  | 4 => ("BoxArchive$Shelves", "carryFrom", "[I", true)
  | 5 => ("BoxArchive$Shelves", "carryTo", "[I", true)
  | _ => ("BoxArchive$Shelves", "carries", "I", false)
def tyX4 : Nat → FieldType := fun k => match k with
  | 0 => .object "BoxArchive$Layout"
  | 1 => .object "BoxArchive$Layout"
  | 2 => .array .int
  | 3 => .array .int
  | 4 => .array .int
  | 5 => .array .int
  | _ => .int
abbrev wsX40 : List Cond := u_ws RX4 TX4 7
theorem nmX4 : ∀ a, a < 7 → ∀ b, b < 7 → a ≠ b → (TX4 a).2.1 ≠ (TX4 b).2.1 := by decide +kernel
theorem tyX4_ok : ∀ k, k < 7 → parseFieldDescriptor (TX4 k).2.2.1 = some (tyX4 k) := by decide +kernel
abbrev cX4_init : ByteArray := prog_6_method_1_code
def yX4_init : MethodName := ⟨RX4, "<init>", "()V"⟩
abbrev cX4_isGoalOfAnother : ByteArray := prog_6_method_2_code
def yX4_isGoalOfAnother : MethodName := ⟨RX4, "isGoalOfAnother", "(II)Z"⟩
abbrev cX4_makePlan : ByteArray := prog_6_method_3_code
def yX4_makePlan : MethodName := ⟨RX4, "makePlan", "()Z"⟩
abbrev cX4_isGoalBlocked : ByteArray := prog_6_method_4_code
def yX4_isGoalBlocked : MethodName := ⟨RX4, "isGoalBlocked", "()Z"⟩
abbrev cX4_nextBox : ByteArray := prog_6_method_5_code
def yX4_nextBox : MethodName := ⟨RX4, "nextBox", "()I"⟩
abbrev cX4_isAstray : ByteArray := prog_6_method_6_code
def yX4_isAstray : MethodName := ⟨RX4, "isAstray", "(I)Z"⟩
abbrev cX4_isGoalEmpty : ByteArray := prog_6_method_7_code
def yX4_isGoalEmpty : MethodName := ⟨RX4, "isGoalEmpty", "(I)Z"⟩
abbrev cX4_addCarry : ByteArray := prog_6_method_8_code
def yX4_addCarry : MethodName := ⟨RX4, "addCarry", "(II)V"⟩
def RX5 : String := "BoxArchive$Thing"
def TX5 : u_T := fun k => match k with
  | 0 => ("BoxArchive$Thing", "number", "I", true)
  | 1 => ("BoxArchive$Thing", "level", "I", true)
  | 2 => ("BoxArchive$Thing", "above", "LBoxArchive$Thing;", true)
  | 3 => ("BoxArchive$Thing", "said", "[I", true)
  | 4 => ("BoxArchive$Thing", "from", "I", false)
  | 5 => ("BoxArchive$Thing", "to", "I", false)
  | 6 => ("BoxArchive$Thing", "uncatalogued", "I", false)
  | 7 => ("BoxArchive$Thing", "closedUntil", "I", false)
  | 8 => ("BoxArchive$Thing", "closedBut", "I", false)
  | 9 => ("BoxArchive$Thing", "oldMark", "I", false)
  | _ => ("BoxArchive$Thing", "piece", "I", false)
def tyX5 : Nat → FieldType := fun k => match k with
  | 0 => .int
  | 1 => .int
  | 2 => .object "BoxArchive$Thing"
  | 3 => .array .int
  | 4 => .int
  | 5 => .int
  | 6 => .int
  | 7 => .int
  | 8 => .int
  | 9 => .int
  | _ => .int
abbrev wsX50 : List Cond := u_ws RX5 TX5 11
theorem nmX5 : ∀ a, a < 11 → ∀ b, b < 11 → a ≠ b → (TX5 a).2.1 ≠ (TX5 b).2.1 := by decide +kernel
theorem tyX5_ok : ∀ k, k < 11 → parseFieldDescriptor (TX5 k).2.2.1 = some (tyX5 k) := by decide +kernel
abbrev cX5_init : ByteArray := prog_7_method_1_code
def yX5_init : MethodName := ⟨RX5, "<init>", "(IILBoxArchive$Thing;)V"⟩
abbrev cX5_isPartOf : ByteArray := prog_7_method_2_code
def yX5_isPartOf : MethodName := ⟨RX5, "isPartOf", "(LBoxArchive$Thing;)Z"⟩
abbrev cX5_saidInLine : ByteArray := prog_7_method_3_code
def yX5_saidInLine : MethodName := ⟨RX5, "saidInLine", "(I)I"⟩
abbrev cX5_hasSpan : ByteArray := prog_7_method_4_code
def yX5_hasSpan : MethodName := ⟨RX5, "hasSpan", "()Z"⟩
abbrev cX5_showsSpanTo : ByteArray := prog_7_method_5_code
def yX5_showsSpanTo : MethodName := ⟨RX5, "showsSpanTo", "(LBoxArchive$Thing;)Z"⟩
abbrev cX5_hasQuarrel : ByteArray := prog_7_method_6_code
def yX5_hasQuarrel : MethodName := ⟨RX5, "hasQuarrel", "()Z"⟩
abbrev cX5_isSeen : ByteArray := prog_7_method_7_code
def yX5_isSeen : MethodName := ⟨RX5, "isSeen", "(II)Z"⟩
abbrev cX5_isClosedTo : ByteArray := prog_7_method_8_code
def yX5_isClosedTo : MethodName := ⟨RX5, "isClosedTo", "(II)Z"⟩
def RX6 : String := "BoxArchive$Tray"
def TX6 : u_T := fun k => match k with
  | 0 => ("BoxArchive$Tray", "numbers", "[J", true)
  | 1 => ("BoxArchive$Tray", "sort", "I", false)
  | _ => ("BoxArchive$Tray", "length", "I", false)
def tyX6 : Nat → FieldType := fun k => match k with
  | 0 => .array .long
  | 1 => .int
  | _ => .int
abbrev wsX60 : List Cond := u_ws RX6 TX6 3
theorem nmX6 : ∀ a, a < 3 → ∀ b, b < 3 → a ≠ b → (TX6 a).2.1 ≠ (TX6 b).2.1 := by decide +kernel
theorem tyX6_ok : ∀ k, k < 3 → parseFieldDescriptor (TX6 k).2.2.1 = some (tyX6 k) := by decide +kernel
abbrev cX6_init : ByteArray := prog_8_method_1_code
def yX6_init : MethodName := ⟨RX6, "<init>", "()V"⟩
abbrev cX6_isMissing : ByteArray := prog_8_method_2_code
def yX6_isMissing : MethodName := ⟨RX6, "isMissing", "()Z"⟩
abbrev cX6_renew : ByteArray := prog_8_method_3_code
def yX6_renew : MethodName := ⟨RX6, "renew", "(II)V"⟩
abbrev cX6_hasPlace : ByteArray := prog_8_method_4_code
def yX6_hasPlace : MethodName := ⟨RX6, "hasPlace", "(I)Z"⟩
abbrev cX6_hasRun : ByteArray := prog_8_method_5_code
def yX6_hasRun : MethodName := ⟨RX6, "hasRun", "(II)Z"⟩
abbrev cX6_put : ByteArray := prog_8_method_6_code
def yX6_put : MethodName := ⟨RX6, "put", "(IJ)V"⟩
abbrev cX6_cut : ByteArray := prog_8_method_7_code
def yX6_cut : MethodName := ⟨RX6, "cut", "(J)J"⟩
def RX7 : String := "BoxArchive"
def TX7 : u_T := fun k => match k with
  | 0 => ("BoxArchive", "trays", "[LBoxArchive$Tray;", true)
  | 1 => ("BoxArchive", "catalogue", "LBoxArchive$Catalogue;", true)
  | 2 => ("BoxArchive", "log", "LBoxArchive$Log;", true)
  | 3 => ("BoxArchive", "shelves", "LBoxArchive$Shelves;", true)
  | 4 => ("BoxArchive", "best", "LBoxArchive$Search;", true)
  | 5 => ("BoxArchive", "latestStatus", "I", false)
  | 6 => ("BoxArchive", "fractionUpper", "J", false)
  | _ => ("BoxArchive", "fractionLower", "J", false)
def tyX7 : Nat → FieldType := fun k => match k with
  | 0 => .array (.object "BoxArchive$Tray")
  | 1 => .object "BoxArchive$Catalogue"
  | 2 => .object "BoxArchive$Log"
  | 3 => .object "BoxArchive$Shelves"
  | 4 => .object "BoxArchive$Search"
  | 5 => .int
  | 6 => .long
  | _ => .long
abbrev wsX70 : List Cond := u_ws RX7 TX7 8
theorem nmX7 : ∀ a, a < 8 → ∀ b, b < 8 → a ≠ b → (TX7 a).2.1 ≠ (TX7 b).2.1 := by decide +kernel
theorem tyX7_ok : ∀ k, k < 8 → parseFieldDescriptor (TX7 k).2.2.1 = some (tyX7 k) := by decide +kernel
abbrev cX7_init : ByteArray := prog_1_method_1_code
def yX7_init : MethodName := ⟨RX7, "<init>", "()V"⟩
abbrev cX7_status : ByteArray := prog_1_method_2_code
def yX7_status : MethodName := ⟨RX7, "status", "()I"⟩
abbrev cX7_tray : ByteArray := prog_1_method_3_code
def yX7_tray : MethodName := ⟨RX7, "tray", "(III)Z"⟩
abbrev cX7_write : ByteArray := prog_1_method_4_code
def yX7_write : MethodName := ⟨RX7, "write", "(IIJ)Z"⟩
abbrev cX7_read : ByteArray := prog_1_method_5_code
def yX7_read : MethodName := ⟨RX7, "read", "(II)J"⟩
abbrev cX7_pour : ByteArray := prog_1_method_6_code
def yX7_pour : MethodName := ⟨RX7, "pour", "(IIIII)Z"⟩
abbrev cX7_thing : ByteArray := prog_1_method_7_code
def yX7_thing : MethodName := ⟨RX7, "thing", "(II)I"⟩
abbrev cX7_told : ByteArray := prog_1_method_8_code
def yX7_told : MethodName := ⟨RX7, "told", "(II)I"⟩
abbrev cX7_say : ByteArray := prog_1_method_9_code
def yX7_say : MethodName := ⟨RX7, "say", "(III)Z"⟩
abbrev cX7_has : ByteArray := prog_1_method_10_code
def yX7_has : MethodName := ⟨RX7, "has", "(II)I"⟩
abbrev cX7_span : ByteArray := prog_1_method_11_code
def yX7_span : MethodName := ⟨RX7, "span", "(III)Z"⟩
abbrev cX7_noSpan : ByteArray := prog_1_method_12_code
def yX7_noSpan : MethodName := ⟨RX7, "noSpan", "(I)Z"⟩
abbrev cX7_held : ByteArray := prog_1_method_13_code
def yX7_held : MethodName := ⟨RX7, "held", "(IZ)I"⟩
abbrev cX7_quarrel : ByteArray := prog_1_method_14_code
def yX7_quarrel : MethodName := ⟨RX7, "quarrel", "(I)I"⟩
abbrev cX7_count : ByteArray := prog_1_method_15_code
def yX7_count : MethodName := ⟨RX7, "count", "(II)Z"⟩
abbrev cX7_join : ByteArray := prog_1_method_16_code
def yX7_join : MethodName := ⟨RX7, "join", "(II)Z"⟩
abbrev cX7_close : ByteArray := prog_1_method_17_code
def yX7_close : MethodName := ⟨RX7, "close", "(III)Z"⟩
abbrev cX7_sees : ByteArray := prog_1_method_18_code
def yX7_sees : MethodName := ⟨RX7, "sees", "(III)I"⟩
abbrev cX7_number : ByteArray := prog_1_method_19_code
def yX7_number : MethodName := ⟨RX7, "number", "(IIII)I"⟩
abbrev cX7_find : ByteArray := prog_1_method_20_code
def yX7_find : MethodName := ⟨RX7, "find", "(IIIII)I"⟩
abbrev cX7_mark : ByteArray := prog_1_method_21_code
def yX7_mark : MethodName := ⟨RX7, "mark", "(II)Z"⟩
abbrev cX7_walk : ByteArray := prog_1_method_22_code
def yX7_walk : MethodName := ⟨RX7, "walk", "(III)I"⟩
abbrev cX7_fetch : ByteArray := prog_1_method_23_code
def yX7_fetch : MethodName := ⟨RX7, "fetch", "(III)Z"⟩
abbrev cX7_back : ByteArray := prog_1_method_24_code
def yX7_back : MethodName := ⟨RX7, "back", "(II)Z"⟩
abbrev cX7_where : ByteArray := prog_1_method_25_code
def yX7_where : MethodName := ⟨RX7, "where", "(II)I"⟩
abbrev cX7_stand : ByteArray := prog_1_method_26_code
def yX7_stand : MethodName := ⟨RX7, "stand", "(II)Z"⟩
abbrev cX7_goal : ByteArray := prog_1_method_27_code
def yX7_goal : MethodName := ⟨RX7, "goal", "(II)Z"⟩
abbrev cX7_plan : ByteArray := prog_1_method_28_code
def yX7_plan : MethodName := ⟨RX7, "plan", "()I"⟩
abbrev cX7_carry : ByteArray := prog_1_method_29_code
def yX7_carry : MethodName := ⟨RX7, "carry", "(II)I"⟩
abbrev cX7_carried : ByteArray := prog_1_method_30_code
def yX7_carried : MethodName := ⟨RX7, "carried", "()Z"⟩
abbrev cX7_search : ByteArray := prog_1_method_31_code
def yX7_search : MethodName := ⟨RX7, "search", "(III)I"⟩
abbrev cX7_upper : ByteArray := prog_1_method_32_code
def yX7_upper : MethodName := ⟨RX7, "upper", "()J"⟩
abbrev cX7_lower : ByteArray := prog_1_method_33_code
def yX7_lower : MethodName := ⟨RX7, "lower", "()J"⟩
abbrev cX7_refuse : ByteArray := prog_1_method_34_code
def yX7_refuse : MethodName := ⟨RX7, "refuse", "(I)I"⟩
abbrev cX7_deny : ByteArray := prog_1_method_35_code
def yX7_deny : MethodName := ⟨RX7, "deny", "(I)Z"⟩
abbrev cX7_answer : ByteArray := prog_1_method_36_code
def yX7_answer : MethodName := ⟨RX7, "answer", "(I)I"⟩
abbrev cX7_grant : ByteArray := prog_1_method_37_code
def yX7_grant : MethodName := ⟨RX7, "grant", "()Z"⟩
abbrev cX7_trayAt : ByteArray := prog_1_method_38_code
def yX7_trayAt : MethodName := ⟨RX7, "trayAt", "(I)LBoxArchive$Tray;"⟩
abbrev cX7_whyNotIn : ByteArray := prog_1_method_39_code
def yX7_whyNotIn : MethodName := ⟨RX7, "whyNotIn", "(LBoxArchive$Tray;I)I"⟩
abbrev cX7_whyNotOnShelf : ByteArray := prog_1_method_40_code
def yX7_whyNotOnShelf : MethodName := ⟨RX7, "whyNotOnShelf", "(II)I"⟩
abbrev cX7_keepFraction : ByteArray := prog_1_method_41_code
def yX7_keepFraction : MethodName := ⟨RX7, "keepFraction", "(JJ)V"⟩
abbrev cX7_commonDivisor : ByteArray := prog_1_method_42_code
def yX7_commonDivisor : MethodName := ⟨RX7, "commonDivisor", "(JJ)J"⟩
abbrev cX7_mayBeIn : ByteArray := prog_1_method_43_code
def yX7_mayBeIn : MethodName := ⟨RX7, "mayBeIn", "(II)Z"⟩
abbrev cX7_isField : ByteArray := prog_1_method_44_code
def yX7_isField : MethodName := ⟨RX7, "isField", "(I)Z"⟩
abbrev cX7_isPerson : ByteArray := prog_1_method_45_code
def yX7_isPerson : MethodName := ⟨RX7, "isPerson", "(I)Z"⟩
abbrev cX7_isDay : ByteArray := prog_1_method_46_code
def yX7_isDay : MethodName := ⟨RX7, "isDay", "(I)Z"⟩
abbrev cX7_within : ByteArray := prog_1_method_47_code
def yX7_within : MethodName := ⟨RX7, "within", "(III)Z"⟩
def RX8 : String := "BoxArchiveModel"
def TX8 : u_T := fun k => match k with
  | 0 => ("BoxArchiveModel", "status", "I", false)
  | 1 => ("BoxArchiveModel", "thrown", "I", false)
  | 2 => ("BoxArchiveModel", "above", "J", false)
  | 3 => ("BoxArchiveModel", "under", "J", false)
  | 4 => ("BoxArchiveModel", "traySort", "[I", true)
  | 5 => ("BoxArchiveModel", "trayMany", "[I", true)
  | 6 => ("BoxArchiveModel", "numbers", "[J", true)
  | 7 => ("BoxArchiveModel", "things", "I", false)
  | 8 => ("BoxArchiveModel", "level", "[I", true)
  | 9 => ("BoxArchiveModel", "up", "[I", true)
  | 10 => ("BoxArchiveModel", "counts", "[I", true)
  | 11 => ("BoxArchiveModel", "piece", "[I", true)
  | 12 => ("BoxArchiveModel", "said", "[I", true)
  | 13 => ("BoxArchiveModel", "spanFrom", "[I", true)
  | 14 => ("BoxArchiveModel", "spanTo", "[I", true)
  | 15 => ("BoxArchiveModel", "closed", "[I", true)
  | 16 => ("BoxArchiveModel", "but", "[I", true)
  | 17 => ("BoxArchiveModel", "mark", "[I", true)
  | 18 => ("BoxArchiveModel", "place", "[I", true)
  | 19 => ("BoxArchiveModel", "goal", "[I", true)
  | 20 => ("BoxArchiveModel", "heldFrom", "[I", true)
  | 21 => ("BoxArchiveModel", "heldTo", "[I", true)
  | 22 => ("BoxArchiveModel", "entries", "I", false)
  | 23 => ("BoxArchiveModel", "entryThing", "[I", true)
  | 24 => ("BoxArchiveModel", "entryPerson", "[I", true)
  | 25 => ("BoxArchiveModel", "entryTick", "[I", true)
  | 26 => ("BoxArchiveModel", "at", "[I", true)
  | 27 => ("BoxArchiveModel", "stands", "[I", true)
  | 28 => ("BoxArchiveModel", "carryBox", "[I", true)
  | 29 => ("BoxArchiveModel", "carryFrom", "[I", true)
  | 30 => ("BoxArchiveModel", "carryTo", "[I", true)
  | 31 => ("BoxArchiveModel", "carries", "I", false)
  | _ => ("BoxArchiveModel", "order", "[I", true)
def tyX8 : Nat → FieldType := fun k => match k with
  | 0 => .int
  | 1 => .int
  | 2 => .long
  | 3 => .long
  | 4 => .array .int
  | 5 => .array .int
  | 6 => .array .long
  | 7 => .int
  | 8 => .array .int
  | 9 => .array .int
  | 10 => .array .int
  | 11 => .array .int
  | 12 => .array .int
  | 13 => .array .int
  | 14 => .array .int
  | 15 => .array .int
  | 16 => .array .int
  | 17 => .array .int
  | 18 => .array .int
  | 19 => .array .int
  | 20 => .array .int
  | 21 => .array .int
  | 22 => .int
  | 23 => .array .int
  | 24 => .array .int
  | 25 => .array .int
  | 26 => .array .int
  | 27 => .array .int
  | 28 => .array .int
  | 29 => .array .int
  | 30 => .array .int
  | 31 => .int
  | _ => .array .int
abbrev wsX80 : List Cond := u_ws RX8 TX8 33
theorem nmX8 : ∀ a, a < 33 → ∀ b, b < 33 → a ≠ b → (TX8 a).2.1 ≠ (TX8 b).2.1 := by decide +kernel
theorem tyX8_ok : ∀ k, k < 33 → parseFieldDescriptor (TX8 k).2.2.1 = some (tyX8 k) := by decide +kernel
abbrev cX8_init : ByteArray := prog_10_method_1_code
def yX8_init : MethodName := ⟨RX8, "<init>", "()V"⟩
abbrev cX8_status : ByteArray := prog_10_method_3_code
def yX8_status : MethodName := ⟨RX8, "status", "()I"⟩
abbrev cX8_refuse : ByteArray := prog_10_method_4_code
def yX8_refuse : MethodName := ⟨RX8, "refuse", "(I)I"⟩
abbrev cX8_no : ByteArray := prog_10_method_5_code
def yX8_no : MethodName := ⟨RX8, "no", "(I)Z"⟩
abbrev cX8_cut : ByteArray := prog_10_method_6_code
def yX8_cut : MethodName := ⟨RX8, "cut", "(IJ)J"⟩
abbrev cX8_tray : ByteArray := prog_10_method_7_code
def yX8_tray : MethodName := ⟨RX8, "tray", "(III)Z"⟩
abbrev cX8_trayed : ByteArray := prog_10_method_8_code
def yX8_trayed : MethodName := ⟨RX8, "trayed", "(I)I"⟩
abbrev cX8_placed : ByteArray := prog_10_method_9_code
def yX8_placed : MethodName := ⟨RX8, "placed", "(II)I"⟩
abbrev cX8_write : ByteArray := prog_10_method_10_code
def yX8_write : MethodName := ⟨RX8, "write", "(IIJ)Z"⟩
abbrev cX8_read : ByteArray := prog_10_method_11_code
def yX8_read : MethodName := ⟨RX8, "read", "(II)J"⟩
abbrev cX8_pour : ByteArray := prog_10_method_12_code
def yX8_pour : MethodName := ⟨RX8, "pour", "(IIIII)Z"⟩
abbrev cX8_isThing : ByteArray := prog_10_method_13_code
def yX8_isThing : MethodName := ⟨RX8, "isThing", "(I)Z"⟩
abbrev cX8_thing : ByteArray := prog_10_method_14_code
def yX8_thing : MethodName := ⟨RX8, "thing", "(II)I"⟩
abbrev cX8_told : ByteArray := prog_10_method_15_code
def yX8_told : MethodName := ⟨RX8, "told", "(II)I"⟩
abbrev cX8_isField : ByteArray := prog_10_method_16_code
def yX8_isField : MethodName := ⟨RX8, "isField", "(I)Z"⟩
abbrev cX8_say : ByteArray := prog_10_method_17_code
def yX8_say : MethodName := ⟨RX8, "say", "(III)Z"⟩
abbrev cX8_hasOf : ByteArray := prog_10_method_18_code
def yX8_hasOf : MethodName := ⟨RX8, "hasOf", "(II)I"⟩
abbrev cX8_has : ByteArray := prog_10_method_19_code
def yX8_has : MethodName := ⟨RX8, "has", "(II)I"⟩
abbrev cX8_span : ByteArray := prog_10_method_20_code
def yX8_span : MethodName := ⟨RX8, "span", "(III)Z"⟩
abbrev cX8_noSpan : ByteArray := prog_10_method_21_code
def yX8_noSpan : MethodName := ⟨RX8, "noSpan", "(I)Z"⟩
abbrev cX8_holds : ByteArray := prog_10_method_22_code
def yX8_holds : MethodName := ⟨RX8, "holds", "()V"⟩
abbrev cX8_held : ByteArray := prog_10_method_23_code
def yX8_held : MethodName := ⟨RX8, "held", "(IZ)I"⟩
abbrev cX8_quarrel : ByteArray := prog_10_method_24_code
def yX8_quarrel : MethodName := ⟨RX8, "quarrel", "(I)I"⟩
abbrev cX8_count : ByteArray := prog_10_method_25_code
def yX8_count : MethodName := ⟨RX8, "count", "(II)Z"⟩
abbrev cX8_join : ByteArray := prog_10_method_26_code
def yX8_join : MethodName := ⟨RX8, "join", "(II)Z"⟩
abbrev cX8_isPerson : ByteArray := prog_10_method_27_code
def yX8_isPerson : MethodName := ⟨RX8, "isPerson", "(I)Z"⟩
abbrev cX8_isDay : ByteArray := prog_10_method_28_code
def yX8_isDay : MethodName := ⟨RX8, "isDay", "(I)Z"⟩
abbrev cX8_close : ByteArray := prog_10_method_29_code
def yX8_close : MethodName := ⟨RX8, "close", "(III)Z"⟩
abbrev cX8_seesOf : ByteArray := prog_10_method_30_code
def yX8_seesOf : MethodName := ⟨RX8, "seesOf", "(III)Z"⟩
abbrev cX8_sees : ByteArray := prog_10_method_31_code
def yX8_sees : MethodName := ⟨RX8, "sees", "(III)I"⟩
abbrev cX8_isPart : ByteArray := prog_10_method_32_code
def yX8_isPart : MethodName := ⟨RX8, "isPart", "(II)Z"⟩
abbrev cX8_number : ByteArray := prog_10_method_33_code
def yX8_number : MethodName := ⟨RX8, "number", "(IIII)I"⟩
abbrev cX8_isFirst : ByteArray := prog_10_method_34_code
def yX8_isFirst : MethodName := ⟨RX8, "isFirst", "(IIII)Z"⟩
abbrev cX8_find : ByteArray := prog_10_method_35_code
def yX8_find : MethodName := ⟨RX8, "find", "(IIIII)I"⟩
abbrev cX8_mark : ByteArray := prog_10_method_36_code
def yX8_mark : MethodName := ⟨RX8, "mark", "(II)Z"⟩
abbrev cX8_walk : ByteArray := prog_10_method_37_code
def yX8_walk : MethodName := ⟨RX8, "walk", "(III)I"⟩
abbrev cX8_lastTick : ByteArray := prog_10_method_38_code
def yX8_lastTick : MethodName := ⟨RX8, "lastTick", "()I"⟩
abbrev cX8_latest : ByteArray := prog_10_method_39_code
def yX8_latest : MethodName := ⟨RX8, "latest", "(II)I"⟩
abbrev cX8_isOut : ByteArray := prog_10_method_40_code
def yX8_isOut : MethodName := ⟨RX8, "isOut", "(I)Z"⟩
abbrev cX8_enter : ByteArray := prog_10_method_41_code
def yX8_enter : MethodName := ⟨RX8, "enter", "(III)V"⟩
abbrev cX8_fetch : ByteArray := prog_10_method_42_code
def yX8_fetch : MethodName := ⟨RX8, "fetch", "(III)Z"⟩
abbrev cX8_back : ByteArray := prog_10_method_43_code
def yX8_back : MethodName := ⟨RX8, "back", "(II)Z"⟩
abbrev cX8_where : ByteArray := prog_10_method_44_code
def yX8_where : MethodName := ⟨RX8, "where", "(II)I"⟩
abbrev cX8_boxed : ByteArray := prog_10_method_45_code
def yX8_boxed : MethodName := ⟨RX8, "boxed", "(II)I"⟩
abbrev cX8_stand : ByteArray := prog_10_method_46_code
def yX8_stand : MethodName := ⟨RX8, "stand", "(II)Z"⟩
abbrev cX8_goal : ByteArray := prog_10_method_47_code
def yX8_goal : MethodName := ⟨RX8, "goal", "(II)Z"⟩
abbrev cX8_isAway : ByteArray := prog_10_method_48_code
def yX8_isAway : MethodName := ⟨RX8, "isAway", "(I)Z"⟩
abbrev cX8_take : ByteArray := prog_10_method_49_code
def yX8_take : MethodName := ⟨RX8, "take", "(II)V"⟩
abbrev cX8_plans : ByteArray := prog_10_method_50_code
def yX8_plans : MethodName := ⟨RX8, "plans", "()Z"⟩
abbrev cX8_plan : ByteArray := prog_10_method_51_code
def yX8_plan : MethodName := ⟨RX8, "plan", "()I"⟩
abbrev cX8_carry : ByteArray := prog_10_method_52_code
def yX8_carry : MethodName := ⟨RX8, "carry", "(II)I"⟩
abbrev cX8_carried : ByteArray := prog_10_method_53_code
def yX8_carried : MethodName := ⟨RX8, "carried", "()Z"⟩
abbrev cX8_weightOf : ByteArray := prog_10_method_54_code
def yX8_weightOf : MethodName := ⟨RX8, "weightOf", "(II)J"⟩
abbrev cX8_costOf : ByteArray := prog_10_method_55_code
def yX8_costOf : MethodName := ⟨RX8, "costOf", "(II)J"⟩
abbrev cX8_search : ByteArray := prog_10_method_56_code
def yX8_search : MethodName := ⟨RX8, "search", "(III)I"⟩
abbrev cX8_upper : ByteArray := prog_10_method_57_code
def yX8_upper : MethodName := ⟨RX8, "upper", "()J"⟩
abbrev cX8_lower : ByteArray := prog_10_method_58_code
def yX8_lower : MethodName := ⟨RX8, "lower", "()J"⟩
def RJ9 : String := "java/lang/Math"
def TJ9 : u_T := fun k => match k with
  | _ => ("", "", "", false)
def tyJ9 : Nat → FieldType := fun k => match k with
  | _ => .int
abbrev wsJ90 : List Cond := u_ws RJ9 TJ9 0
theorem nmJ9 : ∀ a, a < 0 → ∀ b, b < 0 → a ≠ b → (TJ9 a).2.1 ≠ (TJ9 b).2.1 := by decide +kernel
theorem tyJ9_ok : ∀ k, k < 0 → parseFieldDescriptor (TJ9 k).2.2.1 = some (tyJ9 k) := by decide +kernel
abbrev cJ9_max_7cf53 : ByteArray := prog_11_method_65_code
def yJ9_max_7cf53 : MethodName := ⟨RJ9, "max", "(II)I"⟩
abbrev cJ9_min_7cf53 : ByteArray := prog_11_method_69_code
def yJ9_min_7cf53 : MethodName := ⟨RJ9, "min", "(II)I"⟩
def RJ10 : String := "java/lang/System"
def TJ10 : u_T := fun k => match k with
  | _ => ("", "", "", false)
def tyJ10 : Nat → FieldType := fun k => match k with
  | _ => .int
abbrev wsJ100 : List Cond := u_ws RJ10 TJ10 0
theorem nmJ10 : ∀ a, a < 0 → ∀ b, b < 0 → a ≠ b → (TJ10 a).2.1 ≠ (TJ10 b).2.1 := by decide +kernel
theorem tyJ10_ok : ∀ k, k < 0 → parseFieldDescriptor (TJ10 k).2.2.1 = some (tyJ10 k) := by decide +kernel
def RJ7 : String := "java/util/Arrays"
def TJ7 : u_T := fun k => match k with
  | _ => ("", "", "", false)
def tyJ7 : Nat → FieldType := fun k => match k with
  | _ => .int
abbrev wsJ70 : List Cond := u_ws RJ7 TJ7 0
theorem nmJ7 : ∀ a, a < 0 → ∀ b, b < 0 → a ≠ b → (TJ7 a).2.1 ≠ (TJ7 b).2.1 := by decide +kernel
theorem tyJ7_ok : ∀ k, k < 0 → parseFieldDescriptor (TJ7 k).2.2.1 = some (tyJ7 k) := by decide +kernel
abbrev cJ7_fill_d0a16 : ByteArray := prog_13_method_101_code
def yJ7_fill_d0a16 : MethodName := ⟨RJ7, "fill", "([JJ)V"⟩
abbrev cJ7_fill_53178 : ByteArray := prog_13_method_103_code
def yJ7_fill_53178 : MethodName := ⟨RJ7, "fill", "([II)V"⟩
def RL : String := "BoxArchiveLaw"
abbrev cL_law : ByteArray := code
def yL_law : MethodName := ⟨RL, "law", "([I)Z"⟩
abbrev vwCl : List vw_C := [(RX0, TX0, 4), (RX1, TX1, 2), (RX2, TX2, 4), (RX3, TX3, 4), (RX4, TX4, 7), (RX5, TX5, 11), (RX6, TX6, 3), (RX7, TX7, 8), (RX8, TX8, 33)]
def uw : List Cond := lw_tbl.filter goodWord
theorem uw_in (i : Nat) {w : Cond} (h : (decide (lw_tbl[i]? = some w) && goodWord w) = true) : w ∈ uw := by
  simp only [Bool.and_eq_true, decide_eq_true_eq] at h
  exact List.mem_filter.mpr ⟨List.mem_of_getElem? h.1, h.2⟩
theorem uw_ins {ws : List Cond} (ps : List Nat) (hp : ws = ps.filterMap (fun i => lw_tbl[i]?)) (h : ws.all goodWord = true) : ∀ w ∈ ws, w ∈ uw := by
  intro w hw
  have h1 := List.all_eq_true.mp h w hw
  rw [hp] at hw
  obtain ⟨i, -, hi⟩ := List.mem_filterMap.mp hw
  exact List.mem_filter.mpr ⟨List.mem_of_getElem? hi, h1⟩
theorem uw_good : ∀ w ∈ uw, (w.onTables && w.keeps) = true ∨ ∃ ty, w = .arrayClass ty := fun w h => good_of_word (List.mem_filter.mp h).2
theorem uw_tbl {args : Array Value} {s : State} (h : ∀ w ∈ lw_tbl, w.before args s = true) : ∀ w ∈ uw, w.before args s = true := fun w hw => h w (List.mem_filter.mp hw).1
theorem uw_of {y : MethodName} {b : ByteArray} {n : Nat} {r : Option FieldType} (hc : Cond.code y b n r ∈ uw) : GoodIn uw (Cond.code y b n r :: uw) := by
  intro w hw
  rcases List.mem_cons.mp hw with rfl | h
  · exact ⟨hc, uw_good _ hc⟩
  · exact ⟨h, uw_good _ h⟩

