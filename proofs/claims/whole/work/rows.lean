section
-- ===== PART A: goes FIRST, ahead of the names: the tables' words, and 'selects' of the private methods out of them =====
/-- a private method of a class that the tables say can be made, by its rows of tables_1 -/
def lw_okq (q : MethodName × Nat) : Prop := (q.1.cls ≠ "java/lang/invoke/MethodHandle" ∧ q.1.cls ≠ "java/lang/invoke/VarHandle") ∧ Cond.instantiable q.1.cls q.2 ∈ tables_1 ∧ Cond.privateMethod q.1 ∈ tables_1 ∧ Cond.instanceMethod q.1 ∈ tables_1
theorem lw_p0 : lw_okq (⟨"BoxArchive", "trayAt", "(I)LBoxArchive$Tray;"⟩, 8) := ⟨⟨by decide +kernel, by decide +kernel⟩, List.mem_of_getElem? (i := 14) (by decide +kernel), List.mem_of_getElem? (i := 195) (by decide +kernel), List.mem_of_getElem? (i := 196) (by decide +kernel)⟩
theorem lw_p1 : lw_okq (⟨"BoxArchive", "deny", "(I)Z"⟩, 8) := ⟨⟨by decide +kernel, by decide +kernel⟩, List.mem_of_getElem? (i := 14) (by decide +kernel), List.mem_of_getElem? (i := 202) (by decide +kernel), List.mem_of_getElem? (i := 203) (by decide +kernel)⟩
theorem lw_p2 : lw_okq (⟨"BoxArchive", "grant", "()Z"⟩, 8) := ⟨⟨by decide +kernel, by decide +kernel⟩, List.mem_of_getElem? (i := 14) (by decide +kernel), List.mem_of_getElem? (i := 213) (by decide +kernel), List.mem_of_getElem? (i := 214) (by decide +kernel)⟩
theorem lw_p3 : lw_okq (⟨"BoxArchive$Tray", "cut", "(J)J"⟩, 3) := ⟨⟨by decide +kernel, by decide +kernel⟩, List.mem_of_getElem? (i := 144) (by decide +kernel), List.mem_of_getElem? (i := 236) (by decide +kernel), List.mem_of_getElem? (i := 237) (by decide +kernel)⟩
theorem lw_p4 : lw_okq (⟨"BoxArchive", "refuse", "(I)I"⟩, 8) := ⟨⟨by decide +kernel, by decide +kernel⟩, List.mem_of_getElem? (i := 14) (by decide +kernel), List.mem_of_getElem? (i := 244) (by decide +kernel), List.mem_of_getElem? (i := 245) (by decide +kernel)⟩
theorem lw_p5 : lw_okq (⟨"BoxArchive", "answer", "(I)I"⟩, 8) := ⟨⟨by decide +kernel, by decide +kernel⟩, List.mem_of_getElem? (i := 14) (by decide +kernel), List.mem_of_getElem? (i := 332) (by decide +kernel), List.mem_of_getElem? (i := 333) (by decide +kernel)⟩
theorem lw_p6 : lw_okq (⟨"BoxArchive$Thing", "isClosedTo", "(II)Z"⟩, 11) := ⟨⟨by decide +kernel, by decide +kernel⟩, List.mem_of_getElem? (i := 273) (by decide +kernel), List.mem_of_getElem? (i := 440) (by decide +kernel), List.mem_of_getElem? (i := 441) (by decide +kernel)⟩
theorem lw_p7 : lw_okq (⟨"BoxArchive$Catalogue", "insertByMark", "(LBoxArchive$Thing;I)V"⟩, 4) := ⟨⟨by decide +kernel, by decide +kernel⟩, List.mem_of_getElem? (i := 24) (by decide +kernel), List.mem_of_getElem? (i := 488) (by decide +kernel), List.mem_of_getElem? (i := 489) (by decide +kernel)⟩
theorem lw_p8 : lw_okq (⟨"BoxArchive", "whyNotOnShelf", "(II)I"⟩, 8) := ⟨⟨by decide +kernel, by decide +kernel⟩, List.mem_of_getElem? (i := 14) (by decide +kernel), List.mem_of_getElem? (i := 522) (by decide +kernel), List.mem_of_getElem? (i := 523) (by decide +kernel)⟩
theorem lw_p9 : lw_okq (⟨"BoxArchive$Shelves", "isGoalBlocked", "()Z"⟩, 7) := ⟨⟨by decide +kernel, by decide +kernel⟩, List.mem_of_getElem? (i := 69) (by decide +kernel), List.mem_of_getElem? (i := 555) (by decide +kernel), List.mem_of_getElem? (i := 556) (by decide +kernel)⟩
theorem lw_p10 : lw_okq (⟨"BoxArchive$Shelves", "isAstray", "(I)Z"⟩, 7) := ⟨⟨by decide +kernel, by decide +kernel⟩, List.mem_of_getElem? (i := 69) (by decide +kernel), List.mem_of_getElem? (i := 559) (by decide +kernel), List.mem_of_getElem? (i := 560) (by decide +kernel)⟩
theorem lw_p11 : lw_okq (⟨"BoxArchive$Shelves", "nextBox", "()I"⟩, 7) := ⟨⟨by decide +kernel, by decide +kernel⟩, List.mem_of_getElem? (i := 69) (by decide +kernel), List.mem_of_getElem? (i := 563) (by decide +kernel), List.mem_of_getElem? (i := 564) (by decide +kernel)⟩
theorem lw_p12 : lw_okq (⟨"BoxArchive$Shelves", "isGoalEmpty", "(I)Z"⟩, 7) := ⟨⟨by decide +kernel, by decide +kernel⟩, List.mem_of_getElem? (i := 69) (by decide +kernel), List.mem_of_getElem? (i := 567) (by decide +kernel), List.mem_of_getElem? (i := 568) (by decide +kernel)⟩
theorem lw_p13 : lw_okq (⟨"BoxArchive$Shelves", "addCarry", "(II)V"⟩, 7) := ⟨⟨by decide +kernel, by decide +kernel⟩, List.mem_of_getElem? (i := 69) (by decide +kernel), List.mem_of_getElem? (i := 575) (by decide +kernel), List.mem_of_getElem? (i := 576) (by decide +kernel)⟩
theorem lw_p14 : lw_okq (⟨"BoxArchive$Search", "isCheaper", "(II)Z"⟩, 4) := ⟨⟨by decide +kernel, by decide +kernel⟩, List.mem_of_getElem? (i := 124) (by decide +kernel), List.mem_of_getElem? (i := 605) (by decide +kernel), List.mem_of_getElem? (i := 606) (by decide +kernel)⟩
theorem lw_p15 : lw_okq (⟨"BoxArchive", "keepFraction", "(JJ)V"⟩, 8) := ⟨⟨by decide +kernel, by decide +kernel⟩, List.mem_of_getElem? (i := 14) (by decide +kernel), List.mem_of_getElem? (i := 617) (by decide +kernel), List.mem_of_getElem? (i := 618) (by decide +kernel)⟩
def lw_privs_1 : List (MethodName × Nat) := [(⟨"BoxArchive", "trayAt", "(I)LBoxArchive$Tray;"⟩, 8), (⟨"BoxArchive", "deny", "(I)Z"⟩, 8), (⟨"BoxArchive", "grant", "()Z"⟩, 8), (⟨"BoxArchive$Tray", "cut", "(J)J"⟩, 3), (⟨"BoxArchive", "refuse", "(I)I"⟩, 8), (⟨"BoxArchive", "answer", "(I)I"⟩, 8), (⟨"BoxArchive$Thing", "isClosedTo", "(II)Z"⟩, 11), (⟨"BoxArchive$Catalogue", "insertByMark", "(LBoxArchive$Thing;I)V"⟩, 4), (⟨"BoxArchive", "whyNotOnShelf", "(II)I"⟩, 8), (⟨"BoxArchive$Shelves", "isGoalBlocked", "()Z"⟩, 7), (⟨"BoxArchive$Shelves", "isAstray", "(I)Z"⟩, 7), (⟨"BoxArchive$Shelves", "nextBox", "()I"⟩, 7), (⟨"BoxArchive$Shelves", "isGoalEmpty", "(I)Z"⟩, 7), (⟨"BoxArchive$Shelves", "addCarry", "(II)V"⟩, 7), (⟨"BoxArchive$Search", "isCheaper", "(II)Z"⟩, 4), (⟨"BoxArchive", "keepFraction", "(JJ)V"⟩, 8)]
theorem lw_r1 : ∀ q ∈ lw_privs_1, lw_okq q := List.forall_mem_cons.mpr ⟨lw_p0, List.forall_mem_cons.mpr ⟨lw_p1, List.forall_mem_cons.mpr ⟨lw_p2, List.forall_mem_cons.mpr ⟨lw_p3, List.forall_mem_cons.mpr ⟨lw_p4, List.forall_mem_cons.mpr ⟨lw_p5, List.forall_mem_cons.mpr ⟨lw_p6, List.forall_mem_cons.mpr ⟨lw_p7, List.forall_mem_cons.mpr ⟨lw_p8, List.forall_mem_cons.mpr ⟨lw_p9, List.forall_mem_cons.mpr ⟨lw_p10, List.forall_mem_cons.mpr ⟨lw_p11, List.forall_mem_cons.mpr ⟨lw_p12, List.forall_mem_cons.mpr ⟨lw_p13, List.forall_mem_cons.mpr ⟨lw_p14, List.forall_mem_cons.mpr ⟨lw_p15, fun _ h => absurd h List.not_mem_nil⟩⟩⟩⟩⟩⟩⟩⟩⟩⟩⟩⟩⟩⟩⟩⟩
theorem lw_p16 : lw_okq (⟨"BoxArchiveModel", "no", "(I)Z"⟩, 33) := ⟨⟨by decide +kernel, by decide +kernel⟩, List.mem_of_getElem? (i := 632) (by decide +kernel), List.mem_of_getElem? (i := 746) (by decide +kernel), List.mem_of_getElem? (i := 747) (by decide +kernel)⟩
theorem lw_p17 : lw_okq (⟨"BoxArchiveModel", "placed", "(II)I"⟩, 33) := ⟨⟨by decide +kernel, by decide +kernel⟩, List.mem_of_getElem? (i := 632) (by decide +kernel), List.mem_of_getElem? (i := 754) (by decide +kernel), List.mem_of_getElem? (i := 755) (by decide +kernel)⟩
theorem lw_p18 : lw_okq (⟨"BoxArchiveModel", "trayed", "(I)I"⟩, 33) := ⟨⟨by decide +kernel, by decide +kernel⟩, List.mem_of_getElem? (i := 632) (by decide +kernel), List.mem_of_getElem? (i := 758) (by decide +kernel), List.mem_of_getElem? (i := 759) (by decide +kernel)⟩
theorem lw_p19 : lw_okq (⟨"BoxArchiveModel", "refuse", "(I)I"⟩, 33) := ⟨⟨by decide +kernel, by decide +kernel⟩, List.mem_of_getElem? (i := 632) (by decide +kernel), List.mem_of_getElem? (i := 778) (by decide +kernel), List.mem_of_getElem? (i := 779) (by decide +kernel)⟩
theorem lw_p20 : lw_okq (⟨"BoxArchiveModel", "isThing", "(I)Z"⟩, 33) := ⟨⟨by decide +kernel, by decide +kernel⟩, List.mem_of_getElem? (i := 632) (by decide +kernel), List.mem_of_getElem? (i := 782) (by decide +kernel), List.mem_of_getElem? (i := 783) (by decide +kernel)⟩
theorem lw_p21 : lw_okq (⟨"BoxArchiveModel", "hasOf", "(II)I"⟩, 33) := ⟨⟨by decide +kernel, by decide +kernel⟩, List.mem_of_getElem? (i := 632) (by decide +kernel), List.mem_of_getElem? (i := 801) (by decide +kernel), List.mem_of_getElem? (i := 802) (by decide +kernel)⟩
theorem lw_p22 : lw_okq (⟨"BoxArchiveModel", "holds", "()V"⟩, 33) := ⟨⟨by decide +kernel, by decide +kernel⟩, List.mem_of_getElem? (i := 632) (by decide +kernel), List.mem_of_getElem? (i := 818) (by decide +kernel), List.mem_of_getElem? (i := 819) (by decide +kernel)⟩
theorem lw_p23 : lw_okq (⟨"BoxArchiveModel", "seesOf", "(III)Z"⟩, 33) := ⟨⟨by decide +kernel, by decide +kernel⟩, List.mem_of_getElem? (i := 632) (by decide +kernel), List.mem_of_getElem? (i := 853) (by decide +kernel), List.mem_of_getElem? (i := 854) (by decide +kernel)⟩
theorem lw_p24 : lw_okq (⟨"BoxArchiveModel", "isPart", "(II)Z"⟩, 33) := ⟨⟨by decide +kernel, by decide +kernel⟩, List.mem_of_getElem? (i := 632) (by decide +kernel), List.mem_of_getElem? (i := 861) (by decide +kernel), List.mem_of_getElem? (i := 862) (by decide +kernel)⟩
theorem lw_p25 : lw_okq (⟨"BoxArchiveModel", "isFirst", "(IIII)Z"⟩, 33) := ⟨⟨by decide +kernel, by decide +kernel⟩, List.mem_of_getElem? (i := 632) (by decide +kernel), List.mem_of_getElem? (i := 865) (by decide +kernel), List.mem_of_getElem? (i := 866) (by decide +kernel)⟩
theorem lw_p26 : lw_okq (⟨"BoxArchiveModel", "lastTick", "()I"⟩, 33) := ⟨⟨by decide +kernel, by decide +kernel⟩, List.mem_of_getElem? (i := 632) (by decide +kernel), List.mem_of_getElem? (i := 885) (by decide +kernel), List.mem_of_getElem? (i := 886) (by decide +kernel)⟩
theorem lw_p27 : lw_okq (⟨"BoxArchiveModel", "isOut", "(I)Z"⟩, 33) := ⟨⟨by decide +kernel, by decide +kernel⟩, List.mem_of_getElem? (i := 632) (by decide +kernel), List.mem_of_getElem? (i := 889) (by decide +kernel), List.mem_of_getElem? (i := 890) (by decide +kernel)⟩
theorem lw_p28 : lw_okq (⟨"BoxArchiveModel", "latest", "(II)I"⟩, 33) := ⟨⟨by decide +kernel, by decide +kernel⟩, List.mem_of_getElem? (i := 632) (by decide +kernel), List.mem_of_getElem? (i := 893) (by decide +kernel), List.mem_of_getElem? (i := 894) (by decide +kernel)⟩
theorem lw_p29 : lw_okq (⟨"BoxArchiveModel", "enter", "(III)V"⟩, 33) := ⟨⟨by decide +kernel, by decide +kernel⟩, List.mem_of_getElem? (i := 632) (by decide +kernel), List.mem_of_getElem? (i := 897) (by decide +kernel), List.mem_of_getElem? (i := 898) (by decide +kernel)⟩
theorem lw_p30 : lw_okq (⟨"BoxArchiveModel", "boxed", "(II)I"⟩, 33) := ⟨⟨by decide +kernel, by decide +kernel⟩, List.mem_of_getElem? (i := 632) (by decide +kernel), List.mem_of_getElem? (i := 913) (by decide +kernel), List.mem_of_getElem? (i := 914) (by decide +kernel)⟩
theorem lw_p31 : lw_okq (⟨"BoxArchiveModel", "plans", "()Z"⟩, 33) := ⟨⟨by decide +kernel, by decide +kernel⟩, List.mem_of_getElem? (i := 632) (by decide +kernel), List.mem_of_getElem? (i := 925) (by decide +kernel), List.mem_of_getElem? (i := 926) (by decide +kernel)⟩
def lw_privs_2 : List (MethodName × Nat) := [(⟨"BoxArchiveModel", "no", "(I)Z"⟩, 33), (⟨"BoxArchiveModel", "placed", "(II)I"⟩, 33), (⟨"BoxArchiveModel", "trayed", "(I)I"⟩, 33), (⟨"BoxArchiveModel", "refuse", "(I)I"⟩, 33), (⟨"BoxArchiveModel", "isThing", "(I)Z"⟩, 33), (⟨"BoxArchiveModel", "hasOf", "(II)I"⟩, 33), (⟨"BoxArchiveModel", "holds", "()V"⟩, 33), (⟨"BoxArchiveModel", "seesOf", "(III)Z"⟩, 33), (⟨"BoxArchiveModel", "isPart", "(II)Z"⟩, 33), (⟨"BoxArchiveModel", "isFirst", "(IIII)Z"⟩, 33), (⟨"BoxArchiveModel", "lastTick", "()I"⟩, 33), (⟨"BoxArchiveModel", "isOut", "(I)Z"⟩, 33), (⟨"BoxArchiveModel", "latest", "(II)I"⟩, 33), (⟨"BoxArchiveModel", "enter", "(III)V"⟩, 33), (⟨"BoxArchiveModel", "boxed", "(II)I"⟩, 33), (⟨"BoxArchiveModel", "plans", "()Z"⟩, 33)]
theorem lw_r2 : ∀ q ∈ lw_privs_2, lw_okq q := List.forall_mem_cons.mpr ⟨lw_p16, List.forall_mem_cons.mpr ⟨lw_p17, List.forall_mem_cons.mpr ⟨lw_p18, List.forall_mem_cons.mpr ⟨lw_p19, List.forall_mem_cons.mpr ⟨lw_p20, List.forall_mem_cons.mpr ⟨lw_p21, List.forall_mem_cons.mpr ⟨lw_p22, List.forall_mem_cons.mpr ⟨lw_p23, List.forall_mem_cons.mpr ⟨lw_p24, List.forall_mem_cons.mpr ⟨lw_p25, List.forall_mem_cons.mpr ⟨lw_p26, List.forall_mem_cons.mpr ⟨lw_p27, List.forall_mem_cons.mpr ⟨lw_p28, List.forall_mem_cons.mpr ⟨lw_p29, List.forall_mem_cons.mpr ⟨lw_p30, List.forall_mem_cons.mpr ⟨lw_p31, fun _ h => absurd h List.not_mem_nil⟩⟩⟩⟩⟩⟩⟩⟩⟩⟩⟩⟩⟩⟩⟩⟩
theorem lw_p32 : lw_okq (⟨"BoxArchiveModel", "isAway", "(I)Z"⟩, 33) := ⟨⟨by decide +kernel, by decide +kernel⟩, List.mem_of_getElem? (i := 632) (by decide +kernel), List.mem_of_getElem? (i := 929) (by decide +kernel), List.mem_of_getElem? (i := 930) (by decide +kernel)⟩
theorem lw_p33 : lw_okq (⟨"BoxArchiveModel", "take", "(II)V"⟩, 33) := ⟨⟨by decide +kernel, by decide +kernel⟩, List.mem_of_getElem? (i := 632) (by decide +kernel), List.mem_of_getElem? (i := 933) (by decide +kernel), List.mem_of_getElem? (i := 934) (by decide +kernel)⟩
theorem lw_p34 : lw_okq (⟨"BoxArchiveModel", "costOf", "(II)J"⟩, 33) := ⟨⟨by decide +kernel, by decide +kernel⟩, List.mem_of_getElem? (i := 632) (by decide +kernel), List.mem_of_getElem? (i := 950) (by decide +kernel), List.mem_of_getElem? (i := 951) (by decide +kernel)⟩
theorem lw_p35 : lw_okq (⟨"BoxArchiveModel", "weightOf", "(II)J"⟩, 33) := ⟨⟨by decide +kernel, by decide +kernel⟩, List.mem_of_getElem? (i := 632) (by decide +kernel), List.mem_of_getElem? (i := 954) (by decide +kernel), List.mem_of_getElem? (i := 955) (by decide +kernel)⟩
def lw_privs_3 : List (MethodName × Nat) := [(⟨"BoxArchiveModel", "isAway", "(I)Z"⟩, 33), (⟨"BoxArchiveModel", "take", "(II)V"⟩, 33), (⟨"BoxArchiveModel", "costOf", "(II)J"⟩, 33), (⟨"BoxArchiveModel", "weightOf", "(II)J"⟩, 33)]
theorem lw_r3 : ∀ q ∈ lw_privs_3, lw_okq q := List.forall_mem_cons.mpr ⟨lw_p32, List.forall_mem_cons.mpr ⟨lw_p33, List.forall_mem_cons.mpr ⟨lw_p34, List.forall_mem_cons.mpr ⟨lw_p35, fun _ h => absurd h List.not_mem_nil⟩⟩⟩⟩
def lw_privs : List (MethodName × Nat) := lw_privs_1 ++ (lw_privs_2 ++ (lw_privs_3))
def lw_tbl : List Cond := k2_sels lw_privs ++ tables_1
theorem lw_privs_ok : ∀ q ∈ lw_privs, lw_okq q := by
  show ∀ q ∈ lw_privs_1 ++ (lw_privs_2 ++ (lw_privs_3)), lw_okq q
  exact List.forall_mem_append.mpr ⟨lw_r1, List.forall_mem_append.mpr ⟨lw_r2, lw_r3⟩⟩

theorem goodIn_r {big : List Cond} (ws : List Cond) (ps : List Nat) (hp : ws = ps.filterMap (fun i => big[i]?)) (h : ws.all goodWord = true) : GoodIn big ws := by
  intro w hw
  have h1 := List.all_eq_true.mp h w hw
  rw [hp] at hw
  obtain ⟨i, -, hi⟩ := List.mem_filterMap.mp hw
  have hm : w ∈ big := by first | exact List.mem_of_getElem? hi | exact List.getElem?_mem hi
  exact ⟨hm, good_of_word h1⟩
theorem goodIn_app {big a b : List Cond} (ha : GoodIn big a) (hb : GoodIn big b) : GoodIn big (a ++ b) := fun w h => (List.mem_append.mp h).elim (ha w) (hb w)
def RX0 : String := "BoxArchive$Catalogue"
def TX0 : u_T := fun k => match k with
  | 0 => ("BoxArchive$Catalogue", "things", "[LBoxArchive$Thing;", true)
  | 1 => ("BoxArchive$Catalogue", "size", "I", false)
  | 2 => ("BoxArchive$Catalogue", "byMark", "[LBoxArchive$Thing;", true)
  | _ => ("BoxArchive$Catalogue", "pieceMet", "[Z", true)
def tyX0 : Nat → FieldType := fun k => match k with
  | 0 => .array (.object "BoxArchive$Thing")
  | 1 => .int
  | 2 => .array (.object "BoxArchive$Thing")
  | _ => .array .boolean
abbrev wsX00 : List Cond := u_ws RX0 TX0 4
theorem nmX0 : ∀ a, a < 4 → ∀ b, b < 4 → a ≠ b → (TX0 a).2.1 ≠ (TX0 b).2.1 := by decide +kernel
theorem tyX0_ok : ∀ k, k < 4 → parseFieldDescriptor (TX0 k).2.2.1 = some (tyX0 k) := by decide +kernel
abbrev cX0_init : ByteArray := prog_2_method_1_code
def yX0_init : MethodName := ⟨RX0, "<init>", "()V"⟩
abbrev cX0_at : ByteArray := prog_2_method_2_code
def yX0_at : MethodName := ⟨RX0, "at", "(I)LBoxArchive$Thing;"⟩
abbrev cX0_add : ByteArray := prog_2_method_3_code
def yX0_add : MethodName := ⟨RX0, "add", "(ILBoxArchive$Thing;)I"⟩
abbrev cX0_rightIn : ByteArray := prog_2_method_4_code
def yX0_rightIn : MethodName := ⟨RX0, "rightIn", "(LBoxArchive$Thing;)I"⟩
abbrev cX0_heldDay : ByteArray := prog_2_method_5_code
def yX0_heldDay : MethodName := ⟨RX0, "heldDay", "(LBoxArchive$Thing;Z)I"⟩
abbrev cX0_earlier : ByteArray := prog_2_method_6_code
def yX0_earlier : MethodName := ⟨RX0, "earlier", "(II)I"⟩
abbrev cX0_quarrelling : ByteArray := prog_2_method_7_code
def yX0_quarrelling : MethodName := ⟨RX0, "quarrelling", "(I)I"⟩
abbrev cX0_unite : ByteArray := prog_2_method_8_code
def yX0_unite : MethodName := ⟨RX0, "unite", "(II)V"⟩
abbrev cX0_partsSeen : ByteArray := prog_2_method_9_code
def yX0_partsSeen : MethodName := ⟨RX0, "partsSeen", "(LBoxArchive$Thing;III)I"⟩
abbrev cX0_piecesSeen : ByteArray := prog_2_method_10_code
def yX0_piecesSeen : MethodName := ⟨RX0, "piecesSeen", "(LBoxArchive$Thing;II)I"⟩
abbrev cX0_uncataloguedSeen : ByteArray := prog_2_method_11_code
def yX0_uncataloguedSeen : MethodName := ⟨RX0, "uncataloguedSeen", "(LBoxArchive$Thing;II)I"⟩
abbrev cX0_isPartSeen : ByteArray := prog_2_method_12_code
def yX0_isPartSeen : MethodName := ⟨RX0, "isPartSeen", "(LBoxArchive$Thing;LBoxArchive$Thing;III)Z"⟩
abbrev cX0_isMarkOfAnother : ByteArray := prog_2_method_13_code
def yX0_isMarkOfAnother : MethodName := ⟨RX0, "isMarkOfAnother", "(ILBoxArchive$Thing;)Z"⟩
abbrev cX0_lineUpByMark : ByteArray := prog_2_method_14_code
def yX0_lineUpByMark : MethodName := ⟨RX0, "lineUpByMark", "(II)I"⟩
abbrev cX0_insertByMark : ByteArray := prog_2_method_15_code
def yX0_insertByMark : MethodName := ⟨RX0, "insertByMark", "(LBoxArchive$Thing;I)V"⟩
def RX1 : String := "BoxArchive$Layout"
def TX1 : u_T := fun k => match k with
  | 0 => ("BoxArchive$Layout", "placeOf", "[I", true)
  | _ => ("BoxArchive$Layout", "boxIn", "[I", true)
def tyX1 : Nat → FieldType := fun k => match k with
  | 0 => .array .int
  | _ => .array .int
abbrev wsX10 : List Cond := u_ws RX1 TX1 2
theorem nmX1 : ∀ a, a < 2 → ∀ b, b < 2 → a ≠ b → (TX1 a).2.1 ≠ (TX1 b).2.1 := by decide +kernel
theorem tyX1_ok : ∀ k, k < 2 → parseFieldDescriptor (TX1 k).2.2.1 = some (tyX1 k) := by decide +kernel
abbrev cX1_init : ByteArray := prog_3_method_1_code
def yX1_init : MethodName := ⟨RX1, "<init>", "()V"⟩
abbrev cX1_copyFrom : ByteArray := prog_3_method_2_code
def yX1_copyFrom : MethodName := ⟨RX1, "copyFrom", "(LBoxArchive$Layout;)V"⟩
abbrev cX1_isFreeFor : ByteArray := prog_3_method_3_code
def yX1_isFreeFor : MethodName := ⟨RX1, "isFreeFor", "(II)Z"⟩
abbrev cX1_put : ByteArray := prog_3_method_4_code
def yX1_put : MethodName := ⟨RX1, "put", "(II)V"⟩
abbrev cX1_leastEmpty : ByteArray := prog_3_method_5_code
def yX1_leastEmpty : MethodName := ⟨RX1, "leastEmpty", "()I"⟩
def RX2 : String := "BoxArchive$Log"
def TX2 : u_T := fun k => match k with
  | 0 => ("BoxArchive$Log", "things", "[I", true)
  | 1 => ("BoxArchive$Log", "persons", "[I", true)
  | 2 => ("BoxArchive$Log", "ticks", "[I", true)
  | _ => ("BoxArchive$Log", "size", "I", false)
def tyX2 : Nat → FieldType := fun k => match k with
  | 0 => .array .int
  | 1 => .array .int
  | 2 => .array .int
  | _ => .int
abbrev wsX20 : List Cond := u_ws RX2 TX2 4
theorem nmX2 : ∀ a, a < 4 → ∀ b, b < 4 → a ≠ b → (TX2 a).2.1 ≠ (TX2 b).2.1 := by decide +kernel
theorem tyX2_ok : ∀ k, k < 4 → parseFieldDescriptor (TX2 k).2.2.1 = some (tyX2 k) := by decide +kernel
abbrev cX2_init : ByteArray := prog_4_method_1_code
def yX2_init : MethodName := ⟨RX2, "<init>", "()V"⟩
abbrev cX2_whyNot : ByteArray := prog_4_method_2_code
def yX2_whyNot : MethodName := ⟨RX2, "whyNot", "(I)I"⟩
abbrev cX2_append : ByteArray := prog_4_method_3_code
def yX2_append : MethodName := ⟨RX2, "append", "(III)V"⟩
abbrev cX2_holder : ByteArray := prog_4_method_4_code
def yX2_holder : MethodName := ⟨RX2, "holder", "(II)I"⟩
def RX3 : String := "BoxArchive$Search"
def TX3 : u_T := fun k => match k with
  | 0 => ("BoxArchive$Search", "order", "[I", true)
  | 1 => ("BoxArchive$Search", "weight", "[J", true)
  | 2 => ("BoxArchive$Search", "cost", "[J", true)
  | _ => ("BoxArchive$Search", "many", "I", false)
def tyX3 : Nat → FieldType := fun k => match k with
  | 0 => .array .int
  | 1 => .array .long
  | 2 => .array .long
  | _ => .int
abbrev wsX30 : List Cond := u_ws RX3 TX3 4
theorem nmX3 : ∀ a, a < 4 → ∀ b, b < 4 → a ≠ b → (TX3 a).2.1 ≠ (TX3 b).2.1 := by decide +kernel
theorem tyX3_ok : ∀ k, k < 4 → parseFieldDescriptor (TX3 k).2.2.1 = some (tyX3 k) := by decide +kernel
abbrev cX3_init : ByteArray := prog_5_method_1_code
def yX3_init : MethodName := ⟨RX3, "<init>", "()V"⟩
abbrev cX3_takes : ByteArray := prog_5_method_2_code
def yX3_takes : MethodName := ⟨RX3, "takes", "([JI)Z"⟩
abbrev cX3_isFit : ByteArray := prog_5_method_3_code
def yX3_isFit : MethodName := ⟨RX3, "isFit", "(J)Z"⟩
abbrev cX3_arrange : ByteArray := prog_5_method_4_code
def yX3_arrange : MethodName := ⟨RX3, "arrange", "()V"⟩
abbrev cX3_isCheaper : ByteArray := prog_5_method_5_code
def yX3_isCheaper : MethodName := ⟨RX3, "isCheaper", "(II)Z"⟩
abbrev cX3_weightedCosts : ByteArray := prog_5_method_6_code
def yX3_weightedCosts : MethodName := ⟨RX3, "weightedCosts", "()J"⟩
abbrev cX3_weights : ByteArray := prog_5_method_7_code
def yX3_weights : MethodName := ⟨RX3, "weights", "()J"⟩
def RX4 : String := "BoxArchive$Shelves"
def TX4 : u_T := fun k => match k with
  | 0 => ("BoxArchive$Shelves", "now", "LBoxArchive$Layout;", true)
  | 1 => ("BoxArchive$Shelves", "later", "LBoxArchive$Layout;", true)
  | 2 => ("BoxArchive$Shelves", "goalOf", "[I", true)
  | 3 => ("BoxArchive$Shelves", "carryBox", "[I", true)
  | 4 => ("BoxArchive$Shelves", "carryFrom", "[I", true)
  | 5 => ("BoxArchive$Shelves", "carryTo", "[I", true)
  | _ => ("BoxArchive$Shelves", "carries", "I", false)
def tyX4 : Nat → FieldType := fun k => match k with
  | 0 => .object "BoxArchive$Layout"
  | 1 => .object "BoxArchive$Layout"
  | 2 => .array .int
  | 3 => .array .int
  | 4 => .array .int
  | 5 => .array .int
  | _ => .int
abbrev wsX40 : List Cond := u_ws RX4 TX4 7
theorem nmX4 : ∀ a, a < 7 → ∀ b, b < 7 → a ≠ b → (TX4 a).2.1 ≠ (TX4 b).2.1 := by decide +kernel
theorem tyX4_ok : ∀ k, k < 7 → parseFieldDescriptor (TX4 k).2.2.1 = some (tyX4 k) := by decide +kernel
abbrev cX4_init : ByteArray := prog_6_method_1_code
def yX4_init : MethodName := ⟨RX4, "<init>", "()V"⟩
abbrev cX4_isGoalOfAnother : ByteArray := prog_6_method_2_code
def yX4_isGoalOfAnother : MethodName := ⟨RX4, "isGoalOfAnother", "(II)Z"⟩
abbrev cX4_makePlan : ByteArray := prog_6_method_3_code
def yX4_makePlan : MethodName := ⟨RX4, "makePlan", "()Z"⟩
abbrev cX4_isGoalBlocked : ByteArray := prog_6_method_4_code
def yX4_isGoalBlocked : MethodName := ⟨RX4, "isGoalBlocked", "()Z"⟩
abbrev cX4_nextBox : ByteArray := prog_6_method_5_code
def yX4_nextBox : MethodName := ⟨RX4, "nextBox", "()I"⟩
abbrev cX4_isAstray : ByteArray := prog_6_method_6_code
def yX4_isAstray : MethodName := ⟨RX4, "isAstray", "(I)Z"⟩
abbrev cX4_isGoalEmpty : ByteArray := prog_6_method_7_code
def yX4_isGoalEmpty : MethodName := ⟨RX4, "isGoalEmpty", "(I)Z"⟩
abbrev cX4_addCarry : ByteArray := prog_6_method_8_code
def yX4_addCarry : MethodName := ⟨RX4, "addCarry", "(II)V"⟩
def RX5 : String := "BoxArchive$Thing"
def TX5 : u_T := fun k => match k with
  | 0 => ("BoxArchive$Thing", "number", "I", true)
  | 1 => ("BoxArchive$Thing", "level", "I", true)
  | 2 => ("BoxArchive$Thing", "above", "LBoxArchive$Thing;", true)
  | 3 => ("BoxArchive$Thing", "said", "[I", true)
  | 4 => ("BoxArchive$Thing", "from", "I", false)
  | 5 => ("BoxArchive$Thing", "to", "I", false)
  | 6 => ("BoxArchive$Thing", "uncatalogued", "I", false)
  | 7 => ("BoxArchive$Thing", "closedUntil", "I", false)
  | 8 => ("BoxArchive$Thing", "closedBut", "I", false)
  | 9 => ("BoxArchive$Thing", "oldMark", "I", false)
  | _ => ("BoxArchive$Thing", "piece", "I", false)
def tyX5 : Nat → FieldType := fun k => match k with
  | 0 => .int
  | 1 => .int
  | 2 => .object "BoxArchive$Thing"
  | 3 => .array .int
  | 4 => .int
  | 5 => .int
  | 6 => .int
  | 7 => .int
  | 8 => .int
  | 9 => .int
  | _ => .int
abbrev wsX50 : List Cond := u_ws RX5 TX5 11
theorem nmX5 : ∀ a, a < 11 → ∀ b, b < 11 → a ≠ b → (TX5 a).2.1 ≠ (TX5 b).2.1 := by decide +kernel
theorem tyX5_ok : ∀ k, k < 11 → parseFieldDescriptor (TX5 k).2.2.1 = some (tyX5 k) := by decide +kernel
abbrev cX5_init : ByteArray := prog_7_method_1_code
def yX5_init : MethodName := ⟨RX5, "<init>", "(IILBoxArchive$Thing;)V"⟩
abbrev cX5_isPartOf : ByteArray := prog_7_method_2_code
def yX5_isPartOf : MethodName := ⟨RX5, "isPartOf", "(LBoxArchive$Thing;)Z"⟩
abbrev cX5_saidInLine : ByteArray := prog_7_method_3_code
def yX5_saidInLine : MethodName := ⟨RX5, "saidInLine", "(I)I"⟩
abbrev cX5_hasSpan : ByteArray := prog_7_method_4_code
def yX5_hasSpan : MethodName := ⟨RX5, "hasSpan", "()Z"⟩
abbrev cX5_showsSpanTo : ByteArray := prog_7_method_5_code
def yX5_showsSpanTo : MethodName := ⟨RX5, "showsSpanTo", "(LBoxArchive$Thing;)Z"⟩
abbrev cX5_hasQuarrel : ByteArray := prog_7_method_6_code
def yX5_hasQuarrel : MethodName := ⟨RX5, "hasQuarrel", "()Z"⟩
abbrev cX5_isSeen : ByteArray := prog_7_method_7_code
def yX5_isSeen : MethodName := ⟨RX5, "isSeen", "(II)Z"⟩
abbrev cX5_isClosedTo : ByteArray := prog_7_method_8_code
def yX5_isClosedTo : MethodName := ⟨RX5, "isClosedTo", "(II)Z"⟩
def RX6 : String := "BoxArchive$Tray"
def TX6 : u_T := fun k => match k with
  | 0 => ("BoxArchive$Tray", "numbers", "[J", true)
  | 1 => ("BoxArchive$Tray", "sort", "I", false)
  | _ => ("BoxArchive$Tray", "length", "I", false)
def tyX6 : Nat → FieldType := fun k => match k with
  | 0 => .array .long
  | 1 => .int
  | _ => .int
abbrev wsX60 : List Cond := u_ws RX6 TX6 3
theorem nmX6 : ∀ a, a < 3 → ∀ b, b < 3 → a ≠ b → (TX6 a).2.1 ≠ (TX6 b).2.1 := by decide +kernel
theorem tyX6_ok : ∀ k, k < 3 → parseFieldDescriptor (TX6 k).2.2.1 = some (tyX6 k) := by decide +kernel
abbrev cX6_init : ByteArray := prog_8_method_1_code
def yX6_init : MethodName := ⟨RX6, "<init>", "()V"⟩
abbrev cX6_isMissing : ByteArray := prog_8_method_2_code
def yX6_isMissing : MethodName := ⟨RX6, "isMissing", "()Z"⟩
abbrev cX6_renew : ByteArray := prog_8_method_3_code
def yX6_renew : MethodName := ⟨RX6, "renew", "(II)V"⟩
abbrev cX6_hasPlace : ByteArray := prog_8_method_4_code
def yX6_hasPlace : MethodName := ⟨RX6, "hasPlace", "(I)Z"⟩
abbrev cX6_hasRun : ByteArray := prog_8_method_5_code
def yX6_hasRun : MethodName := ⟨RX6, "hasRun", "(II)Z"⟩
abbrev cX6_put : ByteArray := prog_8_method_6_code
def yX6_put : MethodName := ⟨RX6, "put", "(IJ)V"⟩
abbrev cX6_cut : ByteArray := prog_8_method_7_code
def yX6_cut : MethodName := ⟨RX6, "cut", "(J)J"⟩
def RX7 : String := "BoxArchive"
def TX7 : u_T := fun k => match k with
  | 0 => ("BoxArchive", "trays", "[LBoxArchive$Tray;", true)
  | 1 => ("BoxArchive", "catalogue", "LBoxArchive$Catalogue;", true)
  | 2 => ("BoxArchive", "log", "LBoxArchive$Log;", true)
  | 3 => ("BoxArchive", "shelves", "LBoxArchive$Shelves;", true)
  | 4 => ("BoxArchive", "best", "LBoxArchive$Search;", true)
  | 5 => ("BoxArchive", "latestStatus", "I", false)
  | 6 => ("BoxArchive", "fractionUpper", "J", false)
  | _ => ("BoxArchive", "fractionLower", "J", false)
def tyX7 : Nat → FieldType := fun k => match k with
  | 0 => .array (.object "BoxArchive$Tray")
  | 1 => .object "BoxArchive$Catalogue"
  | 2 => .object "BoxArchive$Log"
  | 3 => .object "BoxArchive$Shelves"
  | 4 => .object "BoxArchive$Search"
  | 5 => .int
  | 6 => .long
  | _ => .long
abbrev wsX70 : List Cond := u_ws RX7 TX7 8
theorem nmX7 : ∀ a, a < 8 → ∀ b, b < 8 → a ≠ b → (TX7 a).2.1 ≠ (TX7 b).2.1 := by decide +kernel
theorem tyX7_ok : ∀ k, k < 8 → parseFieldDescriptor (TX7 k).2.2.1 = some (tyX7 k) := by decide +kernel
abbrev cX7_init : ByteArray := prog_1_method_1_code
def yX7_init : MethodName := ⟨RX7, "<init>", "()V"⟩
abbrev cX7_status : ByteArray := prog_1_method_2_code
def yX7_status : MethodName := ⟨RX7, "status", "()I"⟩
abbrev cX7_tray : ByteArray := prog_1_method_3_code
def yX7_tray : MethodName := ⟨RX7, "tray", "(III)Z"⟩
abbrev cX7_write : ByteArray := prog_1_method_4_code
def yX7_write : MethodName := ⟨RX7, "write", "(IIJ)Z"⟩
abbrev cX7_read : ByteArray := prog_1_method_5_code
def yX7_read : MethodName := ⟨RX7, "read", "(II)J"⟩
abbrev cX7_pour : ByteArray := prog_1_method_6_code
def yX7_pour : MethodName := ⟨RX7, "pour", "(IIIII)Z"⟩
abbrev cX7_thing : ByteArray := prog_1_method_7_code
def yX7_thing : MethodName := ⟨RX7, "thing", "(II)I"⟩
abbrev cX7_told : ByteArray := prog_1_method_8_code
def yX7_told : MethodName := ⟨RX7, "told", "(II)I"⟩
abbrev cX7_say : ByteArray := prog_1_method_9_code
def yX7_say : MethodName := ⟨RX7, "say", "(III)Z"⟩
abbrev cX7_has : ByteArray := prog_1_method_10_code
def yX7_has : MethodName := ⟨RX7, "has", "(II)I"⟩
abbrev cX7_span : ByteArray := prog_1_method_11_code
def yX7_span : MethodName := ⟨RX7, "span", "(III)Z"⟩
abbrev cX7_noSpan : ByteArray := prog_1_method_12_code
def yX7_noSpan : MethodName := ⟨RX7, "noSpan", "(I)Z"⟩
abbrev cX7_held : ByteArray := prog_1_method_13_code
def yX7_held : MethodName := ⟨RX7, "held", "(IZ)I"⟩
abbrev cX7_quarrel : ByteArray := prog_1_method_14_code
def yX7_quarrel : MethodName := ⟨RX7, "quarrel", "(I)I"⟩
abbrev cX7_count : ByteArray := prog_1_method_15_code
def yX7_count : MethodName := ⟨RX7, "count", "(II)Z"⟩
abbrev cX7_join : ByteArray := prog_1_method_16_code
def yX7_join : MethodName := ⟨RX7, "join", "(II)Z"⟩
abbrev cX7_close : ByteArray := prog_1_method_17_code
def yX7_close : MethodName := ⟨RX7, "close", "(III)Z"⟩
abbrev cX7_sees : ByteArray := prog_1_method_18_code
def yX7_sees : MethodName := ⟨RX7, "sees", "(III)I"⟩
abbrev cX7_number : ByteArray := prog_1_method_19_code
def yX7_number : MethodName := ⟨RX7, "number", "(IIII)I"⟩
abbrev cX7_find : ByteArray := prog_1_method_20_code
def yX7_find : MethodName := ⟨RX7, "find", "(IIIII)I"⟩
abbrev cX7_mark : ByteArray := prog_1_method_21_code
def yX7_mark : MethodName := ⟨RX7, "mark", "(II)Z"⟩
abbrev cX7_walk : ByteArray := prog_1_method_22_code
def yX7_walk : MethodName := ⟨RX7, "walk", "(III)I"⟩
abbrev cX7_fetch : ByteArray := prog_1_method_23_code
def yX7_fetch : MethodName := ⟨RX7, "fetch", "(III)Z"⟩
abbrev cX7_back : ByteArray := prog_1_method_24_code
def yX7_back : MethodName := ⟨RX7, "back", "(II)Z"⟩
abbrev cX7_where : ByteArray := prog_1_method_25_code
def yX7_where : MethodName := ⟨RX7, "where", "(II)I"⟩
abbrev cX7_stand : ByteArray := prog_1_method_26_code
def yX7_stand : MethodName := ⟨RX7, "stand", "(II)Z"⟩
abbrev cX7_goal : ByteArray := prog_1_method_27_code
def yX7_goal : MethodName := ⟨RX7, "goal", "(II)Z"⟩
abbrev cX7_plan : ByteArray := prog_1_method_28_code
def yX7_plan : MethodName := ⟨RX7, "plan", "()I"⟩
abbrev cX7_carry : ByteArray := prog_1_method_29_code
def yX7_carry : MethodName := ⟨RX7, "carry", "(II)I"⟩
abbrev cX7_carried : ByteArray := prog_1_method_30_code
def yX7_carried : MethodName := ⟨RX7, "carried", "()Z"⟩
abbrev cX7_search : ByteArray := prog_1_method_31_code
def yX7_search : MethodName := ⟨RX7, "search", "(III)I"⟩
abbrev cX7_upper : ByteArray := prog_1_method_32_code
def yX7_upper : MethodName := ⟨RX7, "upper", "()J"⟩
abbrev cX7_lower : ByteArray := prog_1_method_33_code
def yX7_lower : MethodName := ⟨RX7, "lower", "()J"⟩
abbrev cX7_refuse : ByteArray := prog_1_method_34_code
def yX7_refuse : MethodName := ⟨RX7, "refuse", "(I)I"⟩
abbrev cX7_deny : ByteArray := prog_1_method_35_code
def yX7_deny : MethodName := ⟨RX7, "deny", "(I)Z"⟩
abbrev cX7_answer : ByteArray := prog_1_method_36_code
def yX7_answer : MethodName := ⟨RX7, "answer", "(I)I"⟩
abbrev cX7_grant : ByteArray := prog_1_method_37_code
def yX7_grant : MethodName := ⟨RX7, "grant", "()Z"⟩
abbrev cX7_trayAt : ByteArray := prog_1_method_38_code
def yX7_trayAt : MethodName := ⟨RX7, "trayAt", "(I)LBoxArchive$Tray;"⟩
abbrev cX7_whyNotIn : ByteArray := prog_1_method_39_code
def yX7_whyNotIn : MethodName := ⟨RX7, "whyNotIn", "(LBoxArchive$Tray;I)I"⟩
abbrev cX7_whyNotOnShelf : ByteArray := prog_1_method_40_code
def yX7_whyNotOnShelf : MethodName := ⟨RX7, "whyNotOnShelf", "(II)I"⟩
abbrev cX7_keepFraction : ByteArray := prog_1_method_41_code
def yX7_keepFraction : MethodName := ⟨RX7, "keepFraction", "(JJ)V"⟩
abbrev cX7_commonDivisor : ByteArray := prog_1_method_42_code
def yX7_commonDivisor : MethodName := ⟨RX7, "commonDivisor", "(JJ)J"⟩
abbrev cX7_mayBeIn : ByteArray := prog_1_method_43_code
def yX7_mayBeIn : MethodName := ⟨RX7, "mayBeIn", "(II)Z"⟩
abbrev cX7_isField : ByteArray := prog_1_method_44_code
def yX7_isField : MethodName := ⟨RX7, "isField", "(I)Z"⟩
abbrev cX7_isPerson : ByteArray := prog_1_method_45_code
def yX7_isPerson : MethodName := ⟨RX7, "isPerson", "(I)Z"⟩
abbrev cX7_isDay : ByteArray := prog_1_method_46_code
def yX7_isDay : MethodName := ⟨RX7, "isDay", "(I)Z"⟩
abbrev cX7_within : ByteArray := prog_1_method_47_code
def yX7_within : MethodName := ⟨RX7, "within", "(III)Z"⟩
def RX8 : String := "BoxArchiveModel"
def TX8 : u_T := fun k => match k with
  | 0 => ("BoxArchiveModel", "status", "I", false)
  | 1 => ("BoxArchiveModel", "thrown", "I", false)
  | 2 => ("BoxArchiveModel", "above", "J", false)
  | 3 => ("BoxArchiveModel", "under", "J", false)
  | 4 => ("BoxArchiveModel", "traySort", "[I", true)
  | 5 => ("BoxArchiveModel", "trayMany", "[I", true)
  | 6 => ("BoxArchiveModel", "numbers", "[J", true)
  | 7 => ("BoxArchiveModel", "things", "I", false)
  | 8 => ("BoxArchiveModel", "level", "[I", true)
  | 9 => ("BoxArchiveModel", "up", "[I", true)
  | 10 => ("BoxArchiveModel", "counts", "[I", true)
  | 11 => ("BoxArchiveModel", "piece", "[I", true)
  | 12 => ("BoxArchiveModel", "said", "[I", true)
  | 13 => ("BoxArchiveModel", "spanFrom", "[I", true)
  | 14 => ("BoxArchiveModel", "spanTo", "[I", true)
  | 15 => ("BoxArchiveModel", "closed", "[I", true)
  | 16 => ("BoxArchiveModel", "but", "[I", true)
  | 17 => ("BoxArchiveModel", "mark", "[I", true)
  | 18 => ("BoxArchiveModel", "place", "[I", true)
  | 19 => ("BoxArchiveModel", "goal", "[I", true)
  | 20 => ("BoxArchiveModel", "heldFrom", "[I", true)
  | 21 => ("BoxArchiveModel", "heldTo", "[I", true)
  | 22 => ("BoxArchiveModel", "entries", "I", false)
  | 23 => ("BoxArchiveModel", "entryThing", "[I", true)
  | 24 => ("BoxArchiveModel", "entryPerson", "[I", true)
  | 25 => ("BoxArchiveModel", "entryTick", "[I", true)
  | 26 => ("BoxArchiveModel", "at", "[I", true)
  | 27 => ("BoxArchiveModel", "stands", "[I", true)
  | 28 => ("BoxArchiveModel", "carryBox", "[I", true)
  | 29 => ("BoxArchiveModel", "carryFrom", "[I", true)
  | 30 => ("BoxArchiveModel", "carryTo", "[I", true)
  | 31 => ("BoxArchiveModel", "carries", "I", false)
  | _ => ("BoxArchiveModel", "order", "[I", true)
def tyX8 : Nat → FieldType := fun k => match k with
  | 0 => .int
  | 1 => .int
  | 2 => .long
  | 3 => .long
  | 4 => .array .int
  | 5 => .array .int
  | 6 => .array .long
  | 7 => .int
  | 8 => .array .int
  | 9 => .array .int
  | 10 => .array .int
  | 11 => .array .int
  | 12 => .array .int
  | 13 => .array .int
  | 14 => .array .int
  | 15 => .array .int
  | 16 => .array .int
  | 17 => .array .int
  | 18 => .array .int
  | 19 => .array .int
  | 20 => .array .int
  | 21 => .array .int
  | 22 => .int
  | 23 => .array .int
  | 24 => .array .int
  | 25 => .array .int
  | 26 => .array .int
  | 27 => .array .int
  | 28 => .array .int
  | 29 => .array .int
  | 30 => .array .int
  | 31 => .int
  | _ => .array .int
abbrev wsX80 : List Cond := u_ws RX8 TX8 33
theorem nmX8 : ∀ a, a < 33 → ∀ b, b < 33 → a ≠ b → (TX8 a).2.1 ≠ (TX8 b).2.1 := by decide +kernel
theorem tyX8_ok : ∀ k, k < 33 → parseFieldDescriptor (TX8 k).2.2.1 = some (tyX8 k) := by decide +kernel
abbrev cX8_init : ByteArray := prog_10_method_1_code
def yX8_init : MethodName := ⟨RX8, "<init>", "()V"⟩
abbrev cX8_status : ByteArray := prog_10_method_3_code
def yX8_status : MethodName := ⟨RX8, "status", "()I"⟩
abbrev cX8_refuse : ByteArray := prog_10_method_4_code
def yX8_refuse : MethodName := ⟨RX8, "refuse", "(I)I"⟩
abbrev cX8_no : ByteArray := prog_10_method_5_code
def yX8_no : MethodName := ⟨RX8, "no", "(I)Z"⟩
abbrev cX8_cut : ByteArray := prog_10_method_6_code
def yX8_cut : MethodName := ⟨RX8, "cut", "(IJ)J"⟩
abbrev cX8_tray : ByteArray := prog_10_method_7_code
def yX8_tray : MethodName := ⟨RX8, "tray", "(III)Z"⟩
abbrev cX8_trayed : ByteArray := prog_10_method_8_code
def yX8_trayed : MethodName := ⟨RX8, "trayed", "(I)I"⟩
abbrev cX8_placed : ByteArray := prog_10_method_9_code
def yX8_placed : MethodName := ⟨RX8, "placed", "(II)I"⟩
abbrev cX8_write : ByteArray := prog_10_method_10_code
def yX8_write : MethodName := ⟨RX8, "write", "(IIJ)Z"⟩
abbrev cX8_read : ByteArray := prog_10_method_11_code
def yX8_read : MethodName := ⟨RX8, "read", "(II)J"⟩
abbrev cX8_pour : ByteArray := prog_10_method_12_code
def yX8_pour : MethodName := ⟨RX8, "pour", "(IIIII)Z"⟩
abbrev cX8_isThing : ByteArray := prog_10_method_13_code
def yX8_isThing : MethodName := ⟨RX8, "isThing", "(I)Z"⟩
abbrev cX8_thing : ByteArray := prog_10_method_14_code
def yX8_thing : MethodName := ⟨RX8, "thing", "(II)I"⟩
abbrev cX8_told : ByteArray := prog_10_method_15_code
def yX8_told : MethodName := ⟨RX8, "told", "(II)I"⟩
abbrev cX8_isField : ByteArray := prog_10_method_16_code
def yX8_isField : MethodName := ⟨RX8, "isField", "(I)Z"⟩
abbrev cX8_say : ByteArray := prog_10_method_17_code
def yX8_say : MethodName := ⟨RX8, "say", "(III)Z"⟩
abbrev cX8_hasOf : ByteArray := prog_10_method_18_code
def yX8_hasOf : MethodName := ⟨RX8, "hasOf", "(II)I"⟩
abbrev cX8_has : ByteArray := prog_10_method_19_code
def yX8_has : MethodName := ⟨RX8, "has", "(II)I"⟩
abbrev cX8_span : ByteArray := prog_10_method_20_code
def yX8_span : MethodName := ⟨RX8, "span", "(III)Z"⟩
abbrev cX8_noSpan : ByteArray := prog_10_method_21_code
def yX8_noSpan : MethodName := ⟨RX8, "noSpan", "(I)Z"⟩
abbrev cX8_holds : ByteArray := prog_10_method_22_code
def yX8_holds : MethodName := ⟨RX8, "holds", "()V"⟩
abbrev cX8_held : ByteArray := prog_10_method_23_code
def yX8_held : MethodName := ⟨RX8, "held", "(IZ)I"⟩
abbrev cX8_quarrel : ByteArray := prog_10_method_24_code
def yX8_quarrel : MethodName := ⟨RX8, "quarrel", "(I)I"⟩
abbrev cX8_count : ByteArray := prog_10_method_25_code
def yX8_count : MethodName := ⟨RX8, "count", "(II)Z"⟩
abbrev cX8_join : ByteArray := prog_10_method_26_code
def yX8_join : MethodName := ⟨RX8, "join", "(II)Z"⟩
abbrev cX8_isPerson : ByteArray := prog_10_method_27_code
def yX8_isPerson : MethodName := ⟨RX8, "isPerson", "(I)Z"⟩
abbrev cX8_isDay : ByteArray := prog_10_method_28_code
def yX8_isDay : MethodName := ⟨RX8, "isDay", "(I)Z"⟩
abbrev cX8_close : ByteArray := prog_10_method_29_code
def yX8_close : MethodName := ⟨RX8, "close", "(III)Z"⟩
abbrev cX8_seesOf : ByteArray := prog_10_method_30_code
def yX8_seesOf : MethodName := ⟨RX8, "seesOf", "(III)Z"⟩
abbrev cX8_sees : ByteArray := prog_10_method_31_code
def yX8_sees : MethodName := ⟨RX8, "sees", "(III)I"⟩
abbrev cX8_isPart : ByteArray := prog_10_method_32_code
def yX8_isPart : MethodName := ⟨RX8, "isPart", "(II)Z"⟩
abbrev cX8_number : ByteArray := prog_10_method_33_code
def yX8_number : MethodName := ⟨RX8, "number", "(IIII)I"⟩
abbrev cX8_isFirst : ByteArray := prog_10_method_34_code
def yX8_isFirst : MethodName := ⟨RX8, "isFirst", "(IIII)Z"⟩
abbrev cX8_find : ByteArray := prog_10_method_35_code
def yX8_find : MethodName := ⟨RX8, "find", "(IIIII)I"⟩
abbrev cX8_mark : ByteArray := prog_10_method_36_code
def yX8_mark : MethodName := ⟨RX8, "mark", "(II)Z"⟩
abbrev cX8_walk : ByteArray := prog_10_method_37_code
def yX8_walk : MethodName := ⟨RX8, "walk", "(III)I"⟩
abbrev cX8_lastTick : ByteArray := prog_10_method_38_code
def yX8_lastTick : MethodName := ⟨RX8, "lastTick", "()I"⟩
abbrev cX8_latest : ByteArray := prog_10_method_39_code
def yX8_latest : MethodName := ⟨RX8, "latest", "(II)I"⟩
abbrev cX8_isOut : ByteArray := prog_10_method_40_code
def yX8_isOut : MethodName := ⟨RX8, "isOut", "(I)Z"⟩
abbrev cX8_enter : ByteArray := prog_10_method_41_code
def yX8_enter : MethodName := ⟨RX8, "enter", "(III)V"⟩
abbrev cX8_fetch : ByteArray := prog_10_method_42_code
def yX8_fetch : MethodName := ⟨RX8, "fetch", "(III)Z"⟩
abbrev cX8_back : ByteArray := prog_10_method_43_code
def yX8_back : MethodName := ⟨RX8, "back", "(II)Z"⟩
abbrev cX8_where : ByteArray := prog_10_method_44_code
def yX8_where : MethodName := ⟨RX8, "where", "(II)I"⟩
abbrev cX8_boxed : ByteArray := prog_10_method_45_code
def yX8_boxed : MethodName := ⟨RX8, "boxed", "(II)I"⟩
abbrev cX8_stand : ByteArray := prog_10_method_46_code
def yX8_stand : MethodName := ⟨RX8, "stand", "(II)Z"⟩
abbrev cX8_goal : ByteArray := prog_10_method_47_code
def yX8_goal : MethodName := ⟨RX8, "goal", "(II)Z"⟩
abbrev cX8_isAway : ByteArray := prog_10_method_48_code
def yX8_isAway : MethodName := ⟨RX8, "isAway", "(I)Z"⟩
abbrev cX8_take : ByteArray := prog_10_method_49_code
def yX8_take : MethodName := ⟨RX8, "take", "(II)V"⟩
abbrev cX8_plans : ByteArray := prog_10_method_50_code
def yX8_plans : MethodName := ⟨RX8, "plans", "()Z"⟩
abbrev cX8_plan : ByteArray := prog_10_method_51_code
def yX8_plan : MethodName := ⟨RX8, "plan", "()I"⟩
abbrev cX8_carry : ByteArray := prog_10_method_52_code
def yX8_carry : MethodName := ⟨RX8, "carry", "(II)I"⟩
abbrev cX8_carried : ByteArray := prog_10_method_53_code
def yX8_carried : MethodName := ⟨RX8, "carried", "()Z"⟩
abbrev cX8_weightOf : ByteArray := prog_10_method_54_code
def yX8_weightOf : MethodName := ⟨RX8, "weightOf", "(II)J"⟩
abbrev cX8_costOf : ByteArray := prog_10_method_55_code
def yX8_costOf : MethodName := ⟨RX8, "costOf", "(II)J"⟩
abbrev cX8_search : ByteArray := prog_10_method_56_code
def yX8_search : MethodName := ⟨RX8, "search", "(III)I"⟩
abbrev cX8_upper : ByteArray := prog_10_method_57_code
def yX8_upper : MethodName := ⟨RX8, "upper", "()J"⟩
abbrev cX8_lower : ByteArray := prog_10_method_58_code
def yX8_lower : MethodName := ⟨RX8, "lower", "()J"⟩
def RJ9 : String := "java/lang/Math"
def TJ9 : u_T := fun k => match k with
  | _ => ("", "", "", false)
def tyJ9 : Nat → FieldType := fun k => match k with
  | _ => .int
abbrev wsJ90 : List Cond := u_ws RJ9 TJ9 0
theorem nmJ9 : ∀ a, a < 0 → ∀ b, b < 0 → a ≠ b → (TJ9 a).2.1 ≠ (TJ9 b).2.1 := by decide +kernel
theorem tyJ9_ok : ∀ k, k < 0 → parseFieldDescriptor (TJ9 k).2.2.1 = some (tyJ9 k) := by decide +kernel
abbrev cJ9_max_7cf53 : ByteArray := prog_11_method_65_code
def yJ9_max_7cf53 : MethodName := ⟨RJ9, "max", "(II)I"⟩
abbrev cJ9_min_7cf53 : ByteArray := prog_11_method_69_code
def yJ9_min_7cf53 : MethodName := ⟨RJ9, "min", "(II)I"⟩
def RJ10 : String := "java/lang/System"
def TJ10 : u_T := fun k => match k with
  | _ => ("", "", "", false)
def tyJ10 : Nat → FieldType := fun k => match k with
  | _ => .int
abbrev wsJ100 : List Cond := u_ws RJ10 TJ10 0
theorem nmJ10 : ∀ a, a < 0 → ∀ b, b < 0 → a ≠ b → (TJ10 a).2.1 ≠ (TJ10 b).2.1 := by decide +kernel
theorem tyJ10_ok : ∀ k, k < 0 → parseFieldDescriptor (TJ10 k).2.2.1 = some (tyJ10 k) := by decide +kernel
def RJ7 : String := "java/util/Arrays"
def TJ7 : u_T := fun k => match k with
  | _ => ("", "", "", false)
def tyJ7 : Nat → FieldType := fun k => match k with
  | _ => .int
abbrev wsJ70 : List Cond := u_ws RJ7 TJ7 0
theorem nmJ7 : ∀ a, a < 0 → ∀ b, b < 0 → a ≠ b → (TJ7 a).2.1 ≠ (TJ7 b).2.1 := by decide +kernel
theorem tyJ7_ok : ∀ k, k < 0 → parseFieldDescriptor (TJ7 k).2.2.1 = some (tyJ7 k) := by decide +kernel
abbrev cJ7_fill_d0a16 : ByteArray := prog_13_method_101_code
def yJ7_fill_d0a16 : MethodName := ⟨RJ7, "fill", "([JJ)V"⟩
abbrev cJ7_fill_53178 : ByteArray := prog_13_method_103_code
def yJ7_fill_53178 : MethodName := ⟨RJ7, "fill", "([II)V"⟩
def RL : String := "BoxArchiveLaw"
abbrev cL_law : ByteArray := code
def yL_law : MethodName := ⟨RL, "law", "([I)Z"⟩
abbrev vwCl : List vw_C := [(RX0, TX0, 4), (RX1, TX1, 2), (RX2, TX2, 4), (RX3, TX3, 4), (RX4, TX4, 7), (RX5, TX5, 11), (RX6, TX6, 3), (RX7, TX7, 8), (RX8, TX8, 33)]
def uw : List Cond := lw_tbl.filter goodWord
theorem uw_in (i : Nat) {w : Cond} (h : (decide (lw_tbl[i]? = some w) && goodWord w) = true) : w ∈ uw := by
  simp only [Bool.and_eq_true, decide_eq_true_eq] at h
  exact List.mem_filter.mpr ⟨List.mem_of_getElem? h.1, h.2⟩
theorem uw_ins {ws : List Cond} (ps : List Nat) (hp : ws = ps.filterMap (fun i => lw_tbl[i]?)) (h : ws.all goodWord = true) : ∀ w ∈ ws, w ∈ uw := by
  intro w hw
  have h1 := List.all_eq_true.mp h w hw
  rw [hp] at hw
  obtain ⟨i, -, hi⟩ := List.mem_filterMap.mp hw
  exact List.mem_filter.mpr ⟨List.mem_of_getElem? hi, h1⟩
theorem uw_good : ∀ w ∈ uw, (w.onTables && w.keeps) = true ∨ ∃ ty, w = .arrayClass ty := fun w h => good_of_word (List.mem_filter.mp h).2
theorem uw_tbl {args : Array Value} {s : State} (h : ∀ w ∈ lw_tbl, w.before args s = true) : ∀ w ∈ uw, w.before args s = true := fun w hw => h w (List.mem_filter.mp hw).1
theorem uw_of {y : MethodName} {b : ByteArray} {n : Nat} {r : Option FieldType} (hc : Cond.code y b n r ∈ uw) : GoodIn uw (Cond.code y b n r :: uw) := by
  intro w hw
  rcases List.mem_cons.mp hw with rfl | h
  · exact ⟨hc, uw_good _ hc⟩
  · exact ⟨h, uw_good _ h⟩
end
section
theorem dX0_init_0 : decode cX0_init 0 = .ok (.aload_n 0, 1) := by decide +kernel
theorem dX0_init_1 : decode cX0_init 1 = .ok (.invokespecial 3, 3) := by decide +kernel
theorem dX0_init_4 : decode cX0_init 4 = .ok (.aload_n 0, 1) := by decide +kernel
theorem dX0_init_5 : decode cX0_init 5 = .ok (.bipush 80, 2) := by decide +kernel
theorem dX0_init_7 : decode cX0_init 7 = .ok (.anewarray 9, 3) := by decide +kernel
theorem dX0_init_10 : decode cX0_init 10 = .ok (.putfield 11, 3) := by decide +kernel
theorem dX0_init_13 : decode cX0_init 13 = .ok (.aload_n 0, 1) := by decide +kernel
theorem dX0_init_14 : decode cX0_init 14 = .ok (.iconst 0, 1) := by decide +kernel
theorem dX0_init_15 : decode cX0_init 15 = .ok (.putfield 17, 3) := by decide +kernel
theorem dX0_init_18 : decode cX0_init 18 = .ok (.aload_n 0, 1) := by decide +kernel
theorem dX0_init_19 : decode cX0_init 19 = .ok (.bipush 80, 2) := by decide +kernel
theorem dX0_init_21 : decode cX0_init 21 = .ok (.anewarray 9, 3) := by decide +kernel
theorem dX0_init_24 : decode cX0_init 24 = .ok (.putfield 21, 3) := by decide +kernel
theorem dX0_init_27 : decode cX0_init 27 = .ok (.aload_n 0, 1) := by decide +kernel
theorem dX0_init_28 : decode cX0_init 28 = .ok (.bipush 80, 2) := by decide +kernel
theorem dX0_init_30 : decode cX0_init 30 = .ok (.newarray .boolean, 2) := by decide +kernel
theorem dX0_init_32 : decode cX0_init 32 = .ok (.putfield 24, 3) := by decide +kernel
theorem dX0_init_35 : decode cX0_init 35 = .ok (.return_, 1) := by decide +kernel
theorem dX0_at_0 : decode cX0_at 0 = .ok (.iload_n 1, 1) := by decide +kernel
theorem dX0_at_1 : decode cX0_at 1 = .ok (.ifCond .lt 20, 3) := by decide +kernel
theorem dX0_at_4 : decode cX0_at 4 = .ok (.iload_n 1, 1) := by decide +kernel
theorem dX0_at_5 : decode cX0_at 5 = .ok (.aload_n 0, 1) := by decide +kernel
theorem dX0_at_6 : decode cX0_at 6 = .ok (.getfield 17, 3) := by decide +kernel
theorem dX0_at_9 : decode cX0_at 9 = .ok (.if_icmp .ge 12, 3) := by decide +kernel
theorem dX0_at_12 : decode cX0_at 12 = .ok (.aload_n 0, 1) := by decide +kernel
theorem dX0_at_13 : decode cX0_at 13 = .ok (.getfield 11, 3) := by decide +kernel
theorem dX0_at_16 : decode cX0_at 16 = .ok (.iload_n 1, 1) := by decide +kernel
theorem dX0_at_17 : decode cX0_at 17 = .ok (.aaload, 1) := by decide +kernel
theorem dX0_at_18 : decode cX0_at 18 = .ok (.goto 4, 3) := by decide +kernel
theorem dX0_at_21 : decode cX0_at 21 = .ok (.aconst_null, 1) := by decide +kernel
theorem dX0_at_22 : decode cX0_at 22 = .ok (.areturn, 1) := by decide +kernel
theorem dX0_add_0 : decode cX0_add 0 = .ok (.aload_n 0, 1) := by decide +kernel
theorem dX0_add_1 : decode cX0_add 1 = .ok (.getfield 17, 3) := by decide +kernel
theorem dX0_add_4 : decode cX0_add 4 = .ok (.istore_n 3, 1) := by decide +kernel
theorem dX0_add_5 : decode cX0_add 5 = .ok (.iload_n 3, 1) := by decide +kernel
theorem dX0_add_6 : decode cX0_add 6 = .ok (.bipush 80, 2) := by decide +kernel
theorem dX0_add_8 : decode cX0_add 8 = .ok (.if_icmp .lt 5, 3) := by decide +kernel
theorem dX0_add_11 : decode cX0_add 11 = .ok (.iconst (-1), 1) := by decide +kernel
theorem dX0_add_12 : decode cX0_add 12 = .ok (.ireturn, 1) := by decide +kernel
theorem dX0_add_13 : decode cX0_add 13 = .ok (.aload_n 0, 1) := by decide +kernel
theorem dX0_add_14 : decode cX0_add 14 = .ok (.getfield 11, 3) := by decide +kernel
theorem dX0_add_17 : decode cX0_add 17 = .ok (.iload_n 3, 1) := by decide +kernel
theorem dX0_add_18 : decode cX0_add 18 = .ok (.new 9, 3) := by decide +kernel
theorem dX0_add_21 : decode cX0_add 21 = .ok (.dup, 1) := by decide +kernel
theorem dX0_add_22 : decode cX0_add 22 = .ok (.iload_n 3, 1) := by decide +kernel
theorem dX0_add_23 : decode cX0_add 23 = .ok (.iload_n 1, 1) := by decide +kernel
theorem dX0_add_24 : decode cX0_add 24 = .ok (.aload_n 2, 1) := by decide +kernel
theorem dX0_add_25 : decode cX0_add 25 = .ok (.invokespecial 28, 3) := by decide +kernel
theorem dX0_add_28 : decode cX0_add 28 = .ok (.aastore, 1) := by decide +kernel
theorem dX0_add_29 : decode cX0_add 29 = .ok (.aload_n 0, 1) := by decide +kernel
theorem dX0_add_30 : decode cX0_add 30 = .ok (.iload_n 3, 1) := by decide +kernel
theorem dX0_add_31 : decode cX0_add 31 = .ok (.iconst 1, 1) := by decide +kernel
theorem dX0_add_32 : decode cX0_add 32 = .ok (.iadd, 1) := by decide +kernel
theorem dX0_add_33 : decode cX0_add 33 = .ok (.putfield 17, 3) := by decide +kernel
theorem dX0_add_36 : decode cX0_add 36 = .ok (.iload_n 3, 1) := by decide +kernel
theorem dX0_add_37 : decode cX0_add 37 = .ok (.ireturn, 1) := by decide +kernel
theorem dX0_rightIn_0 : decode cX0_rightIn 0 = .ok (.iconst 0, 1) := by decide +kernel
theorem dX0_rightIn_1 : decode cX0_rightIn 1 = .ok (.istore_n 2, 1) := by decide +kernel
theorem dX0_rightIn_2 : decode cX0_rightIn 2 = .ok (.iconst 0, 1) := by decide +kernel
theorem dX0_rightIn_3 : decode cX0_rightIn 3 = .ok (.istore_n 3, 1) := by decide +kernel
theorem dX0_rightIn_4 : decode cX0_rightIn 4 = .ok (.iload_n 3, 1) := by decide +kernel
theorem dX0_rightIn_5 : decode cX0_rightIn 5 = .ok (.aload_n 0, 1) := by decide +kernel
theorem dX0_rightIn_6 : decode cX0_rightIn 6 = .ok (.getfield 17, 3) := by decide +kernel
theorem dX0_rightIn_9 : decode cX0_rightIn 9 = .ok (.if_icmp .ge 25, 3) := by decide +kernel
theorem dX0_rightIn_12 : decode cX0_rightIn 12 = .ok (.aload_n 0, 1) := by decide +kernel
theorem dX0_rightIn_13 : decode cX0_rightIn 13 = .ok (.getfield 11, 3) := by decide +kernel
theorem dX0_rightIn_16 : decode cX0_rightIn 16 = .ok (.iload_n 3, 1) := by decide +kernel
theorem dX0_rightIn_17 : decode cX0_rightIn 17 = .ok (.aaload, 1) := by decide +kernel
theorem dX0_rightIn_18 : decode cX0_rightIn 18 = .ok (.getfield 31, 3) := by decide +kernel
theorem dX0_rightIn_21 : decode cX0_rightIn 21 = .ok (.aload_n 1, 1) := by decide +kernel
theorem dX0_rightIn_22 : decode cX0_rightIn 22 = .ok (.if_acmp .ne 6, 3) := by decide +kernel
theorem dX0_rightIn_25 : decode cX0_rightIn 25 = .ok (.iinc 2 1, 3) := by decide +kernel
theorem dX0_rightIn_28 : decode cX0_rightIn 28 = .ok (.iinc 3 1, 3) := by decide +kernel
theorem dX0_rightIn_31 : decode cX0_rightIn 31 = .ok (.goto (-27), 3) := by decide +kernel
theorem dX0_rightIn_34 : decode cX0_rightIn 34 = .ok (.iload_n 2, 1) := by decide +kernel
theorem dX0_rightIn_35 : decode cX0_rightIn 35 = .ok (.ireturn, 1) := by decide +kernel
theorem dX0_heldDay_0 : decode cX0_heldDay 0 = .ok (.aload_n 1, 1) := by decide +kernel
theorem dX0_heldDay_1 : decode cX0_heldDay 1 = .ok (.invokevirtual 35, 3) := by decide +kernel
theorem dX0_heldDay_4 : decode cX0_heldDay 4 = .ok (.ifCond .eq 19, 3) := by decide +kernel
theorem dX0_heldDay_7 : decode cX0_heldDay 7 = .ok (.iload_n 2, 1) := by decide +kernel
theorem dX0_heldDay_8 : decode cX0_heldDay 8 = .ok (.ifCond .eq 10, 3) := by decide +kernel
theorem dX0_heldDay_11 : decode cX0_heldDay 11 = .ok (.aload_n 1, 1) := by decide +kernel
theorem dX0_heldDay_12 : decode cX0_heldDay 12 = .ok (.getfield 39, 3) := by decide +kernel
theorem dX0_heldDay_15 : decode cX0_heldDay 15 = .ok (.goto 7, 3) := by decide +kernel
theorem dX0_heldDay_18 : decode cX0_heldDay 18 = .ok (.aload_n 1, 1) := by decide +kernel
theorem dX0_heldDay_19 : decode cX0_heldDay 19 = .ok (.getfield 42, 3) := by decide +kernel
theorem dX0_heldDay_22 : decode cX0_heldDay 22 = .ok (.ireturn, 1) := by decide +kernel
theorem dX0_heldDay_23 : decode cX0_heldDay 23 = .ok (.iconst (-1), 1) := by decide +kernel
theorem dX0_heldDay_24 : decode cX0_heldDay 24 = .ok (.istore_n 3, 1) := by decide +kernel
theorem dX0_heldDay_25 : decode cX0_heldDay 25 = .ok (.iconst 0, 1) := by decide +kernel
theorem dX0_heldDay_26 : decode cX0_heldDay 26 = .ok (.istore 4, 2) := by decide +kernel
theorem dX0_heldDay_28 : decode cX0_heldDay 28 = .ok (.iload 4, 2) := by decide +kernel
theorem dX0_heldDay_30 : decode cX0_heldDay 30 = .ok (.aload_n 0, 1) := by decide +kernel
theorem dX0_heldDay_31 : decode cX0_heldDay 31 = .ok (.getfield 17, 3) := by decide +kernel
theorem dX0_heldDay_34 : decode cX0_heldDay 34 = .ok (.if_icmp .ge 53, 3) := by decide +kernel
theorem dX0_heldDay_37 : decode cX0_heldDay 37 = .ok (.aload_n 0, 1) := by decide +kernel
theorem dX0_heldDay_38 : decode cX0_heldDay 38 = .ok (.getfield 11, 3) := by decide +kernel
theorem dX0_heldDay_41 : decode cX0_heldDay 41 = .ok (.iload 4, 2) := by decide +kernel
theorem dX0_heldDay_43 : decode cX0_heldDay 43 = .ok (.aaload, 1) := by decide +kernel
theorem dX0_heldDay_44 : decode cX0_heldDay 44 = .ok (.astore 5, 2) := by decide +kernel
theorem dX0_heldDay_46 : decode cX0_heldDay 46 = .ok (.aload 5, 2) := by decide +kernel
theorem dX0_heldDay_48 : decode cX0_heldDay 48 = .ok (.aload_n 1, 1) := by decide +kernel
theorem dX0_heldDay_49 : decode cX0_heldDay 49 = .ok (.invokevirtual 45, 3) := by decide +kernel
theorem dX0_heldDay_52 : decode cX0_heldDay 52 = .ok (.ifCond .eq 29, 3) := by decide +kernel
theorem dX0_heldDay_55 : decode cX0_heldDay 55 = .ok (.iload_n 2, 1) := by decide +kernel
theorem dX0_heldDay_56 : decode cX0_heldDay 56 = .ok (.ifCond .eq 15, 3) := by decide +kernel
theorem dX0_heldDay_59 : decode cX0_heldDay 59 = .ok (.iload_n 3, 1) := by decide +kernel
theorem dX0_heldDay_60 : decode cX0_heldDay 60 = .ok (.aload 5, 2) := by decide +kernel
theorem dX0_heldDay_62 : decode cX0_heldDay 62 = .ok (.getfield 39, 3) := by decide +kernel
theorem dX0_heldDay_65 : decode cX0_heldDay 65 = .ok (.invokestatic 49, 3) := by decide +kernel
theorem dX0_heldDay_68 : decode cX0_heldDay 68 = .ok (.goto 12, 3) := by decide +kernel
theorem dX0_heldDay_71 : decode cX0_heldDay 71 = .ok (.iload_n 3, 1) := by decide +kernel
theorem dX0_heldDay_72 : decode cX0_heldDay 72 = .ok (.aload 5, 2) := by decide +kernel
theorem dX0_heldDay_74 : decode cX0_heldDay 74 = .ok (.getfield 42, 3) := by decide +kernel
theorem dX0_heldDay_77 : decode cX0_heldDay 77 = .ok (.invokestatic 55, 3) := by decide +kernel
theorem dX0_heldDay_80 : decode cX0_heldDay 80 = .ok (.istore_n 3, 1) := by decide +kernel
theorem dX0_heldDay_81 : decode cX0_heldDay 81 = .ok (.iinc 4 1, 3) := by decide +kernel
theorem dX0_heldDay_84 : decode cX0_heldDay 84 = .ok (.goto (-56), 3) := by decide +kernel
theorem dX0_heldDay_87 : decode cX0_heldDay 87 = .ok (.iload_n 3, 1) := by decide +kernel
theorem dX0_heldDay_88 : decode cX0_heldDay 88 = .ok (.ireturn, 1) := by decide +kernel
theorem dX0_earlier_0 : decode cX0_earlier 0 = .ok (.iload_n 0, 1) := by decide +kernel
theorem dX0_earlier_1 : decode cX0_earlier 1 = .ok (.iconst (-1), 1) := by decide +kernel
theorem dX0_earlier_2 : decode cX0_earlier 2 = .ok (.if_icmp .ne 7, 3) := by decide +kernel
theorem dX0_earlier_5 : decode cX0_earlier 5 = .ok (.iload_n 1, 1) := by decide +kernel
theorem dX0_earlier_6 : decode cX0_earlier 6 = .ok (.goto 8, 3) := by decide +kernel
theorem dX0_earlier_9 : decode cX0_earlier 9 = .ok (.iload_n 0, 1) := by decide +kernel
theorem dX0_earlier_10 : decode cX0_earlier 10 = .ok (.iload_n 1, 1) := by decide +kernel
theorem dX0_earlier_11 : decode cX0_earlier 11 = .ok (.invokestatic 58, 3) := by decide +kernel
theorem dX0_earlier_14 : decode cX0_earlier 14 = .ok (.ireturn, 1) := by decide +kernel
theorem dX0_quarrelling_0 : decode cX0_quarrelling 0 = .ok (.iload_n 1, 1) := by decide +kernel
theorem dX0_quarrelling_1 : decode cX0_quarrelling 1 = .ok (.istore_n 2, 1) := by decide +kernel
theorem dX0_quarrelling_2 : decode cX0_quarrelling 2 = .ok (.iconst 0, 1) := by decide +kernel
theorem dX0_quarrelling_3 : decode cX0_quarrelling 3 = .ok (.istore_n 3, 1) := by decide +kernel
theorem dX0_quarrelling_4 : decode cX0_quarrelling 4 = .ok (.iload_n 3, 1) := by decide +kernel
theorem dX0_quarrelling_5 : decode cX0_quarrelling 5 = .ok (.aload_n 0, 1) := by decide +kernel
theorem dX0_quarrelling_6 : decode cX0_quarrelling 6 = .ok (.getfield 17, 3) := by decide +kernel
theorem dX0_quarrelling_9 : decode cX0_quarrelling 9 = .ok (.if_icmp .ge 30, 3) := by decide +kernel
theorem dX0_quarrelling_12 : decode cX0_quarrelling 12 = .ok (.aload_n 0, 1) := by decide +kernel
theorem dX0_quarrelling_13 : decode cX0_quarrelling 13 = .ok (.getfield 11, 3) := by decide +kernel
theorem dX0_quarrelling_16 : decode cX0_quarrelling 16 = .ok (.iload_n 3, 1) := by decide +kernel
theorem dX0_quarrelling_17 : decode cX0_quarrelling 17 = .ok (.aaload, 1) := by decide +kernel
theorem dX0_quarrelling_18 : decode cX0_quarrelling 18 = .ok (.invokevirtual 61, 3) := by decide +kernel
theorem dX0_quarrelling_21 : decode cX0_quarrelling 21 = .ok (.ifCond .eq 12, 3) := by decide +kernel
theorem dX0_quarrelling_24 : decode cX0_quarrelling 24 = .ok (.iload_n 2, 1) := by decide +kernel
theorem dX0_quarrelling_25 : decode cX0_quarrelling 25 = .ok (.ifCond .ne 5, 3) := by decide +kernel
theorem dX0_quarrelling_28 : decode cX0_quarrelling 28 = .ok (.iload_n 3, 1) := by decide +kernel
theorem dX0_quarrelling_29 : decode cX0_quarrelling 29 = .ok (.ireturn, 1) := by decide +kernel
theorem dX0_quarrelling_30 : decode cX0_quarrelling 30 = .ok (.iinc 2 (-1), 3) := by decide +kernel
theorem dX0_quarrelling_33 : decode cX0_quarrelling 33 = .ok (.iinc 3 1, 3) := by decide +kernel
theorem dX0_quarrelling_36 : decode cX0_quarrelling 36 = .ok (.goto (-32), 3) := by decide +kernel
theorem dX0_quarrelling_39 : decode cX0_quarrelling 39 = .ok (.iconst (-1), 1) := by decide +kernel
theorem dX0_quarrelling_40 : decode cX0_quarrelling 40 = .ok (.ireturn, 1) := by decide +kernel
theorem dX0_unite_0 : decode cX0_unite 0 = .ok (.iconst 0, 1) := by decide +kernel
theorem dX0_unite_1 : decode cX0_unite 1 = .ok (.istore_n 3, 1) := by decide +kernel
theorem dX0_unite_2 : decode cX0_unite 2 = .ok (.iload_n 3, 1) := by decide +kernel
theorem dX0_unite_3 : decode cX0_unite 3 = .ok (.aload_n 0, 1) := by decide +kernel
theorem dX0_unite_4 : decode cX0_unite 4 = .ok (.getfield 17, 3) := by decide +kernel
theorem dX0_unite_7 : decode cX0_unite 7 = .ok (.if_icmp .ge 32, 3) := by decide +kernel
theorem dX0_unite_10 : decode cX0_unite 10 = .ok (.aload_n 0, 1) := by decide +kernel
theorem dX0_unite_11 : decode cX0_unite 11 = .ok (.getfield 11, 3) := by decide +kernel
theorem dX0_unite_14 : decode cX0_unite 14 = .ok (.iload_n 3, 1) := by decide +kernel
theorem dX0_unite_15 : decode cX0_unite 15 = .ok (.aaload, 1) := by decide +kernel
theorem dX0_unite_16 : decode cX0_unite 16 = .ok (.getfield 64, 3) := by decide +kernel
theorem dX0_unite_19 : decode cX0_unite 19 = .ok (.iload_n 2, 1) := by decide +kernel
theorem dX0_unite_20 : decode cX0_unite 20 = .ok (.if_icmp .ne 13, 3) := by decide +kernel
theorem dX0_unite_23 : decode cX0_unite 23 = .ok (.aload_n 0, 1) := by decide +kernel
theorem dX0_unite_24 : decode cX0_unite 24 = .ok (.getfield 11, 3) := by decide +kernel
theorem dX0_unite_27 : decode cX0_unite 27 = .ok (.iload_n 3, 1) := by decide +kernel
theorem dX0_unite_28 : decode cX0_unite 28 = .ok (.aaload, 1) := by decide +kernel
theorem dX0_unite_29 : decode cX0_unite 29 = .ok (.iload_n 1, 1) := by decide +kernel
theorem dX0_unite_30 : decode cX0_unite 30 = .ok (.putfield 64, 3) := by decide +kernel
theorem dX0_unite_33 : decode cX0_unite 33 = .ok (.iinc 3 1, 3) := by decide +kernel
theorem dX0_unite_36 : decode cX0_unite 36 = .ok (.goto (-34), 3) := by decide +kernel
theorem dX0_unite_39 : decode cX0_unite 39 = .ok (.return_, 1) := by decide +kernel
theorem dX0_partsSeen_0 : decode cX0_partsSeen 0 = .ok (.iconst 0, 1) := by decide +kernel
theorem dX0_partsSeen_1 : decode cX0_partsSeen 1 = .ok (.istore 5, 2) := by decide +kernel
theorem dX0_partsSeen_3 : decode cX0_partsSeen 3 = .ok (.iconst 0, 1) := by decide +kernel
theorem dX0_partsSeen_4 : decode cX0_partsSeen 4 = .ok (.istore 6, 2) := by decide +kernel
theorem dX0_partsSeen_6 : decode cX0_partsSeen 6 = .ok (.iload 6, 2) := by decide +kernel
theorem dX0_partsSeen_8 : decode cX0_partsSeen 8 = .ok (.aload_n 0, 1) := by decide +kernel
theorem dX0_partsSeen_9 : decode cX0_partsSeen 9 = .ok (.getfield 17, 3) := by decide +kernel
theorem dX0_partsSeen_12 : decode cX0_partsSeen 12 = .ok (.if_icmp .ge 30, 3) := by decide +kernel
theorem dX0_partsSeen_15 : decode cX0_partsSeen 15 = .ok (.aload_n 0, 1) := by decide +kernel
theorem dX0_partsSeen_16 : decode cX0_partsSeen 16 = .ok (.getfield 11, 3) := by decide +kernel
theorem dX0_partsSeen_19 : decode cX0_partsSeen 19 = .ok (.iload 6, 2) := by decide +kernel
theorem dX0_partsSeen_21 : decode cX0_partsSeen 21 = .ok (.aaload, 1) := by decide +kernel
theorem dX0_partsSeen_22 : decode cX0_partsSeen 22 = .ok (.aload_n 1, 1) := by decide +kernel
theorem dX0_partsSeen_23 : decode cX0_partsSeen 23 = .ok (.iload_n 2, 1) := by decide +kernel
theorem dX0_partsSeen_24 : decode cX0_partsSeen 24 = .ok (.iload_n 3, 1) := by decide +kernel
theorem dX0_partsSeen_25 : decode cX0_partsSeen 25 = .ok (.iload 4, 2) := by decide +kernel
theorem dX0_partsSeen_27 : decode cX0_partsSeen 27 = .ok (.invokestatic 67, 3) := by decide +kernel
theorem dX0_partsSeen_30 : decode cX0_partsSeen 30 = .ok (.ifCond .eq 6, 3) := by decide +kernel
theorem dX0_partsSeen_33 : decode cX0_partsSeen 33 = .ok (.iinc 5 1, 3) := by decide +kernel
theorem dX0_partsSeen_36 : decode cX0_partsSeen 36 = .ok (.iinc 6 1, 3) := by decide +kernel
theorem dX0_partsSeen_39 : decode cX0_partsSeen 39 = .ok (.goto (-33), 3) := by decide +kernel
theorem dX0_partsSeen_42 : decode cX0_partsSeen 42 = .ok (.iload 5, 2) := by decide +kernel
theorem dX0_partsSeen_44 : decode cX0_partsSeen 44 = .ok (.ireturn, 1) := by decide +kernel
theorem dX0_piecesSeen_0 : decode cX0_piecesSeen 0 = .ok (.iconst 0, 1) := by decide +kernel
theorem dX0_piecesSeen_1 : decode cX0_piecesSeen 1 = .ok (.istore 4, 2) := by decide +kernel
theorem dX0_piecesSeen_3 : decode cX0_piecesSeen 3 = .ok (.iload 4, 2) := by decide +kernel
theorem dX0_piecesSeen_5 : decode cX0_piecesSeen 5 = .ok (.aload_n 0, 1) := by decide +kernel
theorem dX0_piecesSeen_6 : decode cX0_piecesSeen 6 = .ok (.getfield 17, 3) := by decide +kernel
theorem dX0_piecesSeen_9 : decode cX0_piecesSeen 9 = .ok (.if_icmp .ge 17, 3) := by decide +kernel
theorem dX0_piecesSeen_12 : decode cX0_piecesSeen 12 = .ok (.aload_n 0, 1) := by decide +kernel
theorem dX0_piecesSeen_13 : decode cX0_piecesSeen 13 = .ok (.getfield 24, 3) := by decide +kernel
theorem dX0_piecesSeen_16 : decode cX0_piecesSeen 16 = .ok (.iload 4, 2) := by decide +kernel
theorem dX0_piecesSeen_18 : decode cX0_piecesSeen 18 = .ok (.iconst 0, 1) := by decide +kernel
theorem dX0_piecesSeen_19 : decode cX0_piecesSeen 19 = .ok (.bastore, 1) := by decide +kernel
theorem dX0_piecesSeen_20 : decode cX0_piecesSeen 20 = .ok (.iinc 4 1, 3) := by decide +kernel
theorem dX0_piecesSeen_23 : decode cX0_piecesSeen 23 = .ok (.goto (-20), 3) := by decide +kernel
theorem dX0_piecesSeen_26 : decode cX0_piecesSeen 26 = .ok (.iconst 0, 1) := by decide +kernel
theorem dX0_piecesSeen_27 : decode cX0_piecesSeen 27 = .ok (.istore 4, 2) := by decide +kernel
theorem dX0_piecesSeen_29 : decode cX0_piecesSeen 29 = .ok (.iconst 0, 1) := by decide +kernel
theorem dX0_piecesSeen_30 : decode cX0_piecesSeen 30 = .ok (.istore 5, 2) := by decide +kernel
theorem dX0_piecesSeen_32 : decode cX0_piecesSeen 32 = .ok (.iload 5, 2) := by decide +kernel
theorem dX0_piecesSeen_34 : decode cX0_piecesSeen 34 = .ok (.aload_n 0, 1) := by decide +kernel
theorem dX0_piecesSeen_35 : decode cX0_piecesSeen 35 = .ok (.getfield 17, 3) := by decide +kernel
theorem dX0_piecesSeen_38 : decode cX0_piecesSeen 38 = .ok (.if_icmp .ge 57, 3) := by decide +kernel
theorem dX0_piecesSeen_41 : decode cX0_piecesSeen 41 = .ok (.aload_n 0, 1) := by decide +kernel
theorem dX0_piecesSeen_42 : decode cX0_piecesSeen 42 = .ok (.getfield 11, 3) := by decide +kernel
theorem dX0_piecesSeen_45 : decode cX0_piecesSeen 45 = .ok (.iload 5, 2) := by decide +kernel
theorem dX0_piecesSeen_47 : decode cX0_piecesSeen 47 = .ok (.aaload, 1) := by decide +kernel
theorem dX0_piecesSeen_48 : decode cX0_piecesSeen 48 = .ok (.astore 6, 2) := by decide +kernel
theorem dX0_piecesSeen_50 : decode cX0_piecesSeen 50 = .ok (.aload 6, 2) := by decide +kernel
theorem dX0_piecesSeen_52 : decode cX0_piecesSeen 52 = .ok (.aload_n 1, 1) := by decide +kernel
theorem dX0_piecesSeen_53 : decode cX0_piecesSeen 53 = .ok (.iconst 3, 1) := by decide +kernel
theorem dX0_piecesSeen_54 : decode cX0_piecesSeen 54 = .ok (.iload_n 2, 1) := by decide +kernel
theorem dX0_piecesSeen_55 : decode cX0_piecesSeen 55 = .ok (.iload_n 3, 1) := by decide +kernel
theorem dX0_piecesSeen_56 : decode cX0_piecesSeen 56 = .ok (.invokestatic 67, 3) := by decide +kernel
theorem dX0_piecesSeen_59 : decode cX0_piecesSeen 59 = .ok (.ifCond .eq 30, 3) := by decide +kernel
theorem dX0_piecesSeen_62 : decode cX0_piecesSeen 62 = .ok (.aload_n 0, 1) := by decide +kernel
theorem dX0_piecesSeen_63 : decode cX0_piecesSeen 63 = .ok (.getfield 24, 3) := by decide +kernel
theorem dX0_piecesSeen_66 : decode cX0_piecesSeen 66 = .ok (.aload 6, 2) := by decide +kernel
theorem dX0_piecesSeen_68 : decode cX0_piecesSeen 68 = .ok (.getfield 64, 3) := by decide +kernel
theorem dX0_piecesSeen_71 : decode cX0_piecesSeen 71 = .ok (.baload, 1) := by decide +kernel
theorem dX0_piecesSeen_72 : decode cX0_piecesSeen 72 = .ok (.ifCond .ne 17, 3) := by decide +kernel
theorem dX0_piecesSeen_75 : decode cX0_piecesSeen 75 = .ok (.aload_n 0, 1) := by decide +kernel
theorem dX0_piecesSeen_76 : decode cX0_piecesSeen 76 = .ok (.getfield 24, 3) := by decide +kernel
theorem dX0_piecesSeen_79 : decode cX0_piecesSeen 79 = .ok (.aload 6, 2) := by decide +kernel
theorem dX0_piecesSeen_81 : decode cX0_piecesSeen 81 = .ok (.getfield 64, 3) := by decide +kernel
theorem dX0_piecesSeen_84 : decode cX0_piecesSeen 84 = .ok (.iconst 1, 1) := by decide +kernel
theorem dX0_piecesSeen_85 : decode cX0_piecesSeen 85 = .ok (.bastore, 1) := by decide +kernel
theorem dX0_piecesSeen_86 : decode cX0_piecesSeen 86 = .ok (.iinc 4 1, 3) := by decide +kernel
theorem dX0_piecesSeen_89 : decode cX0_piecesSeen 89 = .ok (.iinc 5 1, 3) := by decide +kernel
theorem dX0_piecesSeen_92 : decode cX0_piecesSeen 92 = .ok (.goto (-60), 3) := by decide +kernel
theorem dX0_piecesSeen_95 : decode cX0_piecesSeen 95 = .ok (.iload 4, 2) := by decide +kernel
theorem dX0_piecesSeen_97 : decode cX0_piecesSeen 97 = .ok (.ireturn, 1) := by decide +kernel
theorem dX0_uncataloguedSeen_0 : decode cX0_uncataloguedSeen 0 = .ok (.iconst 0, 1) := by decide +kernel
theorem dX0_uncataloguedSeen_1 : decode cX0_uncataloguedSeen 1 = .ok (.istore 4, 2) := by decide +kernel
theorem dX0_uncataloguedSeen_3 : decode cX0_uncataloguedSeen 3 = .ok (.iconst 0, 1) := by decide +kernel
theorem dX0_uncataloguedSeen_4 : decode cX0_uncataloguedSeen 4 = .ok (.istore 5, 2) := by decide +kernel
theorem dX0_uncataloguedSeen_6 : decode cX0_uncataloguedSeen 6 = .ok (.iload 5, 2) := by decide +kernel
theorem dX0_uncataloguedSeen_8 : decode cX0_uncataloguedSeen 8 = .ok (.aload_n 0, 1) := by decide +kernel
theorem dX0_uncataloguedSeen_9 : decode cX0_uncataloguedSeen 9 = .ok (.getfield 17, 3) := by decide +kernel
theorem dX0_uncataloguedSeen_12 : decode cX0_uncataloguedSeen 12 = .ok (.if_icmp .ge 49, 3) := by decide +kernel
theorem dX0_uncataloguedSeen_15 : decode cX0_uncataloguedSeen 15 = .ok (.aload_n 0, 1) := by decide +kernel
theorem dX0_uncataloguedSeen_16 : decode cX0_uncataloguedSeen 16 = .ok (.getfield 11, 3) := by decide +kernel
theorem dX0_uncataloguedSeen_19 : decode cX0_uncataloguedSeen 19 = .ok (.iload 5, 2) := by decide +kernel
theorem dX0_uncataloguedSeen_21 : decode cX0_uncataloguedSeen 21 = .ok (.aaload, 1) := by decide +kernel
theorem dX0_uncataloguedSeen_22 : decode cX0_uncataloguedSeen 22 = .ok (.astore 6, 2) := by decide +kernel
theorem dX0_uncataloguedSeen_24 : decode cX0_uncataloguedSeen 24 = .ok (.aload 6, 2) := by decide +kernel
theorem dX0_uncataloguedSeen_26 : decode cX0_uncataloguedSeen 26 = .ok (.getfield 71, 3) := by decide +kernel
theorem dX0_uncataloguedSeen_29 : decode cX0_uncataloguedSeen 29 = .ok (.iconst (-1), 1) := by decide +kernel
theorem dX0_uncataloguedSeen_30 : decode cX0_uncataloguedSeen 30 = .ok (.if_icmp .eq 25, 3) := by decide +kernel
theorem dX0_uncataloguedSeen_33 : decode cX0_uncataloguedSeen 33 = .ok (.aload 6, 2) := by decide +kernel
theorem dX0_uncataloguedSeen_35 : decode cX0_uncataloguedSeen 35 = .ok (.aload_n 1, 1) := by decide +kernel
theorem dX0_uncataloguedSeen_36 : decode cX0_uncataloguedSeen 36 = .ok (.iconst 2, 1) := by decide +kernel
theorem dX0_uncataloguedSeen_37 : decode cX0_uncataloguedSeen 37 = .ok (.iload_n 2, 1) := by decide +kernel
theorem dX0_uncataloguedSeen_38 : decode cX0_uncataloguedSeen 38 = .ok (.iload_n 3, 1) := by decide +kernel
theorem dX0_uncataloguedSeen_39 : decode cX0_uncataloguedSeen 39 = .ok (.invokestatic 67, 3) := by decide +kernel
theorem dX0_uncataloguedSeen_42 : decode cX0_uncataloguedSeen 42 = .ok (.ifCond .eq 13, 3) := by decide +kernel
theorem dX0_uncataloguedSeen_45 : decode cX0_uncataloguedSeen 45 = .ok (.iload 4, 2) := by decide +kernel
theorem dX0_uncataloguedSeen_47 : decode cX0_uncataloguedSeen 47 = .ok (.aload 6, 2) := by decide +kernel
theorem dX0_uncataloguedSeen_49 : decode cX0_uncataloguedSeen 49 = .ok (.getfield 71, 3) := by decide +kernel
theorem dX0_uncataloguedSeen_52 : decode cX0_uncataloguedSeen 52 = .ok (.iadd, 1) := by decide +kernel
theorem dX0_uncataloguedSeen_53 : decode cX0_uncataloguedSeen 53 = .ok (.istore 4, 2) := by decide +kernel
theorem dX0_uncataloguedSeen_55 : decode cX0_uncataloguedSeen 55 = .ok (.iinc 5 1, 3) := by decide +kernel
theorem dX0_uncataloguedSeen_58 : decode cX0_uncataloguedSeen 58 = .ok (.goto (-52), 3) := by decide +kernel
theorem dX0_uncataloguedSeen_61 : decode cX0_uncataloguedSeen 61 = .ok (.iload 4, 2) := by decide +kernel
theorem dX0_uncataloguedSeen_63 : decode cX0_uncataloguedSeen 63 = .ok (.ireturn, 1) := by decide +kernel
theorem dX0_isPartSeen_0 : decode cX0_isPartSeen 0 = .ok (.aload_n 0, 1) := by decide +kernel
theorem dX0_isPartSeen_1 : decode cX0_isPartSeen 1 = .ok (.getfield 74, 3) := by decide +kernel
theorem dX0_isPartSeen_4 : decode cX0_isPartSeen 4 = .ok (.iload_n 2, 1) := by decide +kernel
theorem dX0_isPartSeen_5 : decode cX0_isPartSeen 5 = .ok (.if_icmp .ne 25, 3) := by decide +kernel
theorem dX0_isPartSeen_8 : decode cX0_isPartSeen 8 = .ok (.aload_n 0, 1) := by decide +kernel
theorem dX0_isPartSeen_9 : decode cX0_isPartSeen 9 = .ok (.aload_n 1, 1) := by decide +kernel
theorem dX0_isPartSeen_10 : decode cX0_isPartSeen 10 = .ok (.invokevirtual 77, 3) := by decide +kernel
theorem dX0_isPartSeen_13 : decode cX0_isPartSeen 13 = .ok (.ifCond .eq 17, 3) := by decide +kernel
theorem dX0_isPartSeen_16 : decode cX0_isPartSeen 16 = .ok (.aload_n 0, 1) := by decide +kernel
theorem dX0_isPartSeen_17 : decode cX0_isPartSeen 17 = .ok (.iload_n 3, 1) := by decide +kernel
theorem dX0_isPartSeen_18 : decode cX0_isPartSeen 18 = .ok (.iload 4, 2) := by decide +kernel
theorem dX0_isPartSeen_20 : decode cX0_isPartSeen 20 = .ok (.invokevirtual 80, 3) := by decide +kernel
theorem dX0_isPartSeen_23 : decode cX0_isPartSeen 23 = .ok (.ifCond .eq 7, 3) := by decide +kernel
theorem dX0_isPartSeen_26 : decode cX0_isPartSeen 26 = .ok (.iconst 1, 1) := by decide +kernel
theorem dX0_isPartSeen_27 : decode cX0_isPartSeen 27 = .ok (.goto 4, 3) := by decide +kernel
theorem dX0_isPartSeen_30 : decode cX0_isPartSeen 30 = .ok (.iconst 0, 1) := by decide +kernel
theorem dX0_isPartSeen_31 : decode cX0_isPartSeen 31 = .ok (.ireturn, 1) := by decide +kernel
theorem dX0_isMarkOfAnother_0 : decode cX0_isMarkOfAnother 0 = .ok (.iconst 0, 1) := by decide +kernel
theorem dX0_isMarkOfAnother_1 : decode cX0_isMarkOfAnother 1 = .ok (.istore_n 3, 1) := by decide +kernel
theorem dX0_isMarkOfAnother_2 : decode cX0_isMarkOfAnother 2 = .ok (.iload_n 3, 1) := by decide +kernel
theorem dX0_isMarkOfAnother_3 : decode cX0_isMarkOfAnother 3 = .ok (.aload_n 0, 1) := by decide +kernel
theorem dX0_isMarkOfAnother_4 : decode cX0_isMarkOfAnother 4 = .ok (.getfield 17, 3) := by decide +kernel
theorem dX0_isMarkOfAnother_7 : decode cX0_isMarkOfAnother 7 = .ok (.if_icmp .ge 34, 3) := by decide +kernel
theorem dX0_isMarkOfAnother_10 : decode cX0_isMarkOfAnother 10 = .ok (.aload_n 0, 1) := by decide +kernel
theorem dX0_isMarkOfAnother_11 : decode cX0_isMarkOfAnother 11 = .ok (.getfield 11, 3) := by decide +kernel
theorem dX0_isMarkOfAnother_14 : decode cX0_isMarkOfAnother 14 = .ok (.iload_n 3, 1) := by decide +kernel
theorem dX0_isMarkOfAnother_15 : decode cX0_isMarkOfAnother 15 = .ok (.aaload, 1) := by decide +kernel
theorem dX0_isMarkOfAnother_16 : decode cX0_isMarkOfAnother 16 = .ok (.getfield 84, 3) := by decide +kernel
theorem dX0_isMarkOfAnother_19 : decode cX0_isMarkOfAnother 19 = .ok (.iload_n 1, 1) := by decide +kernel
theorem dX0_isMarkOfAnother_20 : decode cX0_isMarkOfAnother 20 = .ok (.if_icmp .ne 15, 3) := by decide +kernel
theorem dX0_isMarkOfAnother_23 : decode cX0_isMarkOfAnother 23 = .ok (.aload_n 0, 1) := by decide +kernel
theorem dX0_isMarkOfAnother_24 : decode cX0_isMarkOfAnother 24 = .ok (.getfield 11, 3) := by decide +kernel
theorem dX0_isMarkOfAnother_27 : decode cX0_isMarkOfAnother 27 = .ok (.iload_n 3, 1) := by decide +kernel
theorem dX0_isMarkOfAnother_28 : decode cX0_isMarkOfAnother 28 = .ok (.aaload, 1) := by decide +kernel
theorem dX0_isMarkOfAnother_29 : decode cX0_isMarkOfAnother 29 = .ok (.aload_n 2, 1) := by decide +kernel
theorem dX0_isMarkOfAnother_30 : decode cX0_isMarkOfAnother 30 = .ok (.if_acmp .eq 5, 3) := by decide +kernel
theorem dX0_isMarkOfAnother_33 : decode cX0_isMarkOfAnother 33 = .ok (.iconst 1, 1) := by decide +kernel
theorem dX0_isMarkOfAnother_34 : decode cX0_isMarkOfAnother 34 = .ok (.ireturn, 1) := by decide +kernel
theorem dX0_isMarkOfAnother_35 : decode cX0_isMarkOfAnother 35 = .ok (.iinc 3 1, 3) := by decide +kernel
theorem dX0_isMarkOfAnother_38 : decode cX0_isMarkOfAnother 38 = .ok (.goto (-36), 3) := by decide +kernel
theorem dX0_isMarkOfAnother_41 : decode cX0_isMarkOfAnother 41 = .ok (.iconst 0, 1) := by decide +kernel
theorem dX0_isMarkOfAnother_42 : decode cX0_isMarkOfAnother 42 = .ok (.ireturn, 1) := by decide +kernel
theorem dX0_lineUpByMark_0 : decode cX0_lineUpByMark 0 = .ok (.iconst 0, 1) := by decide +kernel
theorem dX0_lineUpByMark_1 : decode cX0_lineUpByMark 1 = .ok (.istore_n 3, 1) := by decide +kernel
theorem dX0_lineUpByMark_2 : decode cX0_lineUpByMark 2 = .ok (.iconst 0, 1) := by decide +kernel
theorem dX0_lineUpByMark_3 : decode cX0_lineUpByMark 3 = .ok (.istore 4, 2) := by decide +kernel
theorem dX0_lineUpByMark_5 : decode cX0_lineUpByMark 5 = .ok (.iload 4, 2) := by decide +kernel
theorem dX0_lineUpByMark_7 : decode cX0_lineUpByMark 7 = .ok (.aload_n 0, 1) := by decide +kernel
theorem dX0_lineUpByMark_8 : decode cX0_lineUpByMark 8 = .ok (.getfield 17, 3) := by decide +kernel
theorem dX0_lineUpByMark_11 : decode cX0_lineUpByMark 11 = .ok (.if_icmp .ge 47, 3) := by decide +kernel
theorem dX0_lineUpByMark_14 : decode cX0_lineUpByMark 14 = .ok (.aload_n 0, 1) := by decide +kernel
theorem dX0_lineUpByMark_15 : decode cX0_lineUpByMark 15 = .ok (.getfield 11, 3) := by decide +kernel
theorem dX0_lineUpByMark_18 : decode cX0_lineUpByMark 18 = .ok (.iload 4, 2) := by decide +kernel
theorem dX0_lineUpByMark_20 : decode cX0_lineUpByMark 20 = .ok (.aaload, 1) := by decide +kernel
theorem dX0_lineUpByMark_21 : decode cX0_lineUpByMark 21 = .ok (.astore 5, 2) := by decide +kernel
theorem dX0_lineUpByMark_23 : decode cX0_lineUpByMark 23 = .ok (.aload 5, 2) := by decide +kernel
theorem dX0_lineUpByMark_25 : decode cX0_lineUpByMark 25 = .ok (.getfield 84, 3) := by decide +kernel
theorem dX0_lineUpByMark_28 : decode cX0_lineUpByMark 28 = .ok (.iconst (-1), 1) := by decide +kernel
theorem dX0_lineUpByMark_29 : decode cX0_lineUpByMark 29 = .ok (.if_icmp .eq 23, 3) := by decide +kernel
theorem dX0_lineUpByMark_32 : decode cX0_lineUpByMark 32 = .ok (.aload 5, 2) := by decide +kernel
theorem dX0_lineUpByMark_34 : decode cX0_lineUpByMark 34 = .ok (.iload_n 1, 1) := by decide +kernel
theorem dX0_lineUpByMark_35 : decode cX0_lineUpByMark 35 = .ok (.iload_n 2, 1) := by decide +kernel
theorem dX0_lineUpByMark_36 : decode cX0_lineUpByMark 36 = .ok (.invokevirtual 80, 3) := by decide +kernel
theorem dX0_lineUpByMark_39 : decode cX0_lineUpByMark 39 = .ok (.ifCond .eq 13, 3) := by decide +kernel
theorem dX0_lineUpByMark_42 : decode cX0_lineUpByMark 42 = .ok (.aload_n 0, 1) := by decide +kernel
theorem dX0_lineUpByMark_43 : decode cX0_lineUpByMark 43 = .ok (.aload 5, 2) := by decide +kernel
theorem dX0_lineUpByMark_45 : decode cX0_lineUpByMark 45 = .ok (.iload_n 3, 1) := by decide +kernel
theorem dX0_lineUpByMark_46 : decode cX0_lineUpByMark 46 = .ok (.invokevirtual 87, 3) := by decide +kernel
theorem dX0_lineUpByMark_49 : decode cX0_lineUpByMark 49 = .ok (.iinc 3 1, 3) := by decide +kernel
theorem dX0_lineUpByMark_52 : decode cX0_lineUpByMark 52 = .ok (.iinc 4 1, 3) := by decide +kernel
theorem dX0_lineUpByMark_55 : decode cX0_lineUpByMark 55 = .ok (.goto (-50), 3) := by decide +kernel
theorem dX0_lineUpByMark_58 : decode cX0_lineUpByMark 58 = .ok (.iload_n 3, 1) := by decide +kernel
theorem dX0_lineUpByMark_59 : decode cX0_lineUpByMark 59 = .ok (.ireturn, 1) := by decide +kernel
theorem dX0_insertByMark_0 : decode cX0_insertByMark 0 = .ok (.iload_n 2, 1) := by decide +kernel
theorem dX0_insertByMark_1 : decode cX0_insertByMark 1 = .ok (.istore_n 3, 1) := by decide +kernel
theorem dX0_insertByMark_2 : decode cX0_insertByMark 2 = .ok (.iload_n 3, 1) := by decide +kernel
theorem dX0_insertByMark_3 : decode cX0_insertByMark 3 = .ok (.ifCond .le 41, 3) := by decide +kernel
theorem dX0_insertByMark_6 : decode cX0_insertByMark 6 = .ok (.aload_n 0, 1) := by decide +kernel
theorem dX0_insertByMark_7 : decode cX0_insertByMark 7 = .ok (.getfield 21, 3) := by decide +kernel
theorem dX0_insertByMark_10 : decode cX0_insertByMark 10 = .ok (.iload_n 3, 1) := by decide +kernel
theorem dX0_insertByMark_11 : decode cX0_insertByMark 11 = .ok (.iconst 1, 1) := by decide +kernel
theorem dX0_insertByMark_12 : decode cX0_insertByMark 12 = .ok (.isub, 1) := by decide +kernel
theorem dX0_insertByMark_13 : decode cX0_insertByMark 13 = .ok (.aaload, 1) := by decide +kernel
theorem dX0_insertByMark_14 : decode cX0_insertByMark 14 = .ok (.getfield 84, 3) := by decide +kernel
theorem dX0_insertByMark_17 : decode cX0_insertByMark 17 = .ok (.aload_n 1, 1) := by decide +kernel
theorem dX0_insertByMark_18 : decode cX0_insertByMark 18 = .ok (.getfield 84, 3) := by decide +kernel
theorem dX0_insertByMark_21 : decode cX0_insertByMark 21 = .ok (.if_icmp .le 23, 3) := by decide +kernel
theorem dX0_insertByMark_24 : decode cX0_insertByMark 24 = .ok (.aload_n 0, 1) := by decide +kernel
theorem dX0_insertByMark_25 : decode cX0_insertByMark 25 = .ok (.getfield 21, 3) := by decide +kernel
theorem dX0_insertByMark_28 : decode cX0_insertByMark 28 = .ok (.iload_n 3, 1) := by decide +kernel
theorem dX0_insertByMark_29 : decode cX0_insertByMark 29 = .ok (.aload_n 0, 1) := by decide +kernel
theorem dX0_insertByMark_30 : decode cX0_insertByMark 30 = .ok (.getfield 21, 3) := by decide +kernel
theorem dX0_insertByMark_33 : decode cX0_insertByMark 33 = .ok (.iload_n 3, 1) := by decide +kernel
theorem dX0_insertByMark_34 : decode cX0_insertByMark 34 = .ok (.iconst 1, 1) := by decide +kernel
theorem dX0_insertByMark_35 : decode cX0_insertByMark 35 = .ok (.isub, 1) := by decide +kernel
theorem dX0_insertByMark_36 : decode cX0_insertByMark 36 = .ok (.aaload, 1) := by decide +kernel
theorem dX0_insertByMark_37 : decode cX0_insertByMark 37 = .ok (.aastore, 1) := by decide +kernel
theorem dX0_insertByMark_38 : decode cX0_insertByMark 38 = .ok (.iinc 3 (-1), 3) := by decide +kernel
theorem dX0_insertByMark_41 : decode cX0_insertByMark 41 = .ok (.goto (-39), 3) := by decide +kernel
theorem dX0_insertByMark_44 : decode cX0_insertByMark 44 = .ok (.aload_n 0, 1) := by decide +kernel
theorem dX0_insertByMark_45 : decode cX0_insertByMark 45 = .ok (.getfield 21, 3) := by decide +kernel
theorem dX0_insertByMark_48 : decode cX0_insertByMark 48 = .ok (.iload_n 3, 1) := by decide +kernel
theorem dX0_insertByMark_49 : decode cX0_insertByMark 49 = .ok (.aload_n 1, 1) := by decide +kernel
theorem dX0_insertByMark_50 : decode cX0_insertByMark 50 = .ok (.aastore, 1) := by decide +kernel
theorem dX0_insertByMark_51 : decode cX0_insertByMark 51 = .ok (.return_, 1) := by decide +kernel
theorem dX1_init_0 : decode cX1_init 0 = .ok (.aload_n 0, 1) := by decide +kernel
theorem dX1_init_1 : decode cX1_init 1 = .ok (.invokespecial 3, 3) := by decide +kernel
theorem dX1_init_4 : decode cX1_init 4 = .ok (.aload_n 0, 1) := by decide +kernel
theorem dX1_init_5 : decode cX1_init 5 = .ok (.bipush 80, 2) := by decide +kernel
theorem dX1_init_7 : decode cX1_init 7 = .ok (.newarray .int, 2) := by decide +kernel
theorem dX1_init_9 : decode cX1_init 9 = .ok (.putfield 9, 3) := by decide +kernel
theorem dX1_init_12 : decode cX1_init 12 = .ok (.aload_n 0, 1) := by decide +kernel
theorem dX1_init_13 : decode cX1_init 13 = .ok (.bipush 40, 2) := by decide +kernel
theorem dX1_init_15 : decode cX1_init 15 = .ok (.newarray .int, 2) := by decide +kernel
theorem dX1_init_17 : decode cX1_init 17 = .ok (.putfield 15, 3) := by decide +kernel
theorem dX1_init_20 : decode cX1_init 20 = .ok (.aload_n 0, 1) := by decide +kernel
theorem dX1_init_21 : decode cX1_init 21 = .ok (.getfield 9, 3) := by decide +kernel
theorem dX1_init_24 : decode cX1_init 24 = .ok (.iconst (-1), 1) := by decide +kernel
theorem dX1_init_25 : decode cX1_init 25 = .ok (.invokestatic 18, 3) := by decide +kernel
theorem dX1_init_28 : decode cX1_init 28 = .ok (.aload_n 0, 1) := by decide +kernel
theorem dX1_init_29 : decode cX1_init 29 = .ok (.getfield 15, 3) := by decide +kernel
theorem dX1_init_32 : decode cX1_init 32 = .ok (.iconst (-1), 1) := by decide +kernel
theorem dX1_init_33 : decode cX1_init 33 = .ok (.invokestatic 18, 3) := by decide +kernel
theorem dX1_init_36 : decode cX1_init 36 = .ok (.return_, 1) := by decide +kernel
theorem dX1_copyFrom_0 : decode cX1_copyFrom 0 = .ok (.aload_n 1, 1) := by decide +kernel
theorem dX1_copyFrom_1 : decode cX1_copyFrom 1 = .ok (.getfield 9, 3) := by decide +kernel
theorem dX1_copyFrom_4 : decode cX1_copyFrom 4 = .ok (.iconst 0, 1) := by decide +kernel
theorem dX1_copyFrom_5 : decode cX1_copyFrom 5 = .ok (.aload_n 0, 1) := by decide +kernel
theorem dX1_copyFrom_6 : decode cX1_copyFrom 6 = .ok (.getfield 9, 3) := by decide +kernel
theorem dX1_copyFrom_9 : decode cX1_copyFrom 9 = .ok (.iconst 0, 1) := by decide +kernel
theorem dX1_copyFrom_10 : decode cX1_copyFrom 10 = .ok (.bipush 80, 2) := by decide +kernel
theorem dX1_copyFrom_12 : decode cX1_copyFrom 12 = .ok (.invokestatic 24, 3) := by decide +kernel
theorem dX1_copyFrom_15 : decode cX1_copyFrom 15 = .ok (.aload_n 1, 1) := by decide +kernel
theorem dX1_copyFrom_16 : decode cX1_copyFrom 16 = .ok (.getfield 15, 3) := by decide +kernel
theorem dX1_copyFrom_19 : decode cX1_copyFrom 19 = .ok (.iconst 0, 1) := by decide +kernel
theorem dX1_copyFrom_20 : decode cX1_copyFrom 20 = .ok (.aload_n 0, 1) := by decide +kernel
theorem dX1_copyFrom_21 : decode cX1_copyFrom 21 = .ok (.getfield 15, 3) := by decide +kernel
theorem dX1_copyFrom_24 : decode cX1_copyFrom 24 = .ok (.iconst 0, 1) := by decide +kernel
theorem dX1_copyFrom_25 : decode cX1_copyFrom 25 = .ok (.bipush 40, 2) := by decide +kernel
theorem dX1_copyFrom_27 : decode cX1_copyFrom 27 = .ok (.invokestatic 24, 3) := by decide +kernel
theorem dX1_copyFrom_30 : decode cX1_copyFrom 30 = .ok (.return_, 1) := by decide +kernel
theorem dX1_isFreeFor_0 : decode cX1_isFreeFor 0 = .ok (.aload_n 0, 1) := by decide +kernel
theorem dX1_isFreeFor_1 : decode cX1_isFreeFor 1 = .ok (.getfield 15, 3) := by decide +kernel
theorem dX1_isFreeFor_4 : decode cX1_isFreeFor 4 = .ok (.iload_n 2, 1) := by decide +kernel
theorem dX1_isFreeFor_5 : decode cX1_isFreeFor 5 = .ok (.iaload, 1) := by decide +kernel
theorem dX1_isFreeFor_6 : decode cX1_isFreeFor 6 = .ok (.iconst (-1), 1) := by decide +kernel
theorem dX1_isFreeFor_7 : decode cX1_isFreeFor 7 = .ok (.if_icmp .eq 13, 3) := by decide +kernel
theorem dX1_isFreeFor_10 : decode cX1_isFreeFor 10 = .ok (.aload_n 0, 1) := by decide +kernel
theorem dX1_isFreeFor_11 : decode cX1_isFreeFor 11 = .ok (.getfield 15, 3) := by decide +kernel
theorem dX1_isFreeFor_14 : decode cX1_isFreeFor 14 = .ok (.iload_n 2, 1) := by decide +kernel
theorem dX1_isFreeFor_15 : decode cX1_isFreeFor 15 = .ok (.iaload, 1) := by decide +kernel
theorem dX1_isFreeFor_16 : decode cX1_isFreeFor 16 = .ok (.iload_n 1, 1) := by decide +kernel
theorem dX1_isFreeFor_17 : decode cX1_isFreeFor 17 = .ok (.if_icmp .ne 7, 3) := by decide +kernel
theorem dX1_isFreeFor_20 : decode cX1_isFreeFor 20 = .ok (.iconst 1, 1) := by decide +kernel
theorem dX1_isFreeFor_21 : decode cX1_isFreeFor 21 = .ok (.goto 4, 3) := by decide +kernel
theorem dX1_isFreeFor_24 : decode cX1_isFreeFor 24 = .ok (.iconst 0, 1) := by decide +kernel
theorem dX1_isFreeFor_25 : decode cX1_isFreeFor 25 = .ok (.ireturn, 1) := by decide +kernel
theorem dX1_put_0 : decode cX1_put 0 = .ok (.aload_n 0, 1) := by decide +kernel
theorem dX1_put_1 : decode cX1_put 1 = .ok (.getfield 9, 3) := by decide +kernel
theorem dX1_put_4 : decode cX1_put 4 = .ok (.iload_n 1, 1) := by decide +kernel
theorem dX1_put_5 : decode cX1_put 5 = .ok (.iaload, 1) := by decide +kernel
theorem dX1_put_6 : decode cX1_put 6 = .ok (.iconst (-1), 1) := by decide +kernel
theorem dX1_put_7 : decode cX1_put 7 = .ok (.if_icmp .eq 15, 3) := by decide +kernel
theorem dX1_put_10 : decode cX1_put 10 = .ok (.aload_n 0, 1) := by decide +kernel
theorem dX1_put_11 : decode cX1_put 11 = .ok (.getfield 15, 3) := by decide +kernel
theorem dX1_put_14 : decode cX1_put 14 = .ok (.aload_n 0, 1) := by decide +kernel
theorem dX1_put_15 : decode cX1_put 15 = .ok (.getfield 9, 3) := by decide +kernel
theorem dX1_put_18 : decode cX1_put 18 = .ok (.iload_n 1, 1) := by decide +kernel
theorem dX1_put_19 : decode cX1_put 19 = .ok (.iaload, 1) := by decide +kernel
theorem dX1_put_20 : decode cX1_put 20 = .ok (.iconst (-1), 1) := by decide +kernel
theorem dX1_put_21 : decode cX1_put 21 = .ok (.iastore, 1) := by decide +kernel
theorem dX1_put_22 : decode cX1_put 22 = .ok (.aload_n 0, 1) := by decide +kernel
theorem dX1_put_23 : decode cX1_put 23 = .ok (.getfield 9, 3) := by decide +kernel
theorem dX1_put_26 : decode cX1_put 26 = .ok (.iload_n 1, 1) := by decide +kernel
theorem dX1_put_27 : decode cX1_put 27 = .ok (.iload_n 2, 1) := by decide +kernel
theorem dX1_put_28 : decode cX1_put 28 = .ok (.iastore, 1) := by decide +kernel
theorem dX1_put_29 : decode cX1_put 29 = .ok (.iload_n 2, 1) := by decide +kernel
theorem dX1_put_30 : decode cX1_put 30 = .ok (.iconst (-1), 1) := by decide +kernel
theorem dX1_put_31 : decode cX1_put 31 = .ok (.if_icmp .eq 10, 3) := by decide +kernel
theorem dX1_put_34 : decode cX1_put 34 = .ok (.aload_n 0, 1) := by decide +kernel
theorem dX1_put_35 : decode cX1_put 35 = .ok (.getfield 15, 3) := by decide +kernel
theorem dX1_put_38 : decode cX1_put 38 = .ok (.iload_n 2, 1) := by decide +kernel
theorem dX1_put_39 : decode cX1_put 39 = .ok (.iload_n 1, 1) := by decide +kernel
theorem dX1_put_40 : decode cX1_put 40 = .ok (.iastore, 1) := by decide +kernel
theorem dX1_put_41 : decode cX1_put 41 = .ok (.return_, 1) := by decide +kernel
theorem dX1_leastEmpty_0 : decode cX1_leastEmpty 0 = .ok (.iconst 0, 1) := by decide +kernel
theorem dX1_leastEmpty_1 : decode cX1_leastEmpty 1 = .ok (.istore_n 1, 1) := by decide +kernel
theorem dX1_leastEmpty_2 : decode cX1_leastEmpty 2 = .ok (.iload_n 1, 1) := by decide +kernel
theorem dX1_leastEmpty_3 : decode cX1_leastEmpty 3 = .ok (.bipush 40, 2) := by decide +kernel
theorem dX1_leastEmpty_5 : decode cX1_leastEmpty 5 = .ok (.if_icmp .ge 21, 3) := by decide +kernel
theorem dX1_leastEmpty_8 : decode cX1_leastEmpty 8 = .ok (.aload_n 0, 1) := by decide +kernel
theorem dX1_leastEmpty_9 : decode cX1_leastEmpty 9 = .ok (.getfield 15, 3) := by decide +kernel
theorem dX1_leastEmpty_12 : decode cX1_leastEmpty 12 = .ok (.iload_n 1, 1) := by decide +kernel
theorem dX1_leastEmpty_13 : decode cX1_leastEmpty 13 = .ok (.iaload, 1) := by decide +kernel
theorem dX1_leastEmpty_14 : decode cX1_leastEmpty 14 = .ok (.iconst (-1), 1) := by decide +kernel
theorem dX1_leastEmpty_15 : decode cX1_leastEmpty 15 = .ok (.if_icmp .ne 5, 3) := by decide +kernel
theorem dX1_leastEmpty_18 : decode cX1_leastEmpty 18 = .ok (.iload_n 1, 1) := by decide +kernel
theorem dX1_leastEmpty_19 : decode cX1_leastEmpty 19 = .ok (.ireturn, 1) := by decide +kernel
theorem dX1_leastEmpty_20 : decode cX1_leastEmpty 20 = .ok (.iinc 1 1, 3) := by decide +kernel
theorem dX1_leastEmpty_23 : decode cX1_leastEmpty 23 = .ok (.goto (-21), 3) := by decide +kernel
theorem dX1_leastEmpty_26 : decode cX1_leastEmpty 26 = .ok (.iconst (-1), 1) := by decide +kernel
theorem dX1_leastEmpty_27 : decode cX1_leastEmpty 27 = .ok (.ireturn, 1) := by decide +kernel
theorem dX2_init_0 : decode cX2_init 0 = .ok (.aload_n 0, 1) := by decide +kernel
theorem dX2_init_1 : decode cX2_init 1 = .ok (.invokespecial 3, 3) := by decide +kernel
theorem dX2_init_4 : decode cX2_init 4 = .ok (.aload_n 0, 1) := by decide +kernel
theorem dX2_init_5 : decode cX2_init 5 = .ok (.sipush 200, 3) := by decide +kernel
theorem dX2_init_8 : decode cX2_init 8 = .ok (.newarray .int, 2) := by decide +kernel
theorem dX2_init_10 : decode cX2_init 10 = .ok (.putfield 9, 3) := by decide +kernel
theorem dX2_init_13 : decode cX2_init 13 = .ok (.aload_n 0, 1) := by decide +kernel
theorem dX2_init_14 : decode cX2_init 14 = .ok (.sipush 200, 3) := by decide +kernel
theorem dX2_init_17 : decode cX2_init 17 = .ok (.newarray .int, 2) := by decide +kernel
theorem dX2_init_19 : decode cX2_init 19 = .ok (.putfield 15, 3) := by decide +kernel
theorem dX2_init_22 : decode cX2_init 22 = .ok (.aload_n 0, 1) := by decide +kernel
theorem dX2_init_23 : decode cX2_init 23 = .ok (.sipush 200, 3) := by decide +kernel
theorem dX2_init_26 : decode cX2_init 26 = .ok (.newarray .int, 2) := by decide +kernel
theorem dX2_init_28 : decode cX2_init 28 = .ok (.putfield 18, 3) := by decide +kernel
theorem dX2_init_31 : decode cX2_init 31 = .ok (.aload_n 0, 1) := by decide +kernel
theorem dX2_init_32 : decode cX2_init 32 = .ok (.iconst 0, 1) := by decide +kernel
theorem dX2_init_33 : decode cX2_init 33 = .ok (.putfield 21, 3) := by decide +kernel
theorem dX2_init_36 : decode cX2_init 36 = .ok (.return_, 1) := by decide +kernel
theorem dX2_whyNot_0 : decode cX2_whyNot 0 = .ok (.aload_n 0, 1) := by decide +kernel
theorem dX2_whyNot_1 : decode cX2_whyNot 1 = .ok (.getfield 21, 3) := by decide +kernel
theorem dX2_whyNot_4 : decode cX2_whyNot 4 = .ok (.ifCond .ne 7, 3) := by decide +kernel
theorem dX2_whyNot_7 : decode cX2_whyNot 7 = .ok (.iconst 0, 1) := by decide +kernel
theorem dX2_whyNot_8 : decode cX2_whyNot 8 = .ok (.goto 14, 3) := by decide +kernel
theorem dX2_whyNot_11 : decode cX2_whyNot 11 = .ok (.aload_n 0, 1) := by decide +kernel
theorem dX2_whyNot_12 : decode cX2_whyNot 12 = .ok (.getfield 18, 3) := by decide +kernel
theorem dX2_whyNot_15 : decode cX2_whyNot 15 = .ok (.aload_n 0, 1) := by decide +kernel
theorem dX2_whyNot_16 : decode cX2_whyNot 16 = .ok (.getfield 21, 3) := by decide +kernel
theorem dX2_whyNot_19 : decode cX2_whyNot 19 = .ok (.iconst 1, 1) := by decide +kernel
theorem dX2_whyNot_20 : decode cX2_whyNot 20 = .ok (.isub, 1) := by decide +kernel
theorem dX2_whyNot_21 : decode cX2_whyNot 21 = .ok (.iaload, 1) := by decide +kernel
theorem dX2_whyNot_22 : decode cX2_whyNot 22 = .ok (.istore_n 2, 1) := by decide +kernel
theorem dX2_whyNot_23 : decode cX2_whyNot 23 = .ok (.iload_n 1, 1) := by decide +kernel
theorem dX2_whyNot_24 : decode cX2_whyNot 24 = .ok (.iload_n 2, 1) := by decide +kernel
theorem dX2_whyNot_25 : decode cX2_whyNot 25 = .ok (.ldc 25, 2) := by decide +kernel
theorem dX2_whyNot_27 : decode cX2_whyNot 27 = .ok (.invokestatic 26, 3) := by decide +kernel
theorem dX2_whyNot_30 : decode cX2_whyNot 30 = .ok (.ifCond .ne 5, 3) := by decide +kernel
theorem dX2_whyNot_33 : decode cX2_whyNot 33 = .ok (.iconst 5, 1) := by decide +kernel
theorem dX2_whyNot_34 : decode cX2_whyNot 34 = .ok (.ireturn, 1) := by decide +kernel
theorem dX2_whyNot_35 : decode cX2_whyNot 35 = .ok (.aload_n 0, 1) := by decide +kernel
theorem dX2_whyNot_36 : decode cX2_whyNot 36 = .ok (.getfield 21, 3) := by decide +kernel
theorem dX2_whyNot_39 : decode cX2_whyNot 39 = .ok (.sipush 200, 3) := by decide +kernel
theorem dX2_whyNot_42 : decode cX2_whyNot 42 = .ok (.if_icmp .ge 7, 3) := by decide +kernel
theorem dX2_whyNot_45 : decode cX2_whyNot 45 = .ok (.iconst 0, 1) := by decide +kernel
theorem dX2_whyNot_46 : decode cX2_whyNot 46 = .ok (.goto 5, 3) := by decide +kernel
theorem dX2_whyNot_49 : decode cX2_whyNot 49 = .ok (.bipush 7, 2) := by decide +kernel
theorem dX2_whyNot_51 : decode cX2_whyNot 51 = .ok (.ireturn, 1) := by decide +kernel
theorem dX2_append_0 : decode cX2_append 0 = .ok (.aload_n 0, 1) := by decide +kernel
theorem dX2_append_1 : decode cX2_append 1 = .ok (.getfield 21, 3) := by decide +kernel
theorem dX2_append_4 : decode cX2_append 4 = .ok (.sipush 200, 3) := by decide +kernel
theorem dX2_append_7 : decode cX2_append 7 = .ok (.if_icmp .ge 43, 3) := by decide +kernel
theorem dX2_append_10 : decode cX2_append 10 = .ok (.aload_n 0, 1) := by decide +kernel
theorem dX2_append_11 : decode cX2_append 11 = .ok (.getfield 9, 3) := by decide +kernel
theorem dX2_append_14 : decode cX2_append 14 = .ok (.aload_n 0, 1) := by decide +kernel
theorem dX2_append_15 : decode cX2_append 15 = .ok (.getfield 21, 3) := by decide +kernel
theorem dX2_append_18 : decode cX2_append 18 = .ok (.iload_n 1, 1) := by decide +kernel
theorem dX2_append_19 : decode cX2_append 19 = .ok (.iastore, 1) := by decide +kernel
theorem dX2_append_20 : decode cX2_append 20 = .ok (.aload_n 0, 1) := by decide +kernel
theorem dX2_append_21 : decode cX2_append 21 = .ok (.getfield 15, 3) := by decide +kernel
theorem dX2_append_24 : decode cX2_append 24 = .ok (.aload_n 0, 1) := by decide +kernel
theorem dX2_append_25 : decode cX2_append 25 = .ok (.getfield 21, 3) := by decide +kernel
theorem dX2_append_28 : decode cX2_append 28 = .ok (.iload_n 2, 1) := by decide +kernel
theorem dX2_append_29 : decode cX2_append 29 = .ok (.iastore, 1) := by decide +kernel
theorem dX2_append_30 : decode cX2_append 30 = .ok (.aload_n 0, 1) := by decide +kernel
theorem dX2_append_31 : decode cX2_append 31 = .ok (.getfield 18, 3) := by decide +kernel
theorem dX2_append_34 : decode cX2_append 34 = .ok (.aload_n 0, 1) := by decide +kernel
theorem dX2_append_35 : decode cX2_append 35 = .ok (.getfield 21, 3) := by decide +kernel
theorem dX2_append_38 : decode cX2_append 38 = .ok (.iload_n 3, 1) := by decide +kernel
theorem dX2_append_39 : decode cX2_append 39 = .ok (.iastore, 1) := by decide +kernel
theorem dX2_append_40 : decode cX2_append 40 = .ok (.aload_n 0, 1) := by decide +kernel
theorem dX2_append_41 : decode cX2_append 41 = .ok (.dup, 1) := by decide +kernel
theorem dX2_append_42 : decode cX2_append 42 = .ok (.getfield 21, 3) := by decide +kernel
theorem dX2_append_45 : decode cX2_append 45 = .ok (.iconst 1, 1) := by decide +kernel
theorem dX2_append_46 : decode cX2_append 46 = .ok (.iadd, 1) := by decide +kernel
theorem dX2_append_47 : decode cX2_append 47 = .ok (.putfield 21, 3) := by decide +kernel
theorem dX2_append_50 : decode cX2_append 50 = .ok (.return_, 1) := by decide +kernel
theorem dX2_holder_0 : decode cX2_holder 0 = .ok (.aload_n 0, 1) := by decide +kernel
theorem dX2_holder_1 : decode cX2_holder 1 = .ok (.getfield 21, 3) := by decide +kernel
theorem dX2_holder_4 : decode cX2_holder 4 = .ok (.iconst 1, 1) := by decide +kernel
theorem dX2_holder_5 : decode cX2_holder 5 = .ok (.isub, 1) := by decide +kernel
theorem dX2_holder_6 : decode cX2_holder 6 = .ok (.istore_n 3, 1) := by decide +kernel
theorem dX2_holder_7 : decode cX2_holder 7 = .ok (.iload_n 3, 1) := by decide +kernel
theorem dX2_holder_8 : decode cX2_holder 8 = .ok (.ifCond .lt 36, 3) := by decide +kernel
theorem dX2_holder_11 : decode cX2_holder 11 = .ok (.aload_n 0, 1) := by decide +kernel
theorem dX2_holder_12 : decode cX2_holder 12 = .ok (.getfield 9, 3) := by decide +kernel
theorem dX2_holder_15 : decode cX2_holder 15 = .ok (.iload_n 3, 1) := by decide +kernel
theorem dX2_holder_16 : decode cX2_holder 16 = .ok (.iaload, 1) := by decide +kernel
theorem dX2_holder_17 : decode cX2_holder 17 = .ok (.iload_n 1, 1) := by decide +kernel
theorem dX2_holder_18 : decode cX2_holder 18 = .ok (.if_icmp .ne 20, 3) := by decide +kernel
theorem dX2_holder_21 : decode cX2_holder 21 = .ok (.aload_n 0, 1) := by decide +kernel
theorem dX2_holder_22 : decode cX2_holder 22 = .ok (.getfield 18, 3) := by decide +kernel
theorem dX2_holder_25 : decode cX2_holder 25 = .ok (.iload_n 3, 1) := by decide +kernel
theorem dX2_holder_26 : decode cX2_holder 26 = .ok (.iaload, 1) := by decide +kernel
theorem dX2_holder_27 : decode cX2_holder 27 = .ok (.iload_n 2, 1) := by decide +kernel
theorem dX2_holder_28 : decode cX2_holder 28 = .ok (.if_icmp .gt 10, 3) := by decide +kernel
theorem dX2_holder_31 : decode cX2_holder 31 = .ok (.aload_n 0, 1) := by decide +kernel
theorem dX2_holder_32 : decode cX2_holder 32 = .ok (.getfield 15, 3) := by decide +kernel
theorem dX2_holder_35 : decode cX2_holder 35 = .ok (.iload_n 3, 1) := by decide +kernel
theorem dX2_holder_36 : decode cX2_holder 36 = .ok (.iaload, 1) := by decide +kernel
theorem dX2_holder_37 : decode cX2_holder 37 = .ok (.ireturn, 1) := by decide +kernel
theorem dX2_holder_38 : decode cX2_holder 38 = .ok (.iinc 3 (-1), 3) := by decide +kernel
theorem dX2_holder_41 : decode cX2_holder 41 = .ok (.goto (-34), 3) := by decide +kernel
theorem dX2_holder_44 : decode cX2_holder 44 = .ok (.iconst (-1), 1) := by decide +kernel
theorem dX2_holder_45 : decode cX2_holder 45 = .ok (.ireturn, 1) := by decide +kernel
theorem dX3_init_0 : decode cX3_init 0 = .ok (.aload_n 0, 1) := by decide +kernel
theorem dX3_init_1 : decode cX3_init 1 = .ok (.invokespecial 3, 3) := by decide +kernel
theorem dX3_init_4 : decode cX3_init 4 = .ok (.aload_n 0, 1) := by decide +kernel
theorem dX3_init_5 : decode cX3_init 5 = .ok (.bipush 20, 2) := by decide +kernel
theorem dX3_init_7 : decode cX3_init 7 = .ok (.newarray .int, 2) := by decide +kernel
theorem dX3_init_9 : decode cX3_init 9 = .ok (.putfield 9, 3) := by decide +kernel
theorem dX3_init_12 : decode cX3_init 12 = .ok (.aload_n 0, 1) := by decide +kernel
theorem dX3_init_13 : decode cX3_init 13 = .ok (.bipush 20, 2) := by decide +kernel
theorem dX3_init_15 : decode cX3_init 15 = .ok (.newarray .long, 2) := by decide +kernel
theorem dX3_init_17 : decode cX3_init 17 = .ok (.putfield 15, 3) := by decide +kernel
theorem dX3_init_20 : decode cX3_init 20 = .ok (.aload_n 0, 1) := by decide +kernel
theorem dX3_init_21 : decode cX3_init 21 = .ok (.bipush 20, 2) := by decide +kernel
theorem dX3_init_23 : decode cX3_init 23 = .ok (.newarray .long, 2) := by decide +kernel
theorem dX3_init_25 : decode cX3_init 25 = .ok (.putfield 19, 3) := by decide +kernel
theorem dX3_init_28 : decode cX3_init 28 = .ok (.aload_n 0, 1) := by decide +kernel
theorem dX3_init_29 : decode cX3_init 29 = .ok (.iconst 0, 1) := by decide +kernel
theorem dX3_init_30 : decode cX3_init 30 = .ok (.putfield 22, 3) := by decide +kernel
theorem dX3_init_33 : decode cX3_init 33 = .ok (.return_, 1) := by decide +kernel
theorem dX3_takes_0 : decode cX3_takes 0 = .ok (.aload_n 0, 1) := by decide +kernel
theorem dX3_takes_1 : decode cX3_takes 1 = .ok (.iconst 0, 1) := by decide +kernel
theorem dX3_takes_2 : decode cX3_takes 2 = .ok (.putfield 22, 3) := by decide +kernel
theorem dX3_takes_5 : decode cX3_takes 5 = .ok (.iconst 0, 1) := by decide +kernel
theorem dX3_takes_6 : decode cX3_takes 6 = .ok (.istore_n 3, 1) := by decide +kernel
theorem dX3_takes_7 : decode cX3_takes 7 = .ok (.iload_n 3, 1) := by decide +kernel
theorem dX3_takes_8 : decode cX3_takes 8 = .ok (.iload_n 2, 1) := by decide +kernel
theorem dX3_takes_9 : decode cX3_takes 9 = .ok (.if_icmp .ge 59, 3) := by decide +kernel
theorem dX3_takes_12 : decode cX3_takes 12 = .ok (.aload_n 0, 1) := by decide +kernel
theorem dX3_takes_13 : decode cX3_takes 13 = .ok (.getfield 15, 3) := by decide +kernel
theorem dX3_takes_16 : decode cX3_takes 16 = .ok (.iload_n 3, 1) := by decide +kernel
theorem dX3_takes_17 : decode cX3_takes 17 = .ok (.aload_n 1, 1) := by decide +kernel
theorem dX3_takes_18 : decode cX3_takes 18 = .ok (.iconst 2, 1) := by decide +kernel
theorem dX3_takes_19 : decode cX3_takes 19 = .ok (.iload_n 3, 1) := by decide +kernel
theorem dX3_takes_20 : decode cX3_takes 20 = .ok (.imul, 1) := by decide +kernel
theorem dX3_takes_21 : decode cX3_takes 21 = .ok (.laload, 1) := by decide +kernel
theorem dX3_takes_22 : decode cX3_takes 22 = .ok (.lastore, 1) := by decide +kernel
theorem dX3_takes_23 : decode cX3_takes 23 = .ok (.aload_n 0, 1) := by decide +kernel
theorem dX3_takes_24 : decode cX3_takes 24 = .ok (.getfield 19, 3) := by decide +kernel
theorem dX3_takes_27 : decode cX3_takes 27 = .ok (.iload_n 3, 1) := by decide +kernel
theorem dX3_takes_28 : decode cX3_takes 28 = .ok (.aload_n 1, 1) := by decide +kernel
theorem dX3_takes_29 : decode cX3_takes 29 = .ok (.iconst 2, 1) := by decide +kernel
theorem dX3_takes_30 : decode cX3_takes 30 = .ok (.iload_n 3, 1) := by decide +kernel
theorem dX3_takes_31 : decode cX3_takes 31 = .ok (.imul, 1) := by decide +kernel
theorem dX3_takes_32 : decode cX3_takes 32 = .ok (.iconst 1, 1) := by decide +kernel
theorem dX3_takes_33 : decode cX3_takes 33 = .ok (.iadd, 1) := by decide +kernel
theorem dX3_takes_34 : decode cX3_takes 34 = .ok (.laload, 1) := by decide +kernel
theorem dX3_takes_35 : decode cX3_takes 35 = .ok (.lastore, 1) := by decide +kernel
theorem dX3_takes_36 : decode cX3_takes 36 = .ok (.aload_n 0, 1) := by decide +kernel
theorem dX3_takes_37 : decode cX3_takes 37 = .ok (.getfield 15, 3) := by decide +kernel
theorem dX3_takes_40 : decode cX3_takes 40 = .ok (.iload_n 3, 1) := by decide +kernel
theorem dX3_takes_41 : decode cX3_takes 41 = .ok (.laload, 1) := by decide +kernel
theorem dX3_takes_42 : decode cX3_takes 42 = .ok (.invokestatic 26, 3) := by decide +kernel
theorem dX3_takes_45 : decode cX3_takes 45 = .ok (.ifCond .eq 15, 3) := by decide +kernel
theorem dX3_takes_48 : decode cX3_takes 48 = .ok (.aload_n 0, 1) := by decide +kernel
theorem dX3_takes_49 : decode cX3_takes 49 = .ok (.getfield 19, 3) := by decide +kernel
theorem dX3_takes_52 : decode cX3_takes 52 = .ok (.iload_n 3, 1) := by decide +kernel
theorem dX3_takes_53 : decode cX3_takes 53 = .ok (.laload, 1) := by decide +kernel
theorem dX3_takes_54 : decode cX3_takes 54 = .ok (.invokestatic 26, 3) := by decide +kernel
theorem dX3_takes_57 : decode cX3_takes 57 = .ok (.ifCond .ne 5, 3) := by decide +kernel
theorem dX3_takes_60 : decode cX3_takes 60 = .ok (.iconst 0, 1) := by decide +kernel
theorem dX3_takes_61 : decode cX3_takes 61 = .ok (.ireturn, 1) := by decide +kernel
theorem dX3_takes_62 : decode cX3_takes 62 = .ok (.iinc 3 1, 3) := by decide +kernel
theorem dX3_takes_65 : decode cX3_takes 65 = .ok (.goto (-58), 3) := by decide +kernel
theorem dX3_takes_68 : decode cX3_takes 68 = .ok (.aload_n 0, 1) := by decide +kernel
theorem dX3_takes_69 : decode cX3_takes 69 = .ok (.iload_n 2, 1) := by decide +kernel
theorem dX3_takes_70 : decode cX3_takes 70 = .ok (.putfield 22, 3) := by decide +kernel
theorem dX3_takes_73 : decode cX3_takes 73 = .ok (.iconst 1, 1) := by decide +kernel
theorem dX3_takes_74 : decode cX3_takes 74 = .ok (.ireturn, 1) := by decide +kernel
theorem dX3_isFit_0 : decode cX3_isFit 0 = .ok (.lload_n 0, 1) := by decide +kernel
theorem dX3_isFit_1 : decode cX3_isFit 1 = .ok (.lconst 1, 1) := by decide +kernel
theorem dX3_isFit_2 : decode cX3_isFit 2 = .ok (.lcmp, 1) := by decide +kernel
theorem dX3_isFit_3 : decode cX3_isFit 3 = .ok (.ifCond .lt 15, 3) := by decide +kernel
theorem dX3_isFit_6 : decode cX3_isFit 6 = .ok (.lload_n 0, 1) := by decide +kernel
theorem dX3_isFit_7 : decode cX3_isFit 7 = .ok (.ldc2_w 30, 3) := by decide +kernel
theorem dX3_isFit_10 : decode cX3_isFit 10 = .ok (.lcmp, 1) := by decide +kernel
theorem dX3_isFit_11 : decode cX3_isFit 11 = .ok (.ifCond .gt 7, 3) := by decide +kernel
theorem dX3_isFit_14 : decode cX3_isFit 14 = .ok (.iconst 1, 1) := by decide +kernel
theorem dX3_isFit_15 : decode cX3_isFit 15 = .ok (.goto 4, 3) := by decide +kernel
theorem dX3_isFit_18 : decode cX3_isFit 18 = .ok (.iconst 0, 1) := by decide +kernel
theorem dX3_isFit_19 : decode cX3_isFit 19 = .ok (.ireturn, 1) := by decide +kernel
theorem dX3_arrange_0 : decode cX3_arrange 0 = .ok (.iconst 0, 1) := by decide +kernel
theorem dX3_arrange_1 : decode cX3_arrange 1 = .ok (.istore_n 1, 1) := by decide +kernel
theorem dX3_arrange_2 : decode cX3_arrange 2 = .ok (.iload_n 1, 1) := by decide +kernel
theorem dX3_arrange_3 : decode cX3_arrange 3 = .ok (.aload_n 0, 1) := by decide +kernel
theorem dX3_arrange_4 : decode cX3_arrange 4 = .ok (.getfield 22, 3) := by decide +kernel
theorem dX3_arrange_7 : decode cX3_arrange 7 = .ok (.if_icmp .ge 58, 3) := by decide +kernel
theorem dX3_arrange_10 : decode cX3_arrange 10 = .ok (.iload_n 1, 1) := by decide +kernel
theorem dX3_arrange_11 : decode cX3_arrange 11 = .ok (.istore_n 2, 1) := by decide +kernel
theorem dX3_arrange_12 : decode cX3_arrange 12 = .ok (.iload_n 2, 1) := by decide +kernel
theorem dX3_arrange_13 : decode cX3_arrange 13 = .ok (.ifCond .le 39, 3) := by decide +kernel
theorem dX3_arrange_16 : decode cX3_arrange 16 = .ok (.aload_n 0, 1) := by decide +kernel
theorem dX3_arrange_17 : decode cX3_arrange 17 = .ok (.iload_n 1, 1) := by decide +kernel
theorem dX3_arrange_18 : decode cX3_arrange 18 = .ok (.aload_n 0, 1) := by decide +kernel
theorem dX3_arrange_19 : decode cX3_arrange 19 = .ok (.getfield 9, 3) := by decide +kernel
theorem dX3_arrange_22 : decode cX3_arrange 22 = .ok (.iload_n 2, 1) := by decide +kernel
theorem dX3_arrange_23 : decode cX3_arrange 23 = .ok (.iconst 1, 1) := by decide +kernel
theorem dX3_arrange_24 : decode cX3_arrange 24 = .ok (.isub, 1) := by decide +kernel
theorem dX3_arrange_25 : decode cX3_arrange 25 = .ok (.iaload, 1) := by decide +kernel
theorem dX3_arrange_26 : decode cX3_arrange 26 = .ok (.invokevirtual 32, 3) := by decide +kernel
theorem dX3_arrange_29 : decode cX3_arrange 29 = .ok (.ifCond .eq 23, 3) := by decide +kernel
theorem dX3_arrange_32 : decode cX3_arrange 32 = .ok (.aload_n 0, 1) := by decide +kernel
theorem dX3_arrange_33 : decode cX3_arrange 33 = .ok (.getfield 9, 3) := by decide +kernel
theorem dX3_arrange_36 : decode cX3_arrange 36 = .ok (.iload_n 2, 1) := by decide +kernel
theorem dX3_arrange_37 : decode cX3_arrange 37 = .ok (.aload_n 0, 1) := by decide +kernel
theorem dX3_arrange_38 : decode cX3_arrange 38 = .ok (.getfield 9, 3) := by decide +kernel
theorem dX3_arrange_41 : decode cX3_arrange 41 = .ok (.iload_n 2, 1) := by decide +kernel
theorem dX3_arrange_42 : decode cX3_arrange 42 = .ok (.iconst 1, 1) := by decide +kernel
theorem dX3_arrange_43 : decode cX3_arrange 43 = .ok (.isub, 1) := by decide +kernel
theorem dX3_arrange_44 : decode cX3_arrange 44 = .ok (.iaload, 1) := by decide +kernel
theorem dX3_arrange_45 : decode cX3_arrange 45 = .ok (.iastore, 1) := by decide +kernel
theorem dX3_arrange_46 : decode cX3_arrange 46 = .ok (.iinc 2 (-1), 3) := by decide +kernel
theorem dX3_arrange_49 : decode cX3_arrange 49 = .ok (.goto (-37), 3) := by decide +kernel
theorem dX3_arrange_52 : decode cX3_arrange 52 = .ok (.aload_n 0, 1) := by decide +kernel
theorem dX3_arrange_53 : decode cX3_arrange 53 = .ok (.getfield 9, 3) := by decide +kernel
theorem dX3_arrange_56 : decode cX3_arrange 56 = .ok (.iload_n 2, 1) := by decide +kernel
theorem dX3_arrange_57 : decode cX3_arrange 57 = .ok (.iload_n 1, 1) := by decide +kernel
theorem dX3_arrange_58 : decode cX3_arrange 58 = .ok (.iastore, 1) := by decide +kernel
theorem dX3_arrange_59 : decode cX3_arrange 59 = .ok (.iinc 1 1, 3) := by decide +kernel
theorem dX3_arrange_62 : decode cX3_arrange 62 = .ok (.goto (-60), 3) := by decide +kernel
theorem dX3_arrange_65 : decode cX3_arrange 65 = .ok (.return_, 1) := by decide +kernel
theorem dX3_isCheaper_0 : decode cX3_isCheaper 0 = .ok (.aload_n 0, 1) := by decide +kernel
theorem dX3_isCheaper_1 : decode cX3_isCheaper 1 = .ok (.getfield 19, 3) := by decide +kernel
theorem dX3_isCheaper_4 : decode cX3_isCheaper 4 = .ok (.iload_n 1, 1) := by decide +kernel
theorem dX3_isCheaper_5 : decode cX3_isCheaper 5 = .ok (.laload, 1) := by decide +kernel
theorem dX3_isCheaper_6 : decode cX3_isCheaper 6 = .ok (.aload_n 0, 1) := by decide +kernel
theorem dX3_isCheaper_7 : decode cX3_isCheaper 7 = .ok (.getfield 15, 3) := by decide +kernel
theorem dX3_isCheaper_10 : decode cX3_isCheaper 10 = .ok (.iload_n 2, 1) := by decide +kernel
theorem dX3_isCheaper_11 : decode cX3_isCheaper 11 = .ok (.laload, 1) := by decide +kernel
theorem dX3_isCheaper_12 : decode cX3_isCheaper 12 = .ok (.lmul, 1) := by decide +kernel
theorem dX3_isCheaper_13 : decode cX3_isCheaper 13 = .ok (.aload_n 0, 1) := by decide +kernel
theorem dX3_isCheaper_14 : decode cX3_isCheaper 14 = .ok (.getfield 19, 3) := by decide +kernel
theorem dX3_isCheaper_17 : decode cX3_isCheaper 17 = .ok (.iload_n 2, 1) := by decide +kernel
theorem dX3_isCheaper_18 : decode cX3_isCheaper 18 = .ok (.laload, 1) := by decide +kernel
theorem dX3_isCheaper_19 : decode cX3_isCheaper 19 = .ok (.aload_n 0, 1) := by decide +kernel
theorem dX3_isCheaper_20 : decode cX3_isCheaper 20 = .ok (.getfield 15, 3) := by decide +kernel
theorem dX3_isCheaper_23 : decode cX3_isCheaper 23 = .ok (.iload_n 1, 1) := by decide +kernel
theorem dX3_isCheaper_24 : decode cX3_isCheaper 24 = .ok (.laload, 1) := by decide +kernel
theorem dX3_isCheaper_25 : decode cX3_isCheaper 25 = .ok (.lmul, 1) := by decide +kernel
theorem dX3_isCheaper_26 : decode cX3_isCheaper 26 = .ok (.lcmp, 1) := by decide +kernel
theorem dX3_isCheaper_27 : decode cX3_isCheaper 27 = .ok (.ifCond .ge 7, 3) := by decide +kernel
theorem dX3_isCheaper_30 : decode cX3_isCheaper 30 = .ok (.iconst 1, 1) := by decide +kernel
theorem dX3_isCheaper_31 : decode cX3_isCheaper 31 = .ok (.goto 4, 3) := by decide +kernel
theorem dX3_isCheaper_34 : decode cX3_isCheaper 34 = .ok (.iconst 0, 1) := by decide +kernel
theorem dX3_isCheaper_35 : decode cX3_isCheaper 35 = .ok (.ireturn, 1) := by decide +kernel
theorem dX3_weightedCosts_0 : decode cX3_weightedCosts 0 = .ok (.lconst 0, 1) := by decide +kernel
theorem dX3_weightedCosts_1 : decode cX3_weightedCosts 1 = .ok (.lstore_n 1, 1) := by decide +kernel
theorem dX3_weightedCosts_2 : decode cX3_weightedCosts 2 = .ok (.lconst 0, 1) := by decide +kernel
theorem dX3_weightedCosts_3 : decode cX3_weightedCosts 3 = .ok (.lstore_n 3, 1) := by decide +kernel
theorem dX3_weightedCosts_4 : decode cX3_weightedCosts 4 = .ok (.iconst 0, 1) := by decide +kernel
theorem dX3_weightedCosts_5 : decode cX3_weightedCosts 5 = .ok (.istore 5, 2) := by decide +kernel
theorem dX3_weightedCosts_7 : decode cX3_weightedCosts 7 = .ok (.iload 5, 2) := by decide +kernel
theorem dX3_weightedCosts_9 : decode cX3_weightedCosts 9 = .ok (.aload_n 0, 1) := by decide +kernel
theorem dX3_weightedCosts_10 : decode cX3_weightedCosts 10 = .ok (.getfield 22, 3) := by decide +kernel
theorem dX3_weightedCosts_13 : decode cX3_weightedCosts 13 = .ok (.if_icmp .ge 41, 3) := by decide +kernel
theorem dX3_weightedCosts_16 : decode cX3_weightedCosts 16 = .ok (.lload_n 1, 1) := by decide +kernel
theorem dX3_weightedCosts_17 : decode cX3_weightedCosts 17 = .ok (.aload_n 0, 1) := by decide +kernel
theorem dX3_weightedCosts_18 : decode cX3_weightedCosts 18 = .ok (.getfield 19, 3) := by decide +kernel
theorem dX3_weightedCosts_21 : decode cX3_weightedCosts 21 = .ok (.aload_n 0, 1) := by decide +kernel
theorem dX3_weightedCosts_22 : decode cX3_weightedCosts 22 = .ok (.getfield 9, 3) := by decide +kernel
theorem dX3_weightedCosts_25 : decode cX3_weightedCosts 25 = .ok (.iload 5, 2) := by decide +kernel
theorem dX3_weightedCosts_27 : decode cX3_weightedCosts 27 = .ok (.iaload, 1) := by decide +kernel
theorem dX3_weightedCosts_28 : decode cX3_weightedCosts 28 = .ok (.laload, 1) := by decide +kernel
theorem dX3_weightedCosts_29 : decode cX3_weightedCosts 29 = .ok (.ladd, 1) := by decide +kernel
theorem dX3_weightedCosts_30 : decode cX3_weightedCosts 30 = .ok (.lstore_n 1, 1) := by decide +kernel
theorem dX3_weightedCosts_31 : decode cX3_weightedCosts 31 = .ok (.lload_n 3, 1) := by decide +kernel
theorem dX3_weightedCosts_32 : decode cX3_weightedCosts 32 = .ok (.aload_n 0, 1) := by decide +kernel
theorem dX3_weightedCosts_33 : decode cX3_weightedCosts 33 = .ok (.getfield 15, 3) := by decide +kernel
theorem dX3_weightedCosts_36 : decode cX3_weightedCosts 36 = .ok (.aload_n 0, 1) := by decide +kernel
theorem dX3_weightedCosts_37 : decode cX3_weightedCosts 37 = .ok (.getfield 9, 3) := by decide +kernel
theorem dX3_weightedCosts_40 : decode cX3_weightedCosts 40 = .ok (.iload 5, 2) := by decide +kernel
theorem dX3_weightedCosts_42 : decode cX3_weightedCosts 42 = .ok (.iaload, 1) := by decide +kernel
theorem dX3_weightedCosts_43 : decode cX3_weightedCosts 43 = .ok (.laload, 1) := by decide +kernel
theorem dX3_weightedCosts_44 : decode cX3_weightedCosts 44 = .ok (.lload_n 1, 1) := by decide +kernel
theorem dX3_weightedCosts_45 : decode cX3_weightedCosts 45 = .ok (.lmul, 1) := by decide +kernel
theorem dX3_weightedCosts_46 : decode cX3_weightedCosts 46 = .ok (.ladd, 1) := by decide +kernel
theorem dX3_weightedCosts_47 : decode cX3_weightedCosts 47 = .ok (.lstore_n 3, 1) := by decide +kernel
theorem dX3_weightedCosts_48 : decode cX3_weightedCosts 48 = .ok (.iinc 5 1, 3) := by decide +kernel
theorem dX3_weightedCosts_51 : decode cX3_weightedCosts 51 = .ok (.goto (-44), 3) := by decide +kernel
theorem dX3_weightedCosts_54 : decode cX3_weightedCosts 54 = .ok (.lload_n 3, 1) := by decide +kernel
theorem dX3_weightedCosts_55 : decode cX3_weightedCosts 55 = .ok (.lreturn, 1) := by decide +kernel
theorem dX3_weights_0 : decode cX3_weights 0 = .ok (.lconst 0, 1) := by decide +kernel
theorem dX3_weights_1 : decode cX3_weights 1 = .ok (.lstore_n 1, 1) := by decide +kernel
theorem dX3_weights_2 : decode cX3_weights 2 = .ok (.iconst 0, 1) := by decide +kernel
theorem dX3_weights_3 : decode cX3_weights 3 = .ok (.istore_n 3, 1) := by decide +kernel
theorem dX3_weights_4 : decode cX3_weights 4 = .ok (.iload_n 3, 1) := by decide +kernel
theorem dX3_weights_5 : decode cX3_weights 5 = .ok (.aload_n 0, 1) := by decide +kernel
theorem dX3_weights_6 : decode cX3_weights 6 = .ok (.getfield 22, 3) := by decide +kernel
theorem dX3_weights_9 : decode cX3_weights 9 = .ok (.if_icmp .ge 18, 3) := by decide +kernel
theorem dX3_weights_12 : decode cX3_weights 12 = .ok (.lload_n 1, 1) := by decide +kernel
theorem dX3_weights_13 : decode cX3_weights 13 = .ok (.aload_n 0, 1) := by decide +kernel
theorem dX3_weights_14 : decode cX3_weights 14 = .ok (.getfield 15, 3) := by decide +kernel
theorem dX3_weights_17 : decode cX3_weights 17 = .ok (.iload_n 3, 1) := by decide +kernel
theorem dX3_weights_18 : decode cX3_weights 18 = .ok (.laload, 1) := by decide +kernel
theorem dX3_weights_19 : decode cX3_weights 19 = .ok (.ladd, 1) := by decide +kernel
theorem dX3_weights_20 : decode cX3_weights 20 = .ok (.lstore_n 1, 1) := by decide +kernel
theorem dX3_weights_21 : decode cX3_weights 21 = .ok (.iinc 3 1, 3) := by decide +kernel
theorem dX3_weights_24 : decode cX3_weights 24 = .ok (.goto (-20), 3) := by decide +kernel
theorem dX3_weights_27 : decode cX3_weights 27 = .ok (.lload_n 1, 1) := by decide +kernel
theorem dX3_weights_28 : decode cX3_weights 28 = .ok (.lreturn, 1) := by decide +kernel
theorem dX4_init_0 : decode cX4_init 0 = .ok (.aload_n 0, 1) := by decide +kernel
theorem dX4_init_1 : decode cX4_init 1 = .ok (.invokespecial 3, 3) := by decide +kernel
theorem dX4_init_4 : decode cX4_init 4 = .ok (.aload_n 0, 1) := by decide +kernel
theorem dX4_init_5 : decode cX4_init 5 = .ok (.new 9, 3) := by decide +kernel
theorem dX4_init_8 : decode cX4_init 8 = .ok (.dup, 1) := by decide +kernel
theorem dX4_init_9 : decode cX4_init 9 = .ok (.invokespecial 11, 3) := by decide +kernel
theorem dX4_init_12 : decode cX4_init 12 = .ok (.putfield 12, 3) := by decide +kernel
theorem dX4_init_15 : decode cX4_init 15 = .ok (.aload_n 0, 1) := by decide +kernel
theorem dX4_init_16 : decode cX4_init 16 = .ok (.new 9, 3) := by decide +kernel
theorem dX4_init_19 : decode cX4_init 19 = .ok (.dup, 1) := by decide +kernel
theorem dX4_init_20 : decode cX4_init 20 = .ok (.invokespecial 11, 3) := by decide +kernel
theorem dX4_init_23 : decode cX4_init 23 = .ok (.putfield 18, 3) := by decide +kernel
theorem dX4_init_26 : decode cX4_init 26 = .ok (.aload_n 0, 1) := by decide +kernel
theorem dX4_init_27 : decode cX4_init 27 = .ok (.bipush 80, 2) := by decide +kernel
theorem dX4_init_29 : decode cX4_init 29 = .ok (.newarray .int, 2) := by decide +kernel
theorem dX4_init_31 : decode cX4_init 31 = .ok (.putfield 21, 3) := by decide +kernel
theorem dX4_init_34 : decode cX4_init 34 = .ok (.aload_n 0, 1) := by decide +kernel
theorem dX4_init_35 : decode cX4_init 35 = .ok (.bipush 80, 2) := by decide +kernel
theorem dX4_init_37 : decode cX4_init 37 = .ok (.newarray .int, 2) := by decide +kernel
theorem dX4_init_39 : decode cX4_init 39 = .ok (.putfield 25, 3) := by decide +kernel
theorem dX4_init_42 : decode cX4_init 42 = .ok (.aload_n 0, 1) := by decide +kernel
theorem dX4_init_43 : decode cX4_init 43 = .ok (.bipush 80, 2) := by decide +kernel
theorem dX4_init_45 : decode cX4_init 45 = .ok (.newarray .int, 2) := by decide +kernel
theorem dX4_init_47 : decode cX4_init 47 = .ok (.putfield 28, 3) := by decide +kernel
theorem dX4_init_50 : decode cX4_init 50 = .ok (.aload_n 0, 1) := by decide +kernel
theorem dX4_init_51 : decode cX4_init 51 = .ok (.bipush 80, 2) := by decide +kernel
theorem dX4_init_53 : decode cX4_init 53 = .ok (.newarray .int, 2) := by decide +kernel
theorem dX4_init_55 : decode cX4_init 55 = .ok (.putfield 31, 3) := by decide +kernel
theorem dX4_init_58 : decode cX4_init 58 = .ok (.aload_n 0, 1) := by decide +kernel
theorem dX4_init_59 : decode cX4_init 59 = .ok (.iconst 0, 1) := by decide +kernel
theorem dX4_init_60 : decode cX4_init 60 = .ok (.putfield 34, 3) := by decide +kernel
theorem dX4_init_63 : decode cX4_init 63 = .ok (.aload_n 0, 1) := by decide +kernel
theorem dX4_init_64 : decode cX4_init 64 = .ok (.getfield 21, 3) := by decide +kernel
theorem dX4_init_67 : decode cX4_init 67 = .ok (.iconst (-1), 1) := by decide +kernel
theorem dX4_init_68 : decode cX4_init 68 = .ok (.invokestatic 38, 3) := by decide +kernel
theorem dX4_init_71 : decode cX4_init 71 = .ok (.return_, 1) := by decide +kernel
theorem dX4_isGoalOfAnother_0 : decode cX4_isGoalOfAnother 0 = .ok (.iconst 0, 1) := by decide +kernel
theorem dX4_isGoalOfAnother_1 : decode cX4_isGoalOfAnother 1 = .ok (.istore_n 3, 1) := by decide +kernel
theorem dX4_isGoalOfAnother_2 : decode cX4_isGoalOfAnother 2 = .ok (.iload_n 3, 1) := by decide +kernel
theorem dX4_isGoalOfAnother_3 : decode cX4_isGoalOfAnother 3 = .ok (.bipush 80, 2) := by decide +kernel
theorem dX4_isGoalOfAnother_5 : decode cX4_isGoalOfAnother 5 = .ok (.if_icmp .ge 26, 3) := by decide +kernel
theorem dX4_isGoalOfAnother_8 : decode cX4_isGoalOfAnother 8 = .ok (.aload_n 0, 1) := by decide +kernel
theorem dX4_isGoalOfAnother_9 : decode cX4_isGoalOfAnother 9 = .ok (.getfield 21, 3) := by decide +kernel
theorem dX4_isGoalOfAnother_12 : decode cX4_isGoalOfAnother 12 = .ok (.iload_n 3, 1) := by decide +kernel
theorem dX4_isGoalOfAnother_13 : decode cX4_isGoalOfAnother 13 = .ok (.iaload, 1) := by decide +kernel
theorem dX4_isGoalOfAnother_14 : decode cX4_isGoalOfAnother 14 = .ok (.iload_n 1, 1) := by decide +kernel
theorem dX4_isGoalOfAnother_15 : decode cX4_isGoalOfAnother 15 = .ok (.if_icmp .ne 10, 3) := by decide +kernel
theorem dX4_isGoalOfAnother_18 : decode cX4_isGoalOfAnother 18 = .ok (.iload_n 3, 1) := by decide +kernel
theorem dX4_isGoalOfAnother_19 : decode cX4_isGoalOfAnother 19 = .ok (.iload_n 2, 1) := by decide +kernel
theorem dX4_isGoalOfAnother_20 : decode cX4_isGoalOfAnother 20 = .ok (.if_icmp .eq 5, 3) := by decide +kernel
theorem dX4_isGoalOfAnother_23 : decode cX4_isGoalOfAnother 23 = .ok (.iconst 1, 1) := by decide +kernel
theorem dX4_isGoalOfAnother_24 : decode cX4_isGoalOfAnother 24 = .ok (.ireturn, 1) := by decide +kernel
theorem dX4_isGoalOfAnother_25 : decode cX4_isGoalOfAnother 25 = .ok (.iinc 3 1, 3) := by decide +kernel
theorem dX4_isGoalOfAnother_28 : decode cX4_isGoalOfAnother 28 = .ok (.goto (-26), 3) := by decide +kernel
theorem dX4_isGoalOfAnother_31 : decode cX4_isGoalOfAnother 31 = .ok (.iconst 0, 1) := by decide +kernel
theorem dX4_isGoalOfAnother_32 : decode cX4_isGoalOfAnother 32 = .ok (.ireturn, 1) := by decide +kernel
theorem dX4_makePlan_0 : decode cX4_makePlan 0 = .ok (.aload_n 0, 1) := by decide +kernel
theorem dX4_makePlan_1 : decode cX4_makePlan 1 = .ok (.iconst 0, 1) := by decide +kernel
theorem dX4_makePlan_2 : decode cX4_makePlan 2 = .ok (.putfield 34, 3) := by decide +kernel
theorem dX4_makePlan_5 : decode cX4_makePlan 5 = .ok (.aload_n 0, 1) := by decide +kernel
theorem dX4_makePlan_6 : decode cX4_makePlan 6 = .ok (.getfield 18, 3) := by decide +kernel
theorem dX4_makePlan_9 : decode cX4_makePlan 9 = .ok (.aload_n 0, 1) := by decide +kernel
theorem dX4_makePlan_10 : decode cX4_makePlan 10 = .ok (.getfield 12, 3) := by decide +kernel
theorem dX4_makePlan_13 : decode cX4_makePlan 13 = .ok (.invokevirtual 44, 3) := by decide +kernel
theorem dX4_makePlan_16 : decode cX4_makePlan 16 = .ok (.aload_n 0, 1) := by decide +kernel
theorem dX4_makePlan_17 : decode cX4_makePlan 17 = .ok (.invokevirtual 48, 3) := by decide +kernel
theorem dX4_makePlan_20 : decode cX4_makePlan 20 = .ok (.ifCond .eq 5, 3) := by decide +kernel
theorem dX4_makePlan_23 : decode cX4_makePlan 23 = .ok (.iconst 0, 1) := by decide +kernel
theorem dX4_makePlan_24 : decode cX4_makePlan 24 = .ok (.ireturn, 1) := by decide +kernel
theorem dX4_makePlan_25 : decode cX4_makePlan 25 = .ok (.iconst 0, 1) := by decide +kernel
theorem dX4_makePlan_26 : decode cX4_makePlan 26 = .ok (.istore_n 1, 1) := by decide +kernel
theorem dX4_makePlan_27 : decode cX4_makePlan 27 = .ok (.iload_n 1, 1) := by decide +kernel
theorem dX4_makePlan_28 : decode cX4_makePlan 28 = .ok (.bipush 80, 2) := by decide +kernel
theorem dX4_makePlan_30 : decode cX4_makePlan 30 = .ok (.if_icmp .ge 59, 3) := by decide +kernel
theorem dX4_makePlan_33 : decode cX4_makePlan 33 = .ok (.aload_n 0, 1) := by decide +kernel
theorem dX4_makePlan_34 : decode cX4_makePlan 34 = .ok (.invokevirtual 52, 3) := by decide +kernel
theorem dX4_makePlan_37 : decode cX4_makePlan 37 = .ok (.istore_n 2, 1) := by decide +kernel
theorem dX4_makePlan_38 : decode cX4_makePlan 38 = .ok (.iload_n 2, 1) := by decide +kernel
theorem dX4_makePlan_39 : decode cX4_makePlan 39 = .ok (.iconst (-1), 1) := by decide +kernel
theorem dX4_makePlan_40 : decode cX4_makePlan 40 = .ok (.if_icmp .ne 5, 3) := by decide +kernel
theorem dX4_makePlan_43 : decode cX4_makePlan 43 = .ok (.iconst 1, 1) := by decide +kernel
theorem dX4_makePlan_44 : decode cX4_makePlan 44 = .ok (.ireturn, 1) := by decide +kernel
theorem dX4_makePlan_45 : decode cX4_makePlan 45 = .ok (.aload_n 0, 1) := by decide +kernel
theorem dX4_makePlan_46 : decode cX4_makePlan 46 = .ok (.iload_n 2, 1) := by decide +kernel
theorem dX4_makePlan_47 : decode cX4_makePlan 47 = .ok (.invokevirtual 56, 3) := by decide +kernel
theorem dX4_makePlan_50 : decode cX4_makePlan 50 = .ok (.ifCond .eq 12, 3) := by decide +kernel
theorem dX4_makePlan_53 : decode cX4_makePlan 53 = .ok (.aload_n 0, 1) := by decide +kernel
theorem dX4_makePlan_54 : decode cX4_makePlan 54 = .ok (.getfield 21, 3) := by decide +kernel
theorem dX4_makePlan_57 : decode cX4_makePlan 57 = .ok (.iload_n 2, 1) := by decide +kernel
theorem dX4_makePlan_58 : decode cX4_makePlan 58 = .ok (.iaload, 1) := by decide +kernel
theorem dX4_makePlan_59 : decode cX4_makePlan 59 = .ok (.goto 10, 3) := by decide +kernel
theorem dX4_makePlan_62 : decode cX4_makePlan 62 = .ok (.aload_n 0, 1) := by decide +kernel
theorem dX4_makePlan_63 : decode cX4_makePlan 63 = .ok (.getfield 18, 3) := by decide +kernel
theorem dX4_makePlan_66 : decode cX4_makePlan 66 = .ok (.invokevirtual 60, 3) := by decide +kernel
theorem dX4_makePlan_69 : decode cX4_makePlan 69 = .ok (.istore_n 3, 1) := by decide +kernel
theorem dX4_makePlan_70 : decode cX4_makePlan 70 = .ok (.iload_n 3, 1) := by decide +kernel
theorem dX4_makePlan_71 : decode cX4_makePlan 71 = .ok (.iconst (-1), 1) := by decide +kernel
theorem dX4_makePlan_72 : decode cX4_makePlan 72 = .ok (.if_icmp .ne 5, 3) := by decide +kernel
theorem dX4_makePlan_75 : decode cX4_makePlan 75 = .ok (.iconst 0, 1) := by decide +kernel
theorem dX4_makePlan_76 : decode cX4_makePlan 76 = .ok (.ireturn, 1) := by decide +kernel
theorem dX4_makePlan_77 : decode cX4_makePlan 77 = .ok (.aload_n 0, 1) := by decide +kernel
theorem dX4_makePlan_78 : decode cX4_makePlan 78 = .ok (.iload_n 2, 1) := by decide +kernel
theorem dX4_makePlan_79 : decode cX4_makePlan 79 = .ok (.iload_n 3, 1) := by decide +kernel
theorem dX4_makePlan_80 : decode cX4_makePlan 80 = .ok (.invokevirtual 63, 3) := by decide +kernel
theorem dX4_makePlan_83 : decode cX4_makePlan 83 = .ok (.iinc 1 1, 3) := by decide +kernel
theorem dX4_makePlan_86 : decode cX4_makePlan 86 = .ok (.goto (-59), 3) := by decide +kernel
theorem dX4_makePlan_89 : decode cX4_makePlan 89 = .ok (.aload_n 0, 1) := by decide +kernel
theorem dX4_makePlan_90 : decode cX4_makePlan 90 = .ok (.invokevirtual 52, 3) := by decide +kernel
theorem dX4_makePlan_93 : decode cX4_makePlan 93 = .ok (.iconst (-1), 1) := by decide +kernel
theorem dX4_makePlan_94 : decode cX4_makePlan 94 = .ok (.if_icmp .ne 7, 3) := by decide +kernel
theorem dX4_makePlan_97 : decode cX4_makePlan 97 = .ok (.iconst 1, 1) := by decide +kernel
theorem dX4_makePlan_98 : decode cX4_makePlan 98 = .ok (.goto 4, 3) := by decide +kernel
theorem dX4_makePlan_101 : decode cX4_makePlan 101 = .ok (.iconst 0, 1) := by decide +kernel
theorem dX4_makePlan_102 : decode cX4_makePlan 102 = .ok (.ireturn, 1) := by decide +kernel
theorem dX4_isGoalBlocked_0 : decode cX4_isGoalBlocked 0 = .ok (.iconst 0, 1) := by decide +kernel
theorem dX4_isGoalBlocked_1 : decode cX4_isGoalBlocked 1 = .ok (.istore_n 1, 1) := by decide +kernel
theorem dX4_isGoalBlocked_2 : decode cX4_isGoalBlocked 2 = .ok (.iload_n 1, 1) := by decide +kernel
theorem dX4_isGoalBlocked_3 : decode cX4_isGoalBlocked 3 = .ok (.bipush 80, 2) := by decide +kernel
theorem dX4_isGoalBlocked_5 : decode cX4_isGoalBlocked 5 = .ok (.if_icmp .ge 49, 3) := by decide +kernel
theorem dX4_isGoalBlocked_8 : decode cX4_isGoalBlocked 8 = .ok (.aload_n 0, 1) := by decide +kernel
theorem dX4_isGoalBlocked_9 : decode cX4_isGoalBlocked 9 = .ok (.iload_n 1, 1) := by decide +kernel
theorem dX4_isGoalBlocked_10 : decode cX4_isGoalBlocked 10 = .ok (.invokevirtual 67, 3) := by decide +kernel
theorem dX4_isGoalBlocked_13 : decode cX4_isGoalBlocked 13 = .ok (.ifCond .eq 35, 3) := by decide +kernel
theorem dX4_isGoalBlocked_16 : decode cX4_isGoalBlocked 16 = .ok (.aload_n 0, 1) := by decide +kernel
theorem dX4_isGoalBlocked_17 : decode cX4_isGoalBlocked 17 = .ok (.getfield 12, 3) := by decide +kernel
theorem dX4_isGoalBlocked_20 : decode cX4_isGoalBlocked 20 = .ok (.getfield 70, 3) := by decide +kernel
theorem dX4_isGoalBlocked_23 : decode cX4_isGoalBlocked 23 = .ok (.aload_n 0, 1) := by decide +kernel
theorem dX4_isGoalBlocked_24 : decode cX4_isGoalBlocked 24 = .ok (.getfield 21, 3) := by decide +kernel
theorem dX4_isGoalBlocked_27 : decode cX4_isGoalBlocked 27 = .ok (.iload_n 1, 1) := by decide +kernel
theorem dX4_isGoalBlocked_28 : decode cX4_isGoalBlocked 28 = .ok (.iaload, 1) := by decide +kernel
theorem dX4_isGoalBlocked_29 : decode cX4_isGoalBlocked 29 = .ok (.iaload, 1) := by decide +kernel
theorem dX4_isGoalBlocked_30 : decode cX4_isGoalBlocked 30 = .ok (.istore_n 2, 1) := by decide +kernel
theorem dX4_isGoalBlocked_31 : decode cX4_isGoalBlocked 31 = .ok (.iload_n 2, 1) := by decide +kernel
theorem dX4_isGoalBlocked_32 : decode cX4_isGoalBlocked 32 = .ok (.iconst (-1), 1) := by decide +kernel
theorem dX4_isGoalBlocked_33 : decode cX4_isGoalBlocked 33 = .ok (.if_icmp .eq 15, 3) := by decide +kernel
theorem dX4_isGoalBlocked_36 : decode cX4_isGoalBlocked 36 = .ok (.aload_n 0, 1) := by decide +kernel
theorem dX4_isGoalBlocked_37 : decode cX4_isGoalBlocked 37 = .ok (.getfield 21, 3) := by decide +kernel
theorem dX4_isGoalBlocked_40 : decode cX4_isGoalBlocked 40 = .ok (.iload_n 2, 1) := by decide +kernel
theorem dX4_isGoalBlocked_41 : decode cX4_isGoalBlocked 41 = .ok (.iaload, 1) := by decide +kernel
theorem dX4_isGoalBlocked_42 : decode cX4_isGoalBlocked 42 = .ok (.iconst (-1), 1) := by decide +kernel
theorem dX4_isGoalBlocked_43 : decode cX4_isGoalBlocked 43 = .ok (.if_icmp .ne 5, 3) := by decide +kernel
theorem dX4_isGoalBlocked_46 : decode cX4_isGoalBlocked 46 = .ok (.iconst 1, 1) := by decide +kernel
theorem dX4_isGoalBlocked_47 : decode cX4_isGoalBlocked 47 = .ok (.ireturn, 1) := by decide +kernel
theorem dX4_isGoalBlocked_48 : decode cX4_isGoalBlocked 48 = .ok (.iinc 1 1, 3) := by decide +kernel
theorem dX4_isGoalBlocked_51 : decode cX4_isGoalBlocked 51 = .ok (.goto (-49), 3) := by decide +kernel
theorem dX4_isGoalBlocked_54 : decode cX4_isGoalBlocked 54 = .ok (.iconst 0, 1) := by decide +kernel
theorem dX4_isGoalBlocked_55 : decode cX4_isGoalBlocked 55 = .ok (.ireturn, 1) := by decide +kernel
theorem dX4_nextBox_0 : decode cX4_nextBox 0 = .ok (.iconst (-1), 1) := by decide +kernel
theorem dX4_nextBox_1 : decode cX4_nextBox 1 = .ok (.istore_n 1, 1) := by decide +kernel
theorem dX4_nextBox_2 : decode cX4_nextBox 2 = .ok (.iconst 0, 1) := by decide +kernel
theorem dX4_nextBox_3 : decode cX4_nextBox 3 = .ok (.istore_n 2, 1) := by decide +kernel
theorem dX4_nextBox_4 : decode cX4_nextBox 4 = .ok (.iload_n 2, 1) := by decide +kernel
theorem dX4_nextBox_5 : decode cX4_nextBox 5 = .ok (.bipush 80, 2) := by decide +kernel
theorem dX4_nextBox_7 : decode cX4_nextBox 7 = .ok (.if_icmp .ge 34, 3) := by decide +kernel
theorem dX4_nextBox_10 : decode cX4_nextBox 10 = .ok (.aload_n 0, 1) := by decide +kernel
theorem dX4_nextBox_11 : decode cX4_nextBox 11 = .ok (.iload_n 2, 1) := by decide +kernel
theorem dX4_nextBox_12 : decode cX4_nextBox 12 = .ok (.invokevirtual 67, 3) := by decide +kernel
theorem dX4_nextBox_15 : decode cX4_nextBox 15 = .ok (.ifCond .eq 20, 3) := by decide +kernel
theorem dX4_nextBox_18 : decode cX4_nextBox 18 = .ok (.aload_n 0, 1) := by decide +kernel
theorem dX4_nextBox_19 : decode cX4_nextBox 19 = .ok (.iload_n 2, 1) := by decide +kernel
theorem dX4_nextBox_20 : decode cX4_nextBox 20 = .ok (.invokevirtual 56, 3) := by decide +kernel
theorem dX4_nextBox_23 : decode cX4_nextBox 23 = .ok (.ifCond .eq 5, 3) := by decide +kernel
theorem dX4_nextBox_26 : decode cX4_nextBox 26 = .ok (.iload_n 2, 1) := by decide +kernel
theorem dX4_nextBox_27 : decode cX4_nextBox 27 = .ok (.ireturn, 1) := by decide +kernel
theorem dX4_nextBox_28 : decode cX4_nextBox 28 = .ok (.iload_n 1, 1) := by decide +kernel
theorem dX4_nextBox_29 : decode cX4_nextBox 29 = .ok (.iconst (-1), 1) := by decide +kernel
theorem dX4_nextBox_30 : decode cX4_nextBox 30 = .ok (.if_icmp .ne 5, 3) := by decide +kernel
theorem dX4_nextBox_33 : decode cX4_nextBox 33 = .ok (.iload_n 2, 1) := by decide +kernel
theorem dX4_nextBox_34 : decode cX4_nextBox 34 = .ok (.istore_n 1, 1) := by decide +kernel
theorem dX4_nextBox_35 : decode cX4_nextBox 35 = .ok (.iinc 2 1, 3) := by decide +kernel
theorem dX4_nextBox_38 : decode cX4_nextBox 38 = .ok (.goto (-34), 3) := by decide +kernel
theorem dX4_nextBox_41 : decode cX4_nextBox 41 = .ok (.iload_n 1, 1) := by decide +kernel
theorem dX4_nextBox_42 : decode cX4_nextBox 42 = .ok (.ireturn, 1) := by decide +kernel
theorem dX4_isAstray_0 : decode cX4_isAstray 0 = .ok (.aload_n 0, 1) := by decide +kernel
theorem dX4_isAstray_1 : decode cX4_isAstray 1 = .ok (.getfield 21, 3) := by decide +kernel
theorem dX4_isAstray_4 : decode cX4_isAstray 4 = .ok (.iload_n 1, 1) := by decide +kernel
theorem dX4_isAstray_5 : decode cX4_isAstray 5 = .ok (.iaload, 1) := by decide +kernel
theorem dX4_isAstray_6 : decode cX4_isAstray 6 = .ok (.iconst (-1), 1) := by decide +kernel
theorem dX4_isAstray_7 : decode cX4_isAstray 7 = .ok (.if_icmp .eq 38, 3) := by decide +kernel
theorem dX4_isAstray_10 : decode cX4_isAstray 10 = .ok (.aload_n 0, 1) := by decide +kernel
theorem dX4_isAstray_11 : decode cX4_isAstray 11 = .ok (.getfield 18, 3) := by decide +kernel
theorem dX4_isAstray_14 : decode cX4_isAstray 14 = .ok (.getfield 73, 3) := by decide +kernel
theorem dX4_isAstray_17 : decode cX4_isAstray 17 = .ok (.iload_n 1, 1) := by decide +kernel
theorem dX4_isAstray_18 : decode cX4_isAstray 18 = .ok (.iaload, 1) := by decide +kernel
theorem dX4_isAstray_19 : decode cX4_isAstray 19 = .ok (.iconst (-1), 1) := by decide +kernel
theorem dX4_isAstray_20 : decode cX4_isAstray 20 = .ok (.if_icmp .eq 25, 3) := by decide +kernel
theorem dX4_isAstray_23 : decode cX4_isAstray 23 = .ok (.aload_n 0, 1) := by decide +kernel
theorem dX4_isAstray_24 : decode cX4_isAstray 24 = .ok (.getfield 18, 3) := by decide +kernel
theorem dX4_isAstray_27 : decode cX4_isAstray 27 = .ok (.getfield 73, 3) := by decide +kernel
theorem dX4_isAstray_30 : decode cX4_isAstray 30 = .ok (.iload_n 1, 1) := by decide +kernel
theorem dX4_isAstray_31 : decode cX4_isAstray 31 = .ok (.iaload, 1) := by decide +kernel
theorem dX4_isAstray_32 : decode cX4_isAstray 32 = .ok (.aload_n 0, 1) := by decide +kernel
theorem dX4_isAstray_33 : decode cX4_isAstray 33 = .ok (.getfield 21, 3) := by decide +kernel
theorem dX4_isAstray_36 : decode cX4_isAstray 36 = .ok (.iload_n 1, 1) := by decide +kernel
theorem dX4_isAstray_37 : decode cX4_isAstray 37 = .ok (.iaload, 1) := by decide +kernel
theorem dX4_isAstray_38 : decode cX4_isAstray 38 = .ok (.if_icmp .eq 7, 3) := by decide +kernel
theorem dX4_isAstray_41 : decode cX4_isAstray 41 = .ok (.iconst 1, 1) := by decide +kernel
theorem dX4_isAstray_42 : decode cX4_isAstray 42 = .ok (.goto 4, 3) := by decide +kernel
theorem dX4_isAstray_45 : decode cX4_isAstray 45 = .ok (.iconst 0, 1) := by decide +kernel
theorem dX4_isAstray_46 : decode cX4_isAstray 46 = .ok (.ireturn, 1) := by decide +kernel
theorem dX4_isGoalEmpty_0 : decode cX4_isGoalEmpty 0 = .ok (.aload_n 0, 1) := by decide +kernel
theorem dX4_isGoalEmpty_1 : decode cX4_isGoalEmpty 1 = .ok (.getfield 18, 3) := by decide +kernel
theorem dX4_isGoalEmpty_4 : decode cX4_isGoalEmpty 4 = .ok (.getfield 70, 3) := by decide +kernel
theorem dX4_isGoalEmpty_7 : decode cX4_isGoalEmpty 7 = .ok (.aload_n 0, 1) := by decide +kernel
theorem dX4_isGoalEmpty_8 : decode cX4_isGoalEmpty 8 = .ok (.getfield 21, 3) := by decide +kernel
theorem dX4_isGoalEmpty_11 : decode cX4_isGoalEmpty 11 = .ok (.iload_n 1, 1) := by decide +kernel
theorem dX4_isGoalEmpty_12 : decode cX4_isGoalEmpty 12 = .ok (.iaload, 1) := by decide +kernel
theorem dX4_isGoalEmpty_13 : decode cX4_isGoalEmpty 13 = .ok (.iaload, 1) := by decide +kernel
theorem dX4_isGoalEmpty_14 : decode cX4_isGoalEmpty 14 = .ok (.iconst (-1), 1) := by decide +kernel
theorem dX4_isGoalEmpty_15 : decode cX4_isGoalEmpty 15 = .ok (.if_icmp .ne 7, 3) := by decide +kernel
theorem dX4_isGoalEmpty_18 : decode cX4_isGoalEmpty 18 = .ok (.iconst 1, 1) := by decide +kernel
theorem dX4_isGoalEmpty_19 : decode cX4_isGoalEmpty 19 = .ok (.goto 4, 3) := by decide +kernel
theorem dX4_isGoalEmpty_22 : decode cX4_isGoalEmpty 22 = .ok (.iconst 0, 1) := by decide +kernel
theorem dX4_isGoalEmpty_23 : decode cX4_isGoalEmpty 23 = .ok (.ireturn, 1) := by decide +kernel
theorem dX4_addCarry_0 : decode cX4_addCarry 0 = .ok (.aload_n 0, 1) := by decide +kernel
theorem dX4_addCarry_1 : decode cX4_addCarry 1 = .ok (.getfield 34, 3) := by decide +kernel
theorem dX4_addCarry_4 : decode cX4_addCarry 4 = .ok (.bipush 80, 2) := by decide +kernel
theorem dX4_addCarry_6 : decode cX4_addCarry 6 = .ok (.if_icmp .ge 60, 3) := by decide +kernel
theorem dX4_addCarry_9 : decode cX4_addCarry 9 = .ok (.aload_n 0, 1) := by decide +kernel
theorem dX4_addCarry_10 : decode cX4_addCarry 10 = .ok (.getfield 25, 3) := by decide +kernel
theorem dX4_addCarry_13 : decode cX4_addCarry 13 = .ok (.aload_n 0, 1) := by decide +kernel
theorem dX4_addCarry_14 : decode cX4_addCarry 14 = .ok (.getfield 34, 3) := by decide +kernel
theorem dX4_addCarry_17 : decode cX4_addCarry 17 = .ok (.iload_n 1, 1) := by decide +kernel
theorem dX4_addCarry_18 : decode cX4_addCarry 18 = .ok (.iastore, 1) := by decide +kernel
theorem dX4_addCarry_19 : decode cX4_addCarry 19 = .ok (.aload_n 0, 1) := by decide +kernel
theorem dX4_addCarry_20 : decode cX4_addCarry 20 = .ok (.getfield 28, 3) := by decide +kernel
theorem dX4_addCarry_23 : decode cX4_addCarry 23 = .ok (.aload_n 0, 1) := by decide +kernel
theorem dX4_addCarry_24 : decode cX4_addCarry 24 = .ok (.getfield 34, 3) := by decide +kernel
theorem dX4_addCarry_27 : decode cX4_addCarry 27 = .ok (.aload_n 0, 1) := by decide +kernel
theorem dX4_addCarry_28 : decode cX4_addCarry 28 = .ok (.getfield 18, 3) := by decide +kernel
theorem dX4_addCarry_31 : decode cX4_addCarry 31 = .ok (.getfield 73, 3) := by decide +kernel
theorem dX4_addCarry_34 : decode cX4_addCarry 34 = .ok (.iload_n 1, 1) := by decide +kernel
theorem dX4_addCarry_35 : decode cX4_addCarry 35 = .ok (.iaload, 1) := by decide +kernel
theorem dX4_addCarry_36 : decode cX4_addCarry 36 = .ok (.iastore, 1) := by decide +kernel
theorem dX4_addCarry_37 : decode cX4_addCarry 37 = .ok (.aload_n 0, 1) := by decide +kernel
theorem dX4_addCarry_38 : decode cX4_addCarry 38 = .ok (.getfield 31, 3) := by decide +kernel
theorem dX4_addCarry_41 : decode cX4_addCarry 41 = .ok (.aload_n 0, 1) := by decide +kernel
theorem dX4_addCarry_42 : decode cX4_addCarry 42 = .ok (.getfield 34, 3) := by decide +kernel
theorem dX4_addCarry_45 : decode cX4_addCarry 45 = .ok (.iload_n 2, 1) := by decide +kernel
theorem dX4_addCarry_46 : decode cX4_addCarry 46 = .ok (.iastore, 1) := by decide +kernel
theorem dX4_addCarry_47 : decode cX4_addCarry 47 = .ok (.aload_n 0, 1) := by decide +kernel
theorem dX4_addCarry_48 : decode cX4_addCarry 48 = .ok (.dup, 1) := by decide +kernel
theorem dX4_addCarry_49 : decode cX4_addCarry 49 = .ok (.getfield 34, 3) := by decide +kernel
theorem dX4_addCarry_52 : decode cX4_addCarry 52 = .ok (.iconst 1, 1) := by decide +kernel
theorem dX4_addCarry_53 : decode cX4_addCarry 53 = .ok (.iadd, 1) := by decide +kernel
theorem dX4_addCarry_54 : decode cX4_addCarry 54 = .ok (.putfield 34, 3) := by decide +kernel
theorem dX4_addCarry_57 : decode cX4_addCarry 57 = .ok (.aload_n 0, 1) := by decide +kernel
theorem dX4_addCarry_58 : decode cX4_addCarry 58 = .ok (.getfield 18, 3) := by decide +kernel
theorem dX4_addCarry_61 : decode cX4_addCarry 61 = .ok (.iload_n 1, 1) := by decide +kernel
theorem dX4_addCarry_62 : decode cX4_addCarry 62 = .ok (.iload_n 2, 1) := by decide +kernel
theorem dX4_addCarry_63 : decode cX4_addCarry 63 = .ok (.invokevirtual 76, 3) := by decide +kernel
theorem dX4_addCarry_66 : decode cX4_addCarry 66 = .ok (.return_, 1) := by decide +kernel
theorem dX5_init_0 : decode cX5_init 0 = .ok (.aload_n 0, 1) := by decide +kernel
theorem dX5_init_1 : decode cX5_init 1 = .ok (.invokespecial 3, 3) := by decide +kernel
theorem dX5_init_4 : decode cX5_init 4 = .ok (.aload_n 0, 1) := by decide +kernel
theorem dX5_init_5 : decode cX5_init 5 = .ok (.bipush 6, 2) := by decide +kernel
theorem dX5_init_7 : decode cX5_init 7 = .ok (.newarray .int, 2) := by decide +kernel
theorem dX5_init_9 : decode cX5_init 9 = .ok (.putfield 9, 3) := by decide +kernel
theorem dX5_init_12 : decode cX5_init 12 = .ok (.aload_n 0, 1) := by decide +kernel
theorem dX5_init_13 : decode cX5_init 13 = .ok (.iconst (-1), 1) := by decide +kernel
theorem dX5_init_14 : decode cX5_init 14 = .ok (.putfield 15, 3) := by decide +kernel
theorem dX5_init_17 : decode cX5_init 17 = .ok (.aload_n 0, 1) := by decide +kernel
theorem dX5_init_18 : decode cX5_init 18 = .ok (.iconst (-1), 1) := by decide +kernel
theorem dX5_init_19 : decode cX5_init 19 = .ok (.putfield 19, 3) := by decide +kernel
theorem dX5_init_22 : decode cX5_init 22 = .ok (.aload_n 0, 1) := by decide +kernel
theorem dX5_init_23 : decode cX5_init 23 = .ok (.iconst (-1), 1) := by decide +kernel
theorem dX5_init_24 : decode cX5_init 24 = .ok (.putfield 22, 3) := by decide +kernel
theorem dX5_init_27 : decode cX5_init 27 = .ok (.aload_n 0, 1) := by decide +kernel
theorem dX5_init_28 : decode cX5_init 28 = .ok (.iconst (-1), 1) := by decide +kernel
theorem dX5_init_29 : decode cX5_init 29 = .ok (.putfield 25, 3) := by decide +kernel
theorem dX5_init_32 : decode cX5_init 32 = .ok (.aload_n 0, 1) := by decide +kernel
theorem dX5_init_33 : decode cX5_init 33 = .ok (.iconst 0, 1) := by decide +kernel
theorem dX5_init_34 : decode cX5_init 34 = .ok (.putfield 28, 3) := by decide +kernel
theorem dX5_init_37 : decode cX5_init 37 = .ok (.aload_n 0, 1) := by decide +kernel
theorem dX5_init_38 : decode cX5_init 38 = .ok (.iconst (-1), 1) := by decide +kernel
theorem dX5_init_39 : decode cX5_init 39 = .ok (.putfield 31, 3) := by decide +kernel
theorem dX5_init_42 : decode cX5_init 42 = .ok (.aload_n 0, 1) := by decide +kernel
theorem dX5_init_43 : decode cX5_init 43 = .ok (.iload_n 1, 1) := by decide +kernel
theorem dX5_init_44 : decode cX5_init 44 = .ok (.putfield 34, 3) := by decide +kernel
theorem dX5_init_47 : decode cX5_init 47 = .ok (.aload_n 0, 1) := by decide +kernel
theorem dX5_init_48 : decode cX5_init 48 = .ok (.iload_n 2, 1) := by decide +kernel
theorem dX5_init_49 : decode cX5_init 49 = .ok (.putfield 37, 3) := by decide +kernel
theorem dX5_init_52 : decode cX5_init 52 = .ok (.aload_n 0, 1) := by decide +kernel
theorem dX5_init_53 : decode cX5_init 53 = .ok (.aload_n 3, 1) := by decide +kernel
theorem dX5_init_54 : decode cX5_init 54 = .ok (.putfield 40, 3) := by decide +kernel
theorem dX5_init_57 : decode cX5_init 57 = .ok (.aload_n 0, 1) := by decide +kernel
theorem dX5_init_58 : decode cX5_init 58 = .ok (.iload_n 1, 1) := by decide +kernel
theorem dX5_init_59 : decode cX5_init 59 = .ok (.putfield 44, 3) := by decide +kernel
theorem dX5_init_62 : decode cX5_init 62 = .ok (.aload_n 0, 1) := by decide +kernel
theorem dX5_init_63 : decode cX5_init 63 = .ok (.getfield 9, 3) := by decide +kernel
theorem dX5_init_66 : decode cX5_init 66 = .ok (.iconst (-1), 1) := by decide +kernel
theorem dX5_init_67 : decode cX5_init 67 = .ok (.invokestatic 47, 3) := by decide +kernel
theorem dX5_init_70 : decode cX5_init 70 = .ok (.return_, 1) := by decide +kernel
theorem dX5_isPartOf_0 : decode cX5_isPartOf 0 = .ok (.aload_n 0, 1) := by decide +kernel
theorem dX5_isPartOf_1 : decode cX5_isPartOf 1 = .ok (.astore_n 2, 1) := by decide +kernel
theorem dX5_isPartOf_2 : decode cX5_isPartOf 2 = .ok (.aload_n 2, 1) := by decide +kernel
theorem dX5_isPartOf_3 : decode cX5_isPartOf 3 = .ok (.ifnull 16, 3) := by decide +kernel
theorem dX5_isPartOf_6 : decode cX5_isPartOf 6 = .ok (.aload_n 2, 1) := by decide +kernel
theorem dX5_isPartOf_7 : decode cX5_isPartOf 7 = .ok (.aload_n 1, 1) := by decide +kernel
theorem dX5_isPartOf_8 : decode cX5_isPartOf 8 = .ok (.if_acmp .eq 11, 3) := by decide +kernel
theorem dX5_isPartOf_11 : decode cX5_isPartOf 11 = .ok (.aload_n 2, 1) := by decide +kernel
theorem dX5_isPartOf_12 : decode cX5_isPartOf 12 = .ok (.getfield 40, 3) := by decide +kernel
theorem dX5_isPartOf_15 : decode cX5_isPartOf 15 = .ok (.astore_n 2, 1) := by decide +kernel
theorem dX5_isPartOf_16 : decode cX5_isPartOf 16 = .ok (.goto (-14), 3) := by decide +kernel
theorem dX5_isPartOf_19 : decode cX5_isPartOf 19 = .ok (.aload_n 2, 1) := by decide +kernel
theorem dX5_isPartOf_20 : decode cX5_isPartOf 20 = .ok (.ifnull 7, 3) := by decide +kernel
theorem dX5_isPartOf_23 : decode cX5_isPartOf 23 = .ok (.iconst 1, 1) := by decide +kernel
theorem dX5_isPartOf_24 : decode cX5_isPartOf 24 = .ok (.goto 4, 3) := by decide +kernel
theorem dX5_isPartOf_27 : decode cX5_isPartOf 27 = .ok (.iconst 0, 1) := by decide +kernel
theorem dX5_isPartOf_28 : decode cX5_isPartOf 28 = .ok (.ireturn, 1) := by decide +kernel
theorem dX5_saidInLine_0 : decode cX5_saidInLine 0 = .ok (.iconst (-1), 1) := by decide +kernel
theorem dX5_saidInLine_1 : decode cX5_saidInLine 1 = .ok (.istore_n 2, 1) := by decide +kernel
theorem dX5_saidInLine_2 : decode cX5_saidInLine 2 = .ok (.aload_n 0, 1) := by decide +kernel
theorem dX5_saidInLine_3 : decode cX5_saidInLine 3 = .ok (.astore_n 3, 1) := by decide +kernel
theorem dX5_saidInLine_4 : decode cX5_saidInLine 4 = .ok (.aload_n 3, 1) := by decide +kernel
theorem dX5_saidInLine_5 : decode cX5_saidInLine 5 = .ok (.ifnull 23, 3) := by decide +kernel
theorem dX5_saidInLine_8 : decode cX5_saidInLine 8 = .ok (.iload_n 2, 1) := by decide +kernel
theorem dX5_saidInLine_9 : decode cX5_saidInLine 9 = .ok (.iconst (-1), 1) := by decide +kernel
theorem dX5_saidInLine_10 : decode cX5_saidInLine 10 = .ok (.if_icmp .ne 18, 3) := by decide +kernel
theorem dX5_saidInLine_13 : decode cX5_saidInLine 13 = .ok (.aload_n 3, 1) := by decide +kernel
theorem dX5_saidInLine_14 : decode cX5_saidInLine 14 = .ok (.getfield 9, 3) := by decide +kernel
theorem dX5_saidInLine_17 : decode cX5_saidInLine 17 = .ok (.iload_n 1, 1) := by decide +kernel
theorem dX5_saidInLine_18 : decode cX5_saidInLine 18 = .ok (.iaload, 1) := by decide +kernel
theorem dX5_saidInLine_19 : decode cX5_saidInLine 19 = .ok (.istore_n 2, 1) := by decide +kernel
theorem dX5_saidInLine_20 : decode cX5_saidInLine 20 = .ok (.aload_n 3, 1) := by decide +kernel
theorem dX5_saidInLine_21 : decode cX5_saidInLine 21 = .ok (.getfield 40, 3) := by decide +kernel
theorem dX5_saidInLine_24 : decode cX5_saidInLine 24 = .ok (.astore_n 3, 1) := by decide +kernel
theorem dX5_saidInLine_25 : decode cX5_saidInLine 25 = .ok (.goto (-21), 3) := by decide +kernel
theorem dX5_saidInLine_28 : decode cX5_saidInLine 28 = .ok (.iload_n 2, 1) := by decide +kernel
theorem dX5_saidInLine_29 : decode cX5_saidInLine 29 = .ok (.ireturn, 1) := by decide +kernel
theorem dX5_hasSpan_0 : decode cX5_hasSpan 0 = .ok (.aload_n 0, 1) := by decide +kernel
theorem dX5_hasSpan_1 : decode cX5_hasSpan 1 = .ok (.getfield 15, 3) := by decide +kernel
theorem dX5_hasSpan_4 : decode cX5_hasSpan 4 = .ok (.iconst (-1), 1) := by decide +kernel
theorem dX5_hasSpan_5 : decode cX5_hasSpan 5 = .ok (.if_icmp .eq 7, 3) := by decide +kernel
theorem dX5_hasSpan_8 : decode cX5_hasSpan 8 = .ok (.iconst 1, 1) := by decide +kernel
theorem dX5_hasSpan_9 : decode cX5_hasSpan 9 = .ok (.goto 4, 3) := by decide +kernel
theorem dX5_hasSpan_12 : decode cX5_hasSpan 12 = .ok (.iconst 0, 1) := by decide +kernel
theorem dX5_hasSpan_13 : decode cX5_hasSpan 13 = .ok (.ireturn, 1) := by decide +kernel
theorem dX5_showsSpanTo_0 : decode cX5_showsSpanTo 0 = .ok (.aload_n 0, 1) := by decide +kernel
theorem dX5_showsSpanTo_1 : decode cX5_showsSpanTo 1 = .ok (.getfield 40, 3) := by decide +kernel
theorem dX5_showsSpanTo_4 : decode cX5_showsSpanTo 4 = .ok (.astore_n 2, 1) := by decide +kernel
theorem dX5_showsSpanTo_5 : decode cX5_showsSpanTo 5 = .ok (.aload_n 2, 1) := by decide +kernel
theorem dX5_showsSpanTo_6 : decode cX5_showsSpanTo 6 = .ok (.ifnull 23, 3) := by decide +kernel
theorem dX5_showsSpanTo_9 : decode cX5_showsSpanTo 9 = .ok (.aload_n 2, 1) := by decide +kernel
theorem dX5_showsSpanTo_10 : decode cX5_showsSpanTo 10 = .ok (.aload_n 1, 1) := by decide +kernel
theorem dX5_showsSpanTo_11 : decode cX5_showsSpanTo 11 = .ok (.if_acmp .eq 18, 3) := by decide +kernel
theorem dX5_showsSpanTo_14 : decode cX5_showsSpanTo 14 = .ok (.aload_n 2, 1) := by decide +kernel
theorem dX5_showsSpanTo_15 : decode cX5_showsSpanTo 15 = .ok (.invokevirtual 53, 3) := by decide +kernel
theorem dX5_showsSpanTo_18 : decode cX5_showsSpanTo 18 = .ok (.ifCond .ne 11, 3) := by decide +kernel
theorem dX5_showsSpanTo_21 : decode cX5_showsSpanTo 21 = .ok (.aload_n 2, 1) := by decide +kernel
theorem dX5_showsSpanTo_22 : decode cX5_showsSpanTo 22 = .ok (.getfield 40, 3) := by decide +kernel
theorem dX5_showsSpanTo_25 : decode cX5_showsSpanTo 25 = .ok (.astore_n 2, 1) := by decide +kernel
theorem dX5_showsSpanTo_26 : decode cX5_showsSpanTo 26 = .ok (.goto (-21), 3) := by decide +kernel
theorem dX5_showsSpanTo_29 : decode cX5_showsSpanTo 29 = .ok (.aload_n 0, 1) := by decide +kernel
theorem dX5_showsSpanTo_30 : decode cX5_showsSpanTo 30 = .ok (.invokevirtual 53, 3) := by decide +kernel
theorem dX5_showsSpanTo_33 : decode cX5_showsSpanTo 33 = .ok (.ifCond .eq 12, 3) := by decide +kernel
theorem dX5_showsSpanTo_36 : decode cX5_showsSpanTo 36 = .ok (.aload_n 2, 1) := by decide +kernel
theorem dX5_showsSpanTo_37 : decode cX5_showsSpanTo 37 = .ok (.aload_n 1, 1) := by decide +kernel
theorem dX5_showsSpanTo_38 : decode cX5_showsSpanTo 38 = .ok (.if_acmp .ne 7, 3) := by decide +kernel
theorem dX5_showsSpanTo_41 : decode cX5_showsSpanTo 41 = .ok (.iconst 1, 1) := by decide +kernel
theorem dX5_showsSpanTo_42 : decode cX5_showsSpanTo 42 = .ok (.goto 4, 3) := by decide +kernel
theorem dX5_showsSpanTo_45 : decode cX5_showsSpanTo 45 = .ok (.iconst 0, 1) := by decide +kernel
theorem dX5_showsSpanTo_46 : decode cX5_showsSpanTo 46 = .ok (.ireturn, 1) := by decide +kernel
theorem dX5_hasQuarrel_0 : decode cX5_hasQuarrel 0 = .ok (.aload_n 0, 1) := by decide +kernel
theorem dX5_hasQuarrel_1 : decode cX5_hasQuarrel 1 = .ok (.getfield 40, 3) := by decide +kernel
theorem dX5_hasQuarrel_4 : decode cX5_hasQuarrel 4 = .ok (.astore_n 1, 1) := by decide +kernel
theorem dX5_hasQuarrel_5 : decode cX5_hasQuarrel 5 = .ok (.aload_n 1, 1) := by decide +kernel
theorem dX5_hasQuarrel_6 : decode cX5_hasQuarrel 6 = .ok (.ifnull 18, 3) := by decide +kernel
theorem dX5_hasQuarrel_9 : decode cX5_hasQuarrel 9 = .ok (.aload_n 1, 1) := by decide +kernel
theorem dX5_hasQuarrel_10 : decode cX5_hasQuarrel 10 = .ok (.invokevirtual 53, 3) := by decide +kernel
theorem dX5_hasQuarrel_13 : decode cX5_hasQuarrel 13 = .ok (.ifCond .ne 11, 3) := by decide +kernel
theorem dX5_hasQuarrel_16 : decode cX5_hasQuarrel 16 = .ok (.aload_n 1, 1) := by decide +kernel
theorem dX5_hasQuarrel_17 : decode cX5_hasQuarrel 17 = .ok (.getfield 40, 3) := by decide +kernel
theorem dX5_hasQuarrel_20 : decode cX5_hasQuarrel 20 = .ok (.astore_n 1, 1) := by decide +kernel
theorem dX5_hasQuarrel_21 : decode cX5_hasQuarrel 21 = .ok (.goto (-16), 3) := by decide +kernel
theorem dX5_hasQuarrel_24 : decode cX5_hasQuarrel 24 = .ok (.aload_n 0, 1) := by decide +kernel
theorem dX5_hasQuarrel_25 : decode cX5_hasQuarrel 25 = .ok (.invokevirtual 53, 3) := by decide +kernel
theorem dX5_hasQuarrel_28 : decode cX5_hasQuarrel 28 = .ok (.ifCond .eq 33, 3) := by decide +kernel
theorem dX5_hasQuarrel_31 : decode cX5_hasQuarrel 31 = .ok (.aload_n 1, 1) := by decide +kernel
theorem dX5_hasQuarrel_32 : decode cX5_hasQuarrel 32 = .ok (.ifnull 29, 3) := by decide +kernel
theorem dX5_hasQuarrel_35 : decode cX5_hasQuarrel 35 = .ok (.aload_n 0, 1) := by decide +kernel
theorem dX5_hasQuarrel_36 : decode cX5_hasQuarrel 36 = .ok (.getfield 15, 3) := by decide +kernel
theorem dX5_hasQuarrel_39 : decode cX5_hasQuarrel 39 = .ok (.aload_n 1, 1) := by decide +kernel
theorem dX5_hasQuarrel_40 : decode cX5_hasQuarrel 40 = .ok (.getfield 15, 3) := by decide +kernel
theorem dX5_hasQuarrel_43 : decode cX5_hasQuarrel 43 = .ok (.if_icmp .lt 14, 3) := by decide +kernel
theorem dX5_hasQuarrel_46 : decode cX5_hasQuarrel 46 = .ok (.aload_n 0, 1) := by decide +kernel
theorem dX5_hasQuarrel_47 : decode cX5_hasQuarrel 47 = .ok (.getfield 19, 3) := by decide +kernel
theorem dX5_hasQuarrel_50 : decode cX5_hasQuarrel 50 = .ok (.aload_n 1, 1) := by decide +kernel
theorem dX5_hasQuarrel_51 : decode cX5_hasQuarrel 51 = .ok (.getfield 19, 3) := by decide +kernel
theorem dX5_hasQuarrel_54 : decode cX5_hasQuarrel 54 = .ok (.if_icmp .le 7, 3) := by decide +kernel
theorem dX5_hasQuarrel_57 : decode cX5_hasQuarrel 57 = .ok (.iconst 1, 1) := by decide +kernel
theorem dX5_hasQuarrel_58 : decode cX5_hasQuarrel 58 = .ok (.goto 4, 3) := by decide +kernel
theorem dX5_hasQuarrel_61 : decode cX5_hasQuarrel 61 = .ok (.iconst 0, 1) := by decide +kernel
theorem dX5_hasQuarrel_62 : decode cX5_hasQuarrel 62 = .ok (.ireturn, 1) := by decide +kernel
theorem dX5_isSeen_0 : decode cX5_isSeen 0 = .ok (.aload_n 0, 1) := by decide +kernel
theorem dX5_isSeen_1 : decode cX5_isSeen 1 = .ok (.astore_n 3, 1) := by decide +kernel
theorem dX5_isSeen_2 : decode cX5_isSeen 2 = .ok (.aload_n 3, 1) := by decide +kernel
theorem dX5_isSeen_3 : decode cX5_isSeen 3 = .ok (.ifnull 20, 3) := by decide +kernel
theorem dX5_isSeen_6 : decode cX5_isSeen 6 = .ok (.aload_n 3, 1) := by decide +kernel
theorem dX5_isSeen_7 : decode cX5_isSeen 7 = .ok (.iload_n 1, 1) := by decide +kernel
theorem dX5_isSeen_8 : decode cX5_isSeen 8 = .ok (.iload_n 2, 1) := by decide +kernel
theorem dX5_isSeen_9 : decode cX5_isSeen 9 = .ok (.invokevirtual 57, 3) := by decide +kernel
theorem dX5_isSeen_12 : decode cX5_isSeen 12 = .ok (.ifCond .ne 11, 3) := by decide +kernel
theorem dX5_isSeen_15 : decode cX5_isSeen 15 = .ok (.aload_n 3, 1) := by decide +kernel
theorem dX5_isSeen_16 : decode cX5_isSeen 16 = .ok (.getfield 40, 3) := by decide +kernel
theorem dX5_isSeen_19 : decode cX5_isSeen 19 = .ok (.astore_n 3, 1) := by decide +kernel
theorem dX5_isSeen_20 : decode cX5_isSeen 20 = .ok (.goto (-18), 3) := by decide +kernel
theorem dX5_isSeen_23 : decode cX5_isSeen 23 = .ok (.aload_n 3, 1) := by decide +kernel
theorem dX5_isSeen_24 : decode cX5_isSeen 24 = .ok (.ifnonnull 7, 3) := by decide +kernel
theorem dX5_isSeen_27 : decode cX5_isSeen 27 = .ok (.iconst 1, 1) := by decide +kernel
theorem dX5_isSeen_28 : decode cX5_isSeen 28 = .ok (.goto 4, 3) := by decide +kernel
theorem dX5_isSeen_31 : decode cX5_isSeen 31 = .ok (.iconst 0, 1) := by decide +kernel
theorem dX5_isSeen_32 : decode cX5_isSeen 32 = .ok (.ireturn, 1) := by decide +kernel
theorem dX5_isClosedTo_0 : decode cX5_isClosedTo 0 = .ok (.iload_n 2, 1) := by decide +kernel
theorem dX5_isClosedTo_1 : decode cX5_isClosedTo 1 = .ok (.aload_n 0, 1) := by decide +kernel
theorem dX5_isClosedTo_2 : decode cX5_isClosedTo 2 = .ok (.getfield 25, 3) := by decide +kernel
theorem dX5_isClosedTo_5 : decode cX5_isClosedTo 5 = .ok (.if_icmp .ge 18, 3) := by decide +kernel
theorem dX5_isClosedTo_8 : decode cX5_isClosedTo 8 = .ok (.aload_n 0, 1) := by decide +kernel
theorem dX5_isClosedTo_9 : decode cX5_isClosedTo 9 = .ok (.getfield 28, 3) := by decide +kernel
theorem dX5_isClosedTo_12 : decode cX5_isClosedTo 12 = .ok (.iload_n 1, 1) := by decide +kernel
theorem dX5_isClosedTo_13 : decode cX5_isClosedTo 13 = .ok (.ishr, 1) := by decide +kernel
theorem dX5_isClosedTo_14 : decode cX5_isClosedTo 14 = .ok (.iconst 1, 1) := by decide +kernel
theorem dX5_isClosedTo_15 : decode cX5_isClosedTo 15 = .ok (.iand, 1) := by decide +kernel
theorem dX5_isClosedTo_16 : decode cX5_isClosedTo 16 = .ok (.ifCond .ne 7, 3) := by decide +kernel
theorem dX5_isClosedTo_19 : decode cX5_isClosedTo 19 = .ok (.iconst 1, 1) := by decide +kernel
theorem dX5_isClosedTo_20 : decode cX5_isClosedTo 20 = .ok (.goto 4, 3) := by decide +kernel
theorem dX5_isClosedTo_23 : decode cX5_isClosedTo 23 = .ok (.iconst 0, 1) := by decide +kernel
theorem dX5_isClosedTo_24 : decode cX5_isClosedTo 24 = .ok (.ireturn, 1) := by decide +kernel
theorem dX6_init_0 : decode cX6_init 0 = .ok (.aload_n 0, 1) := by decide +kernel
theorem dX6_init_1 : decode cX6_init 1 = .ok (.invokespecial 3, 3) := by decide +kernel
theorem dX6_init_4 : decode cX6_init 4 = .ok (.aload_n 0, 1) := by decide +kernel
theorem dX6_init_5 : decode cX6_init 5 = .ok (.bipush 40, 2) := by decide +kernel
theorem dX6_init_7 : decode cX6_init 7 = .ok (.newarray .long, 2) := by decide +kernel
theorem dX6_init_9 : decode cX6_init 9 = .ok (.putfield 9, 3) := by decide +kernel
theorem dX6_init_12 : decode cX6_init 12 = .ok (.aload_n 0, 1) := by decide +kernel
theorem dX6_init_13 : decode cX6_init 13 = .ok (.iconst (-1), 1) := by decide +kernel
theorem dX6_init_14 : decode cX6_init 14 = .ok (.putfield 15, 3) := by decide +kernel
theorem dX6_init_17 : decode cX6_init 17 = .ok (.aload_n 0, 1) := by decide +kernel
theorem dX6_init_18 : decode cX6_init 18 = .ok (.iconst 0, 1) := by decide +kernel
theorem dX6_init_19 : decode cX6_init 19 = .ok (.putfield 19, 3) := by decide +kernel
theorem dX6_init_22 : decode cX6_init 22 = .ok (.return_, 1) := by decide +kernel
theorem dX6_isMissing_0 : decode cX6_isMissing 0 = .ok (.aload_n 0, 1) := by decide +kernel
theorem dX6_isMissing_1 : decode cX6_isMissing 1 = .ok (.getfield 15, 3) := by decide +kernel
theorem dX6_isMissing_4 : decode cX6_isMissing 4 = .ok (.iconst (-1), 1) := by decide +kernel
theorem dX6_isMissing_5 : decode cX6_isMissing 5 = .ok (.if_icmp .ne 7, 3) := by decide +kernel
theorem dX6_isMissing_8 : decode cX6_isMissing 8 = .ok (.iconst 1, 1) := by decide +kernel
theorem dX6_isMissing_9 : decode cX6_isMissing 9 = .ok (.goto 4, 3) := by decide +kernel
theorem dX6_isMissing_12 : decode cX6_isMissing 12 = .ok (.iconst 0, 1) := by decide +kernel
theorem dX6_isMissing_13 : decode cX6_isMissing 13 = .ok (.ireturn, 1) := by decide +kernel
theorem dX6_renew_0 : decode cX6_renew 0 = .ok (.aload_n 0, 1) := by decide +kernel
theorem dX6_renew_1 : decode cX6_renew 1 = .ok (.iload_n 1, 1) := by decide +kernel
theorem dX6_renew_2 : decode cX6_renew 2 = .ok (.putfield 15, 3) := by decide +kernel
theorem dX6_renew_5 : decode cX6_renew 5 = .ok (.aload_n 0, 1) := by decide +kernel
theorem dX6_renew_6 : decode cX6_renew 6 = .ok (.iload_n 2, 1) := by decide +kernel
theorem dX6_renew_7 : decode cX6_renew 7 = .ok (.putfield 19, 3) := by decide +kernel
theorem dX6_renew_10 : decode cX6_renew 10 = .ok (.aload_n 0, 1) := by decide +kernel
theorem dX6_renew_11 : decode cX6_renew 11 = .ok (.getfield 9, 3) := by decide +kernel
theorem dX6_renew_14 : decode cX6_renew 14 = .ok (.lconst 0, 1) := by decide +kernel
theorem dX6_renew_15 : decode cX6_renew 15 = .ok (.invokestatic 22, 3) := by decide +kernel
theorem dX6_renew_18 : decode cX6_renew 18 = .ok (.return_, 1) := by decide +kernel
theorem dX6_hasPlace_0 : decode cX6_hasPlace 0 = .ok (.iload_n 1, 1) := by decide +kernel
theorem dX6_hasPlace_1 : decode cX6_hasPlace 1 = .ok (.ifCond .lt 15, 3) := by decide +kernel
theorem dX6_hasPlace_4 : decode cX6_hasPlace 4 = .ok (.iload_n 1, 1) := by decide +kernel
theorem dX6_hasPlace_5 : decode cX6_hasPlace 5 = .ok (.aload_n 0, 1) := by decide +kernel
theorem dX6_hasPlace_6 : decode cX6_hasPlace 6 = .ok (.getfield 19, 3) := by decide +kernel
theorem dX6_hasPlace_9 : decode cX6_hasPlace 9 = .ok (.if_icmp .ge 7, 3) := by decide +kernel
theorem dX6_hasPlace_12 : decode cX6_hasPlace 12 = .ok (.iconst 1, 1) := by decide +kernel
theorem dX6_hasPlace_13 : decode cX6_hasPlace 13 = .ok (.goto 4, 3) := by decide +kernel
theorem dX6_hasPlace_16 : decode cX6_hasPlace 16 = .ok (.iconst 0, 1) := by decide +kernel
theorem dX6_hasPlace_17 : decode cX6_hasPlace 17 = .ok (.ireturn, 1) := by decide +kernel
theorem dX6_hasRun_0 : decode cX6_hasRun 0 = .ok (.iload_n 1, 1) := by decide +kernel
theorem dX6_hasRun_1 : decode cX6_hasRun 1 = .ok (.ifCond .lt 17, 3) := by decide +kernel
theorem dX6_hasRun_4 : decode cX6_hasRun 4 = .ok (.iload_n 1, 1) := by decide +kernel
theorem dX6_hasRun_5 : decode cX6_hasRun 5 = .ok (.aload_n 0, 1) := by decide +kernel
theorem dX6_hasRun_6 : decode cX6_hasRun 6 = .ok (.getfield 19, 3) := by decide +kernel
theorem dX6_hasRun_9 : decode cX6_hasRun 9 = .ok (.iload_n 2, 1) := by decide +kernel
theorem dX6_hasRun_10 : decode cX6_hasRun 10 = .ok (.isub, 1) := by decide +kernel
theorem dX6_hasRun_11 : decode cX6_hasRun 11 = .ok (.if_icmp .gt 7, 3) := by decide +kernel
theorem dX6_hasRun_14 : decode cX6_hasRun 14 = .ok (.iconst 1, 1) := by decide +kernel
theorem dX6_hasRun_15 : decode cX6_hasRun 15 = .ok (.goto 4, 3) := by decide +kernel
theorem dX6_hasRun_18 : decode cX6_hasRun 18 = .ok (.iconst 0, 1) := by decide +kernel
theorem dX6_hasRun_19 : decode cX6_hasRun 19 = .ok (.ireturn, 1) := by decide +kernel
theorem dX6_put_0 : decode cX6_put 0 = .ok (.aload_n 0, 1) := by decide +kernel
theorem dX6_put_1 : decode cX6_put 1 = .ok (.getfield 9, 3) := by decide +kernel
theorem dX6_put_4 : decode cX6_put 4 = .ok (.iload_n 1, 1) := by decide +kernel
theorem dX6_put_5 : decode cX6_put 5 = .ok (.aload_n 0, 1) := by decide +kernel
theorem dX6_put_6 : decode cX6_put 6 = .ok (.lload_n 2, 1) := by decide +kernel
theorem dX6_put_7 : decode cX6_put 7 = .ok (.invokevirtual 28, 3) := by decide +kernel
theorem dX6_put_10 : decode cX6_put 10 = .ok (.lastore, 1) := by decide +kernel
theorem dX6_put_11 : decode cX6_put 11 = .ok (.return_, 1) := by decide +kernel
theorem dX6_cut_0 : decode cX6_cut 0 = .ok (.aload_n 0, 1) := by decide +kernel
theorem dX6_cut_1 : decode cX6_cut 1 = .ok (.getfield 15, 3) := by decide +kernel
theorem dX6_cut_4 : decode cX6_cut 4 = .ok (.tableswitch 42 0 2 #[28, 33, 38], 28) := by decide +kernel
theorem dX6_cut_32 : decode cX6_cut 32 = .ok (.lload_n 1, 1) := by decide +kernel
theorem dX6_cut_33 : decode cX6_cut 33 = .ok (.l2i, 1) := by decide +kernel
theorem dX6_cut_34 : decode cX6_cut 34 = .ok (.i2b, 1) := by decide +kernel
theorem dX6_cut_35 : decode cX6_cut 35 = .ok (.i2l, 1) := by decide +kernel
theorem dX6_cut_36 : decode cX6_cut 36 = .ok (.lreturn, 1) := by decide +kernel
theorem dX6_cut_37 : decode cX6_cut 37 = .ok (.lload_n 1, 1) := by decide +kernel
theorem dX6_cut_38 : decode cX6_cut 38 = .ok (.l2i, 1) := by decide +kernel
theorem dX6_cut_39 : decode cX6_cut 39 = .ok (.i2s, 1) := by decide +kernel
theorem dX6_cut_40 : decode cX6_cut 40 = .ok (.i2l, 1) := by decide +kernel
theorem dX6_cut_41 : decode cX6_cut 41 = .ok (.lreturn, 1) := by decide +kernel
theorem dX6_cut_42 : decode cX6_cut 42 = .ok (.lload_n 1, 1) := by decide +kernel
theorem dX6_cut_43 : decode cX6_cut 43 = .ok (.l2i, 1) := by decide +kernel
theorem dX6_cut_44 : decode cX6_cut 44 = .ok (.i2l, 1) := by decide +kernel
theorem dX6_cut_45 : decode cX6_cut 45 = .ok (.lreturn, 1) := by decide +kernel
theorem dX6_cut_46 : decode cX6_cut 46 = .ok (.lload_n 1, 1) := by decide +kernel
theorem dX6_cut_47 : decode cX6_cut 47 = .ok (.lreturn, 1) := by decide +kernel
theorem dJ9_max_7cf53_0 : decode cJ9_max_7cf53 0 = .ok (.iload_n 0, 1) := by decide +kernel
theorem dJ9_max_7cf53_1 : decode cJ9_max_7cf53 1 = .ok (.iload_n 1, 1) := by decide +kernel
theorem dJ9_max_7cf53_2 : decode cJ9_max_7cf53 2 = .ok (.if_icmp .lt 7, 3) := by decide +kernel
theorem dJ9_max_7cf53_5 : decode cJ9_max_7cf53 5 = .ok (.iload_n 0, 1) := by decide +kernel
theorem dJ9_max_7cf53_6 : decode cJ9_max_7cf53 6 = .ok (.goto 4, 3) := by decide +kernel
theorem dJ9_max_7cf53_9 : decode cJ9_max_7cf53 9 = .ok (.iload_n 1, 1) := by decide +kernel
theorem dJ9_max_7cf53_10 : decode cJ9_max_7cf53 10 = .ok (.ireturn, 1) := by decide +kernel
theorem dJ9_min_7cf53_0 : decode cJ9_min_7cf53 0 = .ok (.iload_n 0, 1) := by decide +kernel
theorem dJ9_min_7cf53_1 : decode cJ9_min_7cf53 1 = .ok (.iload_n 1, 1) := by decide +kernel
theorem dJ9_min_7cf53_2 : decode cJ9_min_7cf53 2 = .ok (.if_icmp .gt 7, 3) := by decide +kernel
theorem dJ9_min_7cf53_5 : decode cJ9_min_7cf53 5 = .ok (.iload_n 0, 1) := by decide +kernel
theorem dJ9_min_7cf53_6 : decode cJ9_min_7cf53 6 = .ok (.goto 4, 3) := by decide +kernel
theorem dJ9_min_7cf53_9 : decode cJ9_min_7cf53 9 = .ok (.iload_n 1, 1) := by decide +kernel
theorem dJ9_min_7cf53_10 : decode cJ9_min_7cf53 10 = .ok (.ireturn, 1) := by decide +kernel
theorem dJ7_fill_d0a16_0 : decode cJ7_fill_d0a16 0 = .ok (.iconst 0, 1) := by decide +kernel
theorem dJ7_fill_d0a16_1 : decode cJ7_fill_d0a16 1 = .ok (.istore_n 3, 1) := by decide +kernel
theorem dJ7_fill_d0a16_2 : decode cJ7_fill_d0a16 2 = .ok (.aload_n 0, 1) := by decide +kernel
theorem dJ7_fill_d0a16_3 : decode cJ7_fill_d0a16 3 = .ok (.arraylength, 1) := by decide +kernel
theorem dJ7_fill_d0a16_4 : decode cJ7_fill_d0a16 4 = .ok (.istore 4, 2) := by decide +kernel
theorem dJ7_fill_d0a16_6 : decode cJ7_fill_d0a16 6 = .ok (.iload_n 3, 1) := by decide +kernel
theorem dJ7_fill_d0a16_7 : decode cJ7_fill_d0a16 7 = .ok (.iload 4, 2) := by decide +kernel
theorem dJ7_fill_d0a16_9 : decode cJ7_fill_d0a16 9 = .ok (.if_icmp .ge 13, 3) := by decide +kernel
theorem dJ7_fill_d0a16_12 : decode cJ7_fill_d0a16 12 = .ok (.aload_n 0, 1) := by decide +kernel
theorem dJ7_fill_d0a16_13 : decode cJ7_fill_d0a16 13 = .ok (.iload_n 3, 1) := by decide +kernel
theorem dJ7_fill_d0a16_14 : decode cJ7_fill_d0a16 14 = .ok (.lload_n 1, 1) := by decide +kernel
theorem dJ7_fill_d0a16_15 : decode cJ7_fill_d0a16 15 = .ok (.lastore, 1) := by decide +kernel
theorem dJ7_fill_d0a16_16 : decode cJ7_fill_d0a16 16 = .ok (.iinc 3 1, 3) := by decide +kernel
theorem dJ7_fill_d0a16_19 : decode cJ7_fill_d0a16 19 = .ok (.goto (-13), 3) := by decide +kernel
theorem dJ7_fill_d0a16_22 : decode cJ7_fill_d0a16 22 = .ok (.return_, 1) := by decide +kernel
theorem dJ7_fill_53178_0 : decode cJ7_fill_53178 0 = .ok (.iconst 0, 1) := by decide +kernel
theorem dJ7_fill_53178_1 : decode cJ7_fill_53178 1 = .ok (.istore_n 2, 1) := by decide +kernel
theorem dJ7_fill_53178_2 : decode cJ7_fill_53178 2 = .ok (.aload_n 0, 1) := by decide +kernel
theorem dJ7_fill_53178_3 : decode cJ7_fill_53178 3 = .ok (.arraylength, 1) := by decide +kernel
theorem dJ7_fill_53178_4 : decode cJ7_fill_53178 4 = .ok (.istore_n 3, 1) := by decide +kernel
theorem dJ7_fill_53178_5 : decode cJ7_fill_53178 5 = .ok (.iload_n 2, 1) := by decide +kernel
theorem dJ7_fill_53178_6 : decode cJ7_fill_53178 6 = .ok (.iload_n 3, 1) := by decide +kernel
theorem dJ7_fill_53178_7 : decode cJ7_fill_53178 7 = .ok (.if_icmp .ge 13, 3) := by decide +kernel
theorem dJ7_fill_53178_10 : decode cJ7_fill_53178 10 = .ok (.aload_n 0, 1) := by decide +kernel
theorem dJ7_fill_53178_11 : decode cJ7_fill_53178 11 = .ok (.iload_n 2, 1) := by decide +kernel
theorem dJ7_fill_53178_12 : decode cJ7_fill_53178 12 = .ok (.iload_n 1, 1) := by decide +kernel
theorem dJ7_fill_53178_13 : decode cJ7_fill_53178 13 = .ok (.iastore, 1) := by decide +kernel
theorem dJ7_fill_53178_14 : decode cJ7_fill_53178 14 = .ok (.iinc 2 1, 3) := by decide +kernel
theorem dJ7_fill_53178_17 : decode cJ7_fill_53178 17 = .ok (.goto (-12), 3) := by decide +kernel
theorem dJ7_fill_53178_20 : decode cJ7_fill_53178 20 = .ok (.return_, 1) := by decide +kernel
end
section
theorem dX7_init_0 : decode cX7_init 0 = .ok (.aload_n 0, 1) := by decide +kernel
theorem dX7_init_1 : decode cX7_init 1 = .ok (.invokespecial 3, 3) := by decide +kernel
theorem dX7_init_4 : decode cX7_init 4 = .ok (.aload_n 0, 1) := by decide +kernel
theorem dX7_init_5 : decode cX7_init 5 = .ok (.iconst 4, 1) := by decide +kernel
theorem dX7_init_6 : decode cX7_init 6 = .ok (.anewarray 9, 3) := by decide +kernel
theorem dX7_init_9 : decode cX7_init 9 = .ok (.putfield 11, 3) := by decide +kernel
theorem dX7_init_12 : decode cX7_init 12 = .ok (.aload_n 0, 1) := by decide +kernel
theorem dX7_init_13 : decode cX7_init 13 = .ok (.new 15, 3) := by decide +kernel
theorem dX7_init_16 : decode cX7_init 16 = .ok (.dup, 1) := by decide +kernel
theorem dX7_init_17 : decode cX7_init 17 = .ok (.invokespecial 17, 3) := by decide +kernel
theorem dX7_init_20 : decode cX7_init 20 = .ok (.putfield 18, 3) := by decide +kernel
theorem dX7_init_23 : decode cX7_init 23 = .ok (.aload_n 0, 1) := by decide +kernel
theorem dX7_init_24 : decode cX7_init 24 = .ok (.new 22, 3) := by decide +kernel
theorem dX7_init_27 : decode cX7_init 27 = .ok (.dup, 1) := by decide +kernel
theorem dX7_init_28 : decode cX7_init 28 = .ok (.invokespecial 24, 3) := by decide +kernel
theorem dX7_init_31 : decode cX7_init 31 = .ok (.putfield 25, 3) := by decide +kernel
theorem dX7_init_34 : decode cX7_init 34 = .ok (.aload_n 0, 1) := by decide +kernel
theorem dX7_init_35 : decode cX7_init 35 = .ok (.new 29, 3) := by decide +kernel
theorem dX7_init_38 : decode cX7_init 38 = .ok (.dup, 1) := by decide +kernel
theorem dX7_init_39 : decode cX7_init 39 = .ok (.invokespecial 31, 3) := by decide +kernel
theorem dX7_init_42 : decode cX7_init 42 = .ok (.putfield 32, 3) := by decide +kernel
theorem dX7_init_45 : decode cX7_init 45 = .ok (.aload_n 0, 1) := by decide +kernel
theorem dX7_init_46 : decode cX7_init 46 = .ok (.new 36, 3) := by decide +kernel
theorem dX7_init_49 : decode cX7_init 49 = .ok (.dup, 1) := by decide +kernel
theorem dX7_init_50 : decode cX7_init 50 = .ok (.invokespecial 38, 3) := by decide +kernel
theorem dX7_init_53 : decode cX7_init 53 = .ok (.putfield 39, 3) := by decide +kernel
theorem dX7_init_56 : decode cX7_init 56 = .ok (.aload_n 0, 1) := by decide +kernel
theorem dX7_init_57 : decode cX7_init 57 = .ok (.iconst 0, 1) := by decide +kernel
theorem dX7_init_58 : decode cX7_init 58 = .ok (.putfield 43, 3) := by decide +kernel
theorem dX7_init_61 : decode cX7_init 61 = .ok (.aload_n 0, 1) := by decide +kernel
theorem dX7_init_62 : decode cX7_init 62 = .ok (.lconst 0, 1) := by decide +kernel
theorem dX7_init_63 : decode cX7_init 63 = .ok (.putfield 47, 3) := by decide +kernel
theorem dX7_init_66 : decode cX7_init 66 = .ok (.aload_n 0, 1) := by decide +kernel
theorem dX7_init_67 : decode cX7_init 67 = .ok (.lconst 1, 1) := by decide +kernel
theorem dX7_init_68 : decode cX7_init 68 = .ok (.putfield 51, 3) := by decide +kernel
theorem dX7_init_71 : decode cX7_init 71 = .ok (.iconst 0, 1) := by decide +kernel
theorem dX7_init_72 : decode cX7_init 72 = .ok (.istore_n 1, 1) := by decide +kernel
theorem dX7_init_73 : decode cX7_init 73 = .ok (.iload_n 1, 1) := by decide +kernel
theorem dX7_init_74 : decode cX7_init 74 = .ok (.iconst 4, 1) := by decide +kernel
theorem dX7_init_75 : decode cX7_init 75 = .ok (.if_icmp .ge 22, 3) := by decide +kernel
theorem dX7_init_78 : decode cX7_init 78 = .ok (.aload_n 0, 1) := by decide +kernel
theorem dX7_init_79 : decode cX7_init 79 = .ok (.getfield 11, 3) := by decide +kernel
theorem dX7_init_82 : decode cX7_init 82 = .ok (.iload_n 1, 1) := by decide +kernel
theorem dX7_init_83 : decode cX7_init 83 = .ok (.new 9, 3) := by decide +kernel
theorem dX7_init_86 : decode cX7_init 86 = .ok (.dup, 1) := by decide +kernel
theorem dX7_init_87 : decode cX7_init 87 = .ok (.invokespecial 54, 3) := by decide +kernel
theorem dX7_init_90 : decode cX7_init 90 = .ok (.aastore, 1) := by decide +kernel
theorem dX7_init_91 : decode cX7_init 91 = .ok (.iinc 1 1, 3) := by decide +kernel
theorem dX7_init_94 : decode cX7_init 94 = .ok (.goto (-21), 3) := by decide +kernel
theorem dX7_init_97 : decode cX7_init 97 = .ok (.return_, 1) := by decide +kernel
theorem dX7_status_0 : decode cX7_status 0 = .ok (.aload_n 0, 1) := by decide +kernel
theorem dX7_status_1 : decode cX7_status 1 = .ok (.getfield 43, 3) := by decide +kernel
theorem dX7_status_4 : decode cX7_status 4 = .ok (.ireturn, 1) := by decide +kernel
theorem dX7_tray_0 : decode cX7_tray 0 = .ok (.aload_n 0, 1) := by decide +kernel
theorem dX7_tray_1 : decode cX7_tray 1 = .ok (.iload_n 1, 1) := by decide +kernel
theorem dX7_tray_2 : decode cX7_tray 2 = .ok (.invokevirtual 55, 3) := by decide +kernel
theorem dX7_tray_5 : decode cX7_tray 5 = .ok (.astore 4, 2) := by decide +kernel
theorem dX7_tray_7 : decode cX7_tray 7 = .ok (.aload 4, 2) := by decide +kernel
theorem dX7_tray_9 : decode cX7_tray 9 = .ok (.ifnull 12, 3) := by decide +kernel
theorem dX7_tray_12 : decode cX7_tray 12 = .ok (.iload_n 2, 1) := by decide +kernel
theorem dX7_tray_13 : decode cX7_tray 13 = .ok (.iconst 0, 1) := by decide +kernel
theorem dX7_tray_14 : decode cX7_tray 14 = .ok (.iconst 3, 1) := by decide +kernel
theorem dX7_tray_15 : decode cX7_tray 15 = .ok (.invokestatic 59, 3) := by decide +kernel
theorem dX7_tray_18 : decode cX7_tray 18 = .ok (.ifCond .ne 9, 3) := by decide +kernel
theorem dX7_tray_21 : decode cX7_tray 21 = .ok (.aload_n 0, 1) := by decide +kernel
theorem dX7_tray_22 : decode cX7_tray 22 = .ok (.iconst 1, 1) := by decide +kernel
theorem dX7_tray_23 : decode cX7_tray 23 = .ok (.invokevirtual 63, 3) := by decide +kernel
theorem dX7_tray_26 : decode cX7_tray 26 = .ok (.ireturn, 1) := by decide +kernel
theorem dX7_tray_27 : decode cX7_tray 27 = .ok (.iload_n 3, 1) := by decide +kernel
theorem dX7_tray_28 : decode cX7_tray 28 = .ok (.bipush 40, 2) := by decide +kernel
theorem dX7_tray_30 : decode cX7_tray 30 = .ok (.if_icmp .le 9, 3) := by decide +kernel
theorem dX7_tray_33 : decode cX7_tray 33 = .ok (.aload_n 0, 1) := by decide +kernel
theorem dX7_tray_34 : decode cX7_tray 34 = .ok (.iconst 5, 1) := by decide +kernel
theorem dX7_tray_35 : decode cX7_tray 35 = .ok (.invokevirtual 63, 3) := by decide +kernel
theorem dX7_tray_38 : decode cX7_tray 38 = .ok (.ireturn, 1) := by decide +kernel
theorem dX7_tray_39 : decode cX7_tray 39 = .ok (.iload_n 3, 1) := by decide +kernel
theorem dX7_tray_40 : decode cX7_tray 40 = .ok (.ifCond .ge 10, 3) := by decide +kernel
theorem dX7_tray_43 : decode cX7_tray 43 = .ok (.aload_n 0, 1) := by decide +kernel
theorem dX7_tray_44 : decode cX7_tray 44 = .ok (.bipush 6, 2) := by decide +kernel
theorem dX7_tray_46 : decode cX7_tray 46 = .ok (.invokevirtual 63, 3) := by decide +kernel
theorem dX7_tray_49 : decode cX7_tray 49 = .ok (.ireturn, 1) := by decide +kernel
theorem dX7_tray_50 : decode cX7_tray 50 = .ok (.aload 4, 2) := by decide +kernel
theorem dX7_tray_52 : decode cX7_tray 52 = .ok (.iload_n 2, 1) := by decide +kernel
theorem dX7_tray_53 : decode cX7_tray 53 = .ok (.iload_n 3, 1) := by decide +kernel
theorem dX7_tray_54 : decode cX7_tray 54 = .ok (.invokevirtual 67, 3) := by decide +kernel
theorem dX7_tray_57 : decode cX7_tray 57 = .ok (.aload_n 0, 1) := by decide +kernel
theorem dX7_tray_58 : decode cX7_tray 58 = .ok (.invokevirtual 71, 3) := by decide +kernel
theorem dX7_tray_61 : decode cX7_tray 61 = .ok (.ireturn, 1) := by decide +kernel
theorem dX7_write_0 : decode cX7_write 0 = .ok (.aload_n 0, 1) := by decide +kernel
theorem dX7_write_1 : decode cX7_write 1 = .ok (.iload_n 1, 1) := by decide +kernel
theorem dX7_write_2 : decode cX7_write 2 = .ok (.invokevirtual 55, 3) := by decide +kernel
theorem dX7_write_5 : decode cX7_write 5 = .ok (.astore 5, 2) := by decide +kernel
theorem dX7_write_7 : decode cX7_write 7 = .ok (.aload 5, 2) := by decide +kernel
theorem dX7_write_9 : decode cX7_write 9 = .ok (.iload_n 2, 1) := by decide +kernel
theorem dX7_write_10 : decode cX7_write 10 = .ok (.invokestatic 75, 3) := by decide +kernel
theorem dX7_write_13 : decode cX7_write 13 = .ok (.istore 6, 2) := by decide +kernel
theorem dX7_write_15 : decode cX7_write 15 = .ok (.aload 5, 2) := by decide +kernel
theorem dX7_write_17 : decode cX7_write 17 = .ok (.ifnull 8, 3) := by decide +kernel
theorem dX7_write_20 : decode cX7_write 20 = .ok (.iload 6, 2) := by decide +kernel
theorem dX7_write_22 : decode cX7_write 22 = .ok (.ifCond .eq 10, 3) := by decide +kernel
theorem dX7_write_25 : decode cX7_write 25 = .ok (.aload_n 0, 1) := by decide +kernel
theorem dX7_write_26 : decode cX7_write 26 = .ok (.iload 6, 2) := by decide +kernel
theorem dX7_write_28 : decode cX7_write 28 = .ok (.invokevirtual 63, 3) := by decide +kernel
theorem dX7_write_31 : decode cX7_write 31 = .ok (.ireturn, 1) := by decide +kernel
theorem dX7_write_32 : decode cX7_write 32 = .ok (.aload 5, 2) := by decide +kernel
theorem dX7_write_34 : decode cX7_write 34 = .ok (.iload_n 2, 1) := by decide +kernel
theorem dX7_write_35 : decode cX7_write 35 = .ok (.lload_n 3, 1) := by decide +kernel
theorem dX7_write_36 : decode cX7_write 36 = .ok (.invokevirtual 79, 3) := by decide +kernel
theorem dX7_write_39 : decode cX7_write 39 = .ok (.aload_n 0, 1) := by decide +kernel
theorem dX7_write_40 : decode cX7_write 40 = .ok (.invokevirtual 71, 3) := by decide +kernel
theorem dX7_write_43 : decode cX7_write 43 = .ok (.ireturn, 1) := by decide +kernel
theorem dX7_read_0 : decode cX7_read 0 = .ok (.aload_n 0, 1) := by decide +kernel
theorem dX7_read_1 : decode cX7_read 1 = .ok (.iload_n 1, 1) := by decide +kernel
theorem dX7_read_2 : decode cX7_read 2 = .ok (.invokevirtual 55, 3) := by decide +kernel
theorem dX7_read_5 : decode cX7_read 5 = .ok (.astore_n 3, 1) := by decide +kernel
theorem dX7_read_6 : decode cX7_read 6 = .ok (.aload_n 3, 1) := by decide +kernel
theorem dX7_read_7 : decode cX7_read 7 = .ok (.iload_n 2, 1) := by decide +kernel
theorem dX7_read_8 : decode cX7_read 8 = .ok (.invokestatic 75, 3) := by decide +kernel
theorem dX7_read_11 : decode cX7_read 11 = .ok (.istore 4, 2) := by decide +kernel
theorem dX7_read_13 : decode cX7_read 13 = .ok (.aload_n 3, 1) := by decide +kernel
theorem dX7_read_14 : decode cX7_read 14 = .ok (.ifnull 8, 3) := by decide +kernel
theorem dX7_read_17 : decode cX7_read 17 = .ok (.iload 4, 2) := by decide +kernel
theorem dX7_read_19 : decode cX7_read 19 = .ok (.ifCond .eq 11, 3) := by decide +kernel
theorem dX7_read_22 : decode cX7_read 22 = .ok (.aload_n 0, 1) := by decide +kernel
theorem dX7_read_23 : decode cX7_read 23 = .ok (.iload 4, 2) := by decide +kernel
theorem dX7_read_25 : decode cX7_read 25 = .ok (.invokevirtual 83, 3) := by decide +kernel
theorem dX7_read_28 : decode cX7_read 28 = .ok (.i2l, 1) := by decide +kernel
theorem dX7_read_29 : decode cX7_read 29 = .ok (.lreturn, 1) := by decide +kernel
theorem dX7_read_30 : decode cX7_read 30 = .ok (.aload_n 0, 1) := by decide +kernel
theorem dX7_read_31 : decode cX7_read 31 = .ok (.iconst 0, 1) := by decide +kernel
theorem dX7_read_32 : decode cX7_read 32 = .ok (.putfield 43, 3) := by decide +kernel
theorem dX7_read_35 : decode cX7_read 35 = .ok (.aload_n 3, 1) := by decide +kernel
theorem dX7_read_36 : decode cX7_read 36 = .ok (.getfield 87, 3) := by decide +kernel
theorem dX7_read_39 : decode cX7_read 39 = .ok (.iload_n 2, 1) := by decide +kernel
theorem dX7_read_40 : decode cX7_read 40 = .ok (.laload, 1) := by decide +kernel
theorem dX7_read_41 : decode cX7_read 41 = .ok (.lreturn, 1) := by decide +kernel
theorem dX7_pour_0 : decode cX7_pour 0 = .ok (.aload_n 0, 1) := by decide +kernel
theorem dX7_pour_1 : decode cX7_pour 1 = .ok (.iload_n 1, 1) := by decide +kernel
theorem dX7_pour_2 : decode cX7_pour 2 = .ok (.invokevirtual 55, 3) := by decide +kernel
theorem dX7_pour_5 : decode cX7_pour 5 = .ok (.astore 6, 2) := by decide +kernel
theorem dX7_pour_7 : decode cX7_pour 7 = .ok (.aload_n 0, 1) := by decide +kernel
theorem dX7_pour_8 : decode cX7_pour 8 = .ok (.iload_n 3, 1) := by decide +kernel
theorem dX7_pour_9 : decode cX7_pour 9 = .ok (.invokevirtual 55, 3) := by decide +kernel
theorem dX7_pour_12 : decode cX7_pour 12 = .ok (.astore 7, 2) := by decide +kernel
theorem dX7_pour_14 : decode cX7_pour 14 = .ok (.aload 6, 2) := by decide +kernel
theorem dX7_pour_16 : decode cX7_pour 16 = .ok (.ifnull 8, 3) := by decide +kernel
theorem dX7_pour_19 : decode cX7_pour 19 = .ok (.aload 7, 2) := by decide +kernel
theorem dX7_pour_21 : decode cX7_pour 21 = .ok (.ifnonnull 9, 3) := by decide +kernel
theorem dX7_pour_24 : decode cX7_pour 24 = .ok (.aload_n 0, 1) := by decide +kernel
theorem dX7_pour_25 : decode cX7_pour 25 = .ok (.iconst 1, 1) := by decide +kernel
theorem dX7_pour_26 : decode cX7_pour 26 = .ok (.invokevirtual 63, 3) := by decide +kernel
theorem dX7_pour_29 : decode cX7_pour 29 = .ok (.ireturn, 1) := by decide +kernel
theorem dX7_pour_30 : decode cX7_pour 30 = .ok (.aload 6, 2) := by decide +kernel
theorem dX7_pour_32 : decode cX7_pour 32 = .ok (.invokevirtual 91, 3) := by decide +kernel
theorem dX7_pour_35 : decode cX7_pour 35 = .ok (.ifCond .ne 11, 3) := by decide +kernel
theorem dX7_pour_38 : decode cX7_pour 38 = .ok (.aload 7, 2) := by decide +kernel
theorem dX7_pour_40 : decode cX7_pour 40 = .ok (.invokevirtual 91, 3) := by decide +kernel
theorem dX7_pour_43 : decode cX7_pour 43 = .ok (.ifCond .eq 9, 3) := by decide +kernel
theorem dX7_pour_46 : decode cX7_pour 46 = .ok (.aload_n 0, 1) := by decide +kernel
theorem dX7_pour_47 : decode cX7_pour 47 = .ok (.iconst 3, 1) := by decide +kernel
theorem dX7_pour_48 : decode cX7_pour 48 = .ok (.invokevirtual 63, 3) := by decide +kernel
theorem dX7_pour_51 : decode cX7_pour 51 = .ok (.ireturn, 1) := by decide +kernel
theorem dX7_pour_52 : decode cX7_pour 52 = .ok (.aload 6, 2) := by decide +kernel
theorem dX7_pour_54 : decode cX7_pour 54 = .ok (.getfield 94, 3) := by decide +kernel
theorem dX7_pour_57 : decode cX7_pour 57 = .ok (.aload 7, 2) := by decide +kernel
theorem dX7_pour_59 : decode cX7_pour 59 = .ok (.getfield 94, 3) := by decide +kernel
theorem dX7_pour_62 : decode cX7_pour 62 = .ok (.if_icmp .eq 10, 3) := by decide +kernel
theorem dX7_pour_65 : decode cX7_pour 65 = .ok (.aload_n 0, 1) := by decide +kernel
theorem dX7_pour_66 : decode cX7_pour 66 = .ok (.bipush 11, 2) := by decide +kernel
theorem dX7_pour_68 : decode cX7_pour 68 = .ok (.invokevirtual 63, 3) := by decide +kernel
theorem dX7_pour_71 : decode cX7_pour 71 = .ok (.ireturn, 1) := by decide +kernel
theorem dX7_pour_72 : decode cX7_pour 72 = .ok (.iload 5, 2) := by decide +kernel
theorem dX7_pour_74 : decode cX7_pour 74 = .ok (.ifCond .ge 10, 3) := by decide +kernel
theorem dX7_pour_77 : decode cX7_pour 77 = .ok (.aload_n 0, 1) := by decide +kernel
theorem dX7_pour_78 : decode cX7_pour 78 = .ok (.bipush 6, 2) := by decide +kernel
theorem dX7_pour_80 : decode cX7_pour 80 = .ok (.invokevirtual 63, 3) := by decide +kernel
theorem dX7_pour_83 : decode cX7_pour 83 = .ok (.ireturn, 1) := by decide +kernel
theorem dX7_pour_84 : decode cX7_pour 84 = .ok (.aload 6, 2) := by decide +kernel
theorem dX7_pour_86 : decode cX7_pour 86 = .ok (.iload_n 2, 1) := by decide +kernel
theorem dX7_pour_87 : decode cX7_pour 87 = .ok (.iload 5, 2) := by decide +kernel
theorem dX7_pour_89 : decode cX7_pour 89 = .ok (.invokevirtual 97, 3) := by decide +kernel
theorem dX7_pour_92 : decode cX7_pour 92 = .ok (.ifCond .eq 15, 3) := by decide +kernel
theorem dX7_pour_95 : decode cX7_pour 95 = .ok (.aload 7, 2) := by decide +kernel
theorem dX7_pour_97 : decode cX7_pour 97 = .ok (.iload 4, 2) := by decide +kernel
theorem dX7_pour_99 : decode cX7_pour 99 = .ok (.iload 5, 2) := by decide +kernel
theorem dX7_pour_101 : decode cX7_pour 101 = .ok (.invokevirtual 97, 3) := by decide +kernel
theorem dX7_pour_104 : decode cX7_pour 104 = .ok (.ifCond .ne 9, 3) := by decide +kernel
theorem dX7_pour_107 : decode cX7_pour 107 = .ok (.aload_n 0, 1) := by decide +kernel
theorem dX7_pour_108 : decode cX7_pour 108 = .ok (.iconst 4, 1) := by decide +kernel
theorem dX7_pour_109 : decode cX7_pour 109 = .ok (.invokevirtual 63, 3) := by decide +kernel
theorem dX7_pour_112 : decode cX7_pour 112 = .ok (.ireturn, 1) := by decide +kernel
theorem dX7_pour_113 : decode cX7_pour 113 = .ok (.aload 6, 2) := by decide +kernel
theorem dX7_pour_115 : decode cX7_pour 115 = .ok (.getfield 87, 3) := by decide +kernel
theorem dX7_pour_118 : decode cX7_pour 118 = .ok (.iload_n 2, 1) := by decide +kernel
theorem dX7_pour_119 : decode cX7_pour 119 = .ok (.aload 7, 2) := by decide +kernel
theorem dX7_pour_121 : decode cX7_pour 121 = .ok (.getfield 87, 3) := by decide +kernel
theorem dX7_pour_124 : decode cX7_pour 124 = .ok (.iload 4, 2) := by decide +kernel
theorem dX7_pour_126 : decode cX7_pour 126 = .ok (.iload 5, 2) := by decide +kernel
theorem dX7_pour_128 : decode cX7_pour 128 = .ok (.invokestatic 101, 3) := by decide +kernel
theorem dX7_pour_131 : decode cX7_pour 131 = .ok (.aload_n 0, 1) := by decide +kernel
theorem dX7_pour_132 : decode cX7_pour 132 = .ok (.invokevirtual 71, 3) := by decide +kernel
theorem dX7_pour_135 : decode cX7_pour 135 = .ok (.ireturn, 1) := by decide +kernel
theorem dX7_thing_0 : decode cX7_thing 0 = .ok (.iload_n 1, 1) := by decide +kernel
theorem dX7_thing_1 : decode cX7_thing 1 = .ok (.iconst 0, 1) := by decide +kernel
theorem dX7_thing_2 : decode cX7_thing 2 = .ok (.iconst 3, 1) := by decide +kernel
theorem dX7_thing_3 : decode cX7_thing 3 = .ok (.invokestatic 59, 3) := by decide +kernel
theorem dX7_thing_6 : decode cX7_thing 6 = .ok (.ifCond .ne 9, 3) := by decide +kernel
theorem dX7_thing_9 : decode cX7_thing 9 = .ok (.aload_n 0, 1) := by decide +kernel
theorem dX7_thing_10 : decode cX7_thing 10 = .ok (.iconst 5, 1) := by decide +kernel
theorem dX7_thing_11 : decode cX7_thing 11 = .ok (.invokevirtual 83, 3) := by decide +kernel
theorem dX7_thing_14 : decode cX7_thing 14 = .ok (.ireturn, 1) := by decide +kernel
theorem dX7_thing_15 : decode cX7_thing 15 = .ok (.aload_n 0, 1) := by decide +kernel
theorem dX7_thing_16 : decode cX7_thing 16 = .ok (.getfield 18, 3) := by decide +kernel
theorem dX7_thing_19 : decode cX7_thing 19 = .ok (.iload_n 2, 1) := by decide +kernel
theorem dX7_thing_20 : decode cX7_thing 20 = .ok (.invokevirtual 107, 3) := by decide +kernel
theorem dX7_thing_23 : decode cX7_thing 23 = .ok (.astore_n 3, 1) := by decide +kernel
theorem dX7_thing_24 : decode cX7_thing 24 = .ok (.iload_n 1, 1) := by decide +kernel
theorem dX7_thing_25 : decode cX7_thing 25 = .ok (.ifCond .ne 11, 3) := by decide +kernel
theorem dX7_thing_28 : decode cX7_thing 28 = .ok (.iload_n 2, 1) := by decide +kernel
theorem dX7_thing_29 : decode cX7_thing 29 = .ok (.iconst (-1), 1) := by decide +kernel
theorem dX7_thing_30 : decode cX7_thing 30 = .ok (.if_icmp .eq 16, 3) := by decide +kernel
theorem dX7_thing_33 : decode cX7_thing 33 = .ok (.goto 7, 3) := by decide +kernel
theorem dX7_thing_36 : decode cX7_thing 36 = .ok (.aload_n 3, 1) := by decide +kernel
theorem dX7_thing_37 : decode cX7_thing 37 = .ok (.ifnonnull 9, 3) := by decide +kernel
theorem dX7_thing_40 : decode cX7_thing 40 = .ok (.aload_n 0, 1) := by decide +kernel
theorem dX7_thing_41 : decode cX7_thing 41 = .ok (.iconst 2, 1) := by decide +kernel
theorem dX7_thing_42 : decode cX7_thing 42 = .ok (.invokevirtual 83, 3) := by decide +kernel
theorem dX7_thing_45 : decode cX7_thing 45 = .ok (.ireturn, 1) := by decide +kernel
theorem dX7_thing_46 : decode cX7_thing 46 = .ok (.aload_n 3, 1) := by decide +kernel
theorem dX7_thing_47 : decode cX7_thing 47 = .ok (.ifnull 21, 3) := by decide +kernel
theorem dX7_thing_50 : decode cX7_thing 50 = .ok (.iload_n 1, 1) := by decide +kernel
theorem dX7_thing_51 : decode cX7_thing 51 = .ok (.aload_n 3, 1) := by decide +kernel
theorem dX7_thing_52 : decode cX7_thing 52 = .ok (.getfield 111, 3) := by decide +kernel
theorem dX7_thing_55 : decode cX7_thing 55 = .ok (.invokestatic 116, 3) := by decide +kernel
theorem dX7_thing_58 : decode cX7_thing 58 = .ok (.ifCond .ne 10, 3) := by decide +kernel
theorem dX7_thing_61 : decode cX7_thing 61 = .ok (.aload_n 0, 1) := by decide +kernel
theorem dX7_thing_62 : decode cX7_thing 62 = .ok (.bipush 8, 2) := by decide +kernel
theorem dX7_thing_64 : decode cX7_thing 64 = .ok (.invokevirtual 83, 3) := by decide +kernel
theorem dX7_thing_67 : decode cX7_thing 67 = .ok (.ireturn, 1) := by decide +kernel
theorem dX7_thing_68 : decode cX7_thing 68 = .ok (.aload_n 0, 1) := by decide +kernel
theorem dX7_thing_69 : decode cX7_thing 69 = .ok (.getfield 18, 3) := by decide +kernel
theorem dX7_thing_72 : decode cX7_thing 72 = .ok (.getfield 119, 3) := by decide +kernel
theorem dX7_thing_75 : decode cX7_thing 75 = .ok (.bipush 80, 2) := by decide +kernel
theorem dX7_thing_77 : decode cX7_thing 77 = .ok (.if_icmp .lt 10, 3) := by decide +kernel
theorem dX7_thing_80 : decode cX7_thing 80 = .ok (.aload_n 0, 1) := by decide +kernel
theorem dX7_thing_81 : decode cX7_thing 81 = .ok (.bipush 7, 2) := by decide +kernel
theorem dX7_thing_83 : decode cX7_thing 83 = .ok (.invokevirtual 83, 3) := by decide +kernel
theorem dX7_thing_86 : decode cX7_thing 86 = .ok (.ireturn, 1) := by decide +kernel
theorem dX7_thing_87 : decode cX7_thing 87 = .ok (.aload_n 0, 1) := by decide +kernel
theorem dX7_thing_88 : decode cX7_thing 88 = .ok (.aload_n 0, 1) := by decide +kernel
theorem dX7_thing_89 : decode cX7_thing 89 = .ok (.getfield 18, 3) := by decide +kernel
theorem dX7_thing_92 : decode cX7_thing 92 = .ok (.iload_n 1, 1) := by decide +kernel
theorem dX7_thing_93 : decode cX7_thing 93 = .ok (.aload_n 3, 1) := by decide +kernel
theorem dX7_thing_94 : decode cX7_thing 94 = .ok (.invokevirtual 122, 3) := by decide +kernel
theorem dX7_thing_97 : decode cX7_thing 97 = .ok (.invokevirtual 126, 3) := by decide +kernel
theorem dX7_thing_100 : decode cX7_thing 100 = .ok (.ireturn, 1) := by decide +kernel
theorem dX7_told_0 : decode cX7_told 0 = .ok (.aload_n 0, 1) := by decide +kernel
theorem dX7_told_1 : decode cX7_told 1 = .ok (.getfield 18, 3) := by decide +kernel
theorem dX7_told_4 : decode cX7_told 4 = .ok (.iload_n 1, 1) := by decide +kernel
theorem dX7_told_5 : decode cX7_told 5 = .ok (.invokevirtual 107, 3) := by decide +kernel
theorem dX7_told_8 : decode cX7_told 8 = .ok (.astore_n 3, 1) := by decide +kernel
theorem dX7_told_9 : decode cX7_told 9 = .ok (.aload_n 3, 1) := by decide +kernel
theorem dX7_told_10 : decode cX7_told 10 = .ok (.ifnonnull 9, 3) := by decide +kernel
theorem dX7_told_13 : decode cX7_told 13 = .ok (.aload_n 0, 1) := by decide +kernel
theorem dX7_told_14 : decode cX7_told 14 = .ok (.iconst 2, 1) := by decide +kernel
theorem dX7_told_15 : decode cX7_told 15 = .ok (.invokevirtual 83, 3) := by decide +kernel
theorem dX7_told_18 : decode cX7_told 18 = .ok (.ireturn, 1) := by decide +kernel
theorem dX7_told_19 : decode cX7_told 19 = .ok (.iload_n 2, 1) := by decide +kernel
theorem dX7_told_20 : decode cX7_told 20 = .ok (.tableswitch 138 0 6 #[44, 53, 76, 89, 98, 115, 129], 44) := by decide +kernel
theorem dX7_told_64 : decode cX7_told 64 = .ok (.aload_n 0, 1) := by decide +kernel
theorem dX7_told_65 : decode cX7_told 65 = .ok (.aload_n 3, 1) := by decide +kernel
theorem dX7_told_66 : decode cX7_told 66 = .ok (.getfield 111, 3) := by decide +kernel
theorem dX7_told_69 : decode cX7_told 69 = .ok (.invokevirtual 126, 3) := by decide +kernel
theorem dX7_told_72 : decode cX7_told 72 = .ok (.ireturn, 1) := by decide +kernel
theorem dX7_told_73 : decode cX7_told 73 = .ok (.aload_n 0, 1) := by decide +kernel
theorem dX7_told_74 : decode cX7_told 74 = .ok (.aload_n 3, 1) := by decide +kernel
theorem dX7_told_75 : decode cX7_told 75 = .ok (.getfield 129, 3) := by decide +kernel
theorem dX7_told_78 : decode cX7_told 78 = .ok (.ifnonnull 7, 3) := by decide +kernel
theorem dX7_told_81 : decode cX7_told 81 = .ok (.iconst (-1), 1) := by decide +kernel
theorem dX7_told_82 : decode cX7_told 82 = .ok (.goto 10, 3) := by decide +kernel
theorem dX7_told_85 : decode cX7_told 85 = .ok (.aload_n 3, 1) := by decide +kernel
theorem dX7_told_86 : decode cX7_told 86 = .ok (.getfield 129, 3) := by decide +kernel
theorem dX7_told_89 : decode cX7_told 89 = .ok (.getfield 133, 3) := by decide +kernel
theorem dX7_told_92 : decode cX7_told 92 = .ok (.invokevirtual 126, 3) := by decide +kernel
theorem dX7_told_95 : decode cX7_told 95 = .ok (.ireturn, 1) := by decide +kernel
theorem dX7_told_96 : decode cX7_told 96 = .ok (.aload_n 0, 1) := by decide +kernel
theorem dX7_told_97 : decode cX7_told 97 = .ok (.aload_n 0, 1) := by decide +kernel
theorem dX7_told_98 : decode cX7_told 98 = .ok (.getfield 18, 3) := by decide +kernel
theorem dX7_told_101 : decode cX7_told 101 = .ok (.aload_n 3, 1) := by decide +kernel
theorem dX7_told_102 : decode cX7_told 102 = .ok (.invokevirtual 136, 3) := by decide +kernel
theorem dX7_told_105 : decode cX7_told 105 = .ok (.invokevirtual 126, 3) := by decide +kernel
theorem dX7_told_108 : decode cX7_told 108 = .ok (.ireturn, 1) := by decide +kernel
theorem dX7_told_109 : decode cX7_told 109 = .ok (.aload_n 0, 1) := by decide +kernel
theorem dX7_told_110 : decode cX7_told 110 = .ok (.aload_n 3, 1) := by decide +kernel
theorem dX7_told_111 : decode cX7_told 111 = .ok (.getfield 140, 3) := by decide +kernel
theorem dX7_told_114 : decode cX7_told 114 = .ok (.invokevirtual 126, 3) := by decide +kernel
theorem dX7_told_117 : decode cX7_told 117 = .ok (.ireturn, 1) := by decide +kernel
theorem dX7_told_118 : decode cX7_told 118 = .ok (.aload_n 0, 1) := by decide +kernel
theorem dX7_told_119 : decode cX7_told 119 = .ok (.aload_n 0, 1) := by decide +kernel
theorem dX7_told_120 : decode cX7_told 120 = .ok (.getfield 32, 3) := by decide +kernel
theorem dX7_told_123 : decode cX7_told 123 = .ok (.getfield 143, 3) := by decide +kernel
theorem dX7_told_126 : decode cX7_told 126 = .ok (.getfield 147, 3) := by decide +kernel
theorem dX7_told_129 : decode cX7_told 129 = .ok (.iload_n 1, 1) := by decide +kernel
theorem dX7_told_130 : decode cX7_told 130 = .ok (.iaload, 1) := by decide +kernel
theorem dX7_told_131 : decode cX7_told 131 = .ok (.invokevirtual 126, 3) := by decide +kernel
theorem dX7_told_134 : decode cX7_told 134 = .ok (.ireturn, 1) := by decide +kernel
theorem dX7_told_135 : decode cX7_told 135 = .ok (.aload_n 0, 1) := by decide +kernel
theorem dX7_told_136 : decode cX7_told 136 = .ok (.aload_n 0, 1) := by decide +kernel
theorem dX7_told_137 : decode cX7_told 137 = .ok (.getfield 32, 3) := by decide +kernel
theorem dX7_told_140 : decode cX7_told 140 = .ok (.getfield 153, 3) := by decide +kernel
theorem dX7_told_143 : decode cX7_told 143 = .ok (.iload_n 1, 1) := by decide +kernel
theorem dX7_told_144 : decode cX7_told 144 = .ok (.iaload, 1) := by decide +kernel
theorem dX7_told_145 : decode cX7_told 145 = .ok (.invokevirtual 126, 3) := by decide +kernel
theorem dX7_told_148 : decode cX7_told 148 = .ok (.ireturn, 1) := by decide +kernel
theorem dX7_told_149 : decode cX7_told 149 = .ok (.aload_n 0, 1) := by decide +kernel
theorem dX7_told_150 : decode cX7_told 150 = .ok (.aload_n 3, 1) := by decide +kernel
theorem dX7_told_151 : decode cX7_told 151 = .ok (.getfield 156, 3) := by decide +kernel
theorem dX7_told_154 : decode cX7_told 154 = .ok (.invokevirtual 126, 3) := by decide +kernel
theorem dX7_told_157 : decode cX7_told 157 = .ok (.ireturn, 1) := by decide +kernel
theorem dX7_told_158 : decode cX7_told 158 = .ok (.aload_n 0, 1) := by decide +kernel
theorem dX7_told_159 : decode cX7_told 159 = .ok (.iconst 5, 1) := by decide +kernel
theorem dX7_told_160 : decode cX7_told 160 = .ok (.invokevirtual 83, 3) := by decide +kernel
theorem dX7_told_163 : decode cX7_told 163 = .ok (.ireturn, 1) := by decide +kernel
theorem dX7_say_0 : decode cX7_say 0 = .ok (.aload_n 0, 1) := by decide +kernel
theorem dX7_say_1 : decode cX7_say 1 = .ok (.getfield 18, 3) := by decide +kernel
theorem dX7_say_4 : decode cX7_say 4 = .ok (.iload_n 1, 1) := by decide +kernel
theorem dX7_say_5 : decode cX7_say 5 = .ok (.invokevirtual 107, 3) := by decide +kernel
theorem dX7_say_8 : decode cX7_say 8 = .ok (.astore 4, 2) := by decide +kernel
theorem dX7_say_10 : decode cX7_say 10 = .ok (.aload 4, 2) := by decide +kernel
theorem dX7_say_12 : decode cX7_say 12 = .ok (.ifnull 10, 3) := by decide +kernel
theorem dX7_say_15 : decode cX7_say 15 = .ok (.iload_n 2, 1) := by decide +kernel
theorem dX7_say_16 : decode cX7_say 16 = .ok (.invokestatic 159, 3) := by decide +kernel
theorem dX7_say_19 : decode cX7_say 19 = .ok (.ifCond .ne 9, 3) := by decide +kernel
theorem dX7_say_22 : decode cX7_say 22 = .ok (.aload_n 0, 1) := by decide +kernel
theorem dX7_say_23 : decode cX7_say 23 = .ok (.iconst 2, 1) := by decide +kernel
theorem dX7_say_24 : decode cX7_say 24 = .ok (.invokevirtual 63, 3) := by decide +kernel
theorem dX7_say_27 : decode cX7_say 27 = .ok (.ireturn, 1) := by decide +kernel
theorem dX7_say_28 : decode cX7_say 28 = .ok (.iload_n 3, 1) := by decide +kernel
theorem dX7_say_29 : decode cX7_say 29 = .ok (.iconst (-1), 1) := by decide +kernel
theorem dX7_say_30 : decode cX7_say 30 = .ok (.sipush 999, 3) := by decide +kernel
theorem dX7_say_33 : decode cX7_say 33 = .ok (.invokestatic 59, 3) := by decide +kernel
theorem dX7_say_36 : decode cX7_say 36 = .ok (.ifCond .ne 9, 3) := by decide +kernel
theorem dX7_say_39 : decode cX7_say 39 = .ok (.aload_n 0, 1) := by decide +kernel
theorem dX7_say_40 : decode cX7_say 40 = .ok (.iconst 5, 1) := by decide +kernel
theorem dX7_say_41 : decode cX7_say 41 = .ok (.invokevirtual 63, 3) := by decide +kernel
theorem dX7_say_44 : decode cX7_say 44 = .ok (.ireturn, 1) := by decide +kernel
theorem dX7_say_45 : decode cX7_say 45 = .ok (.aload 4, 2) := by decide +kernel
theorem dX7_say_47 : decode cX7_say 47 = .ok (.getfield 162, 3) := by decide +kernel
theorem dX7_say_50 : decode cX7_say 50 = .ok (.iload_n 2, 1) := by decide +kernel
theorem dX7_say_51 : decode cX7_say 51 = .ok (.iload_n 3, 1) := by decide +kernel
theorem dX7_say_52 : decode cX7_say 52 = .ok (.iastore, 1) := by decide +kernel
theorem dX7_say_53 : decode cX7_say 53 = .ok (.aload_n 0, 1) := by decide +kernel
theorem dX7_say_54 : decode cX7_say 54 = .ok (.invokevirtual 71, 3) := by decide +kernel
theorem dX7_say_57 : decode cX7_say 57 = .ok (.ireturn, 1) := by decide +kernel
theorem dX7_has_0 : decode cX7_has 0 = .ok (.aload_n 0, 1) := by decide +kernel
theorem dX7_has_1 : decode cX7_has 1 = .ok (.getfield 18, 3) := by decide +kernel
theorem dX7_has_4 : decode cX7_has 4 = .ok (.iload_n 1, 1) := by decide +kernel
theorem dX7_has_5 : decode cX7_has 5 = .ok (.invokevirtual 107, 3) := by decide +kernel
theorem dX7_has_8 : decode cX7_has 8 = .ok (.astore_n 3, 1) := by decide +kernel
theorem dX7_has_9 : decode cX7_has 9 = .ok (.aload_n 3, 1) := by decide +kernel
theorem dX7_has_10 : decode cX7_has 10 = .ok (.ifnull 10, 3) := by decide +kernel
theorem dX7_has_13 : decode cX7_has 13 = .ok (.iload_n 2, 1) := by decide +kernel
theorem dX7_has_14 : decode cX7_has 14 = .ok (.invokestatic 159, 3) := by decide +kernel
theorem dX7_has_17 : decode cX7_has 17 = .ok (.ifCond .ne 9, 3) := by decide +kernel
theorem dX7_has_20 : decode cX7_has 20 = .ok (.aload_n 0, 1) := by decide +kernel
theorem dX7_has_21 : decode cX7_has 21 = .ok (.iconst 2, 1) := by decide +kernel
theorem dX7_has_22 : decode cX7_has 22 = .ok (.invokevirtual 83, 3) := by decide +kernel
theorem dX7_has_25 : decode cX7_has 25 = .ok (.ireturn, 1) := by decide +kernel
theorem dX7_has_26 : decode cX7_has 26 = .ok (.aload_n 3, 1) := by decide +kernel
theorem dX7_has_27 : decode cX7_has 27 = .ok (.iload_n 2, 1) := by decide +kernel
theorem dX7_has_28 : decode cX7_has 28 = .ok (.invokevirtual 165, 3) := by decide +kernel
theorem dX7_has_31 : decode cX7_has 31 = .ok (.istore 4, 2) := by decide +kernel
theorem dX7_has_33 : decode cX7_has 33 = .ok (.iload 4, 2) := by decide +kernel
theorem dX7_has_35 : decode cX7_has 35 = .ok (.iconst (-1), 1) := by decide +kernel
theorem dX7_has_36 : decode cX7_has 36 = .ok (.if_icmp .ne 12, 3) := by decide +kernel
theorem dX7_has_39 : decode cX7_has 39 = .ok (.aload_n 0, 1) := by decide +kernel
theorem dX7_has_40 : decode cX7_has 40 = .ok (.bipush 9, 2) := by decide +kernel
theorem dX7_has_42 : decode cX7_has 42 = .ok (.invokevirtual 83, 3) := by decide +kernel
theorem dX7_has_45 : decode cX7_has 45 = .ok (.goto 9, 3) := by decide +kernel
theorem dX7_has_48 : decode cX7_has 48 = .ok (.aload_n 0, 1) := by decide +kernel
theorem dX7_has_49 : decode cX7_has 49 = .ok (.iload 4, 2) := by decide +kernel
theorem dX7_has_51 : decode cX7_has 51 = .ok (.invokevirtual 126, 3) := by decide +kernel
theorem dX7_has_54 : decode cX7_has 54 = .ok (.ireturn, 1) := by decide +kernel
theorem dX7_span_0 : decode cX7_span 0 = .ok (.aload_n 0, 1) := by decide +kernel
theorem dX7_span_1 : decode cX7_span 1 = .ok (.getfield 18, 3) := by decide +kernel
theorem dX7_span_4 : decode cX7_span 4 = .ok (.iload_n 1, 1) := by decide +kernel
theorem dX7_span_5 : decode cX7_span 5 = .ok (.invokevirtual 107, 3) := by decide +kernel
theorem dX7_span_8 : decode cX7_span 8 = .ok (.astore 4, 2) := by decide +kernel
theorem dX7_span_10 : decode cX7_span 10 = .ok (.aload 4, 2) := by decide +kernel
theorem dX7_span_12 : decode cX7_span 12 = .ok (.ifnonnull 9, 3) := by decide +kernel
theorem dX7_span_15 : decode cX7_span 15 = .ok (.aload_n 0, 1) := by decide +kernel
theorem dX7_span_16 : decode cX7_span 16 = .ok (.iconst 2, 1) := by decide +kernel
theorem dX7_span_17 : decode cX7_span 17 = .ok (.invokevirtual 63, 3) := by decide +kernel
theorem dX7_span_20 : decode cX7_span 20 = .ok (.ireturn, 1) := by decide +kernel
theorem dX7_span_21 : decode cX7_span 21 = .ok (.iload_n 2, 1) := by decide +kernel
theorem dX7_span_22 : decode cX7_span 22 = .ok (.iconst 0, 1) := by decide +kernel
theorem dX7_span_23 : decode cX7_span 23 = .ok (.iload_n 3, 1) := by decide +kernel
theorem dX7_span_24 : decode cX7_span 24 = .ok (.invokestatic 59, 3) := by decide +kernel
theorem dX7_span_27 : decode cX7_span 27 = .ok (.ifCond .eq 9, 3) := by decide +kernel
theorem dX7_span_30 : decode cX7_span 30 = .ok (.iload_n 3, 1) := by decide +kernel
theorem dX7_span_31 : decode cX7_span 31 = .ok (.ldc 168, 2) := by decide +kernel
theorem dX7_span_33 : decode cX7_span 33 = .ok (.if_icmp .le 9, 3) := by decide +kernel
theorem dX7_span_36 : decode cX7_span 36 = .ok (.aload_n 0, 1) := by decide +kernel
theorem dX7_span_37 : decode cX7_span 37 = .ok (.iconst 5, 1) := by decide +kernel
theorem dX7_span_38 : decode cX7_span 38 = .ok (.invokevirtual 63, 3) := by decide +kernel
theorem dX7_span_41 : decode cX7_span 41 = .ok (.ireturn, 1) := by decide +kernel
theorem dX7_span_42 : decode cX7_span 42 = .ok (.aload 4, 2) := by decide +kernel
theorem dX7_span_44 : decode cX7_span 44 = .ok (.iload_n 2, 1) := by decide +kernel
theorem dX7_span_45 : decode cX7_span 45 = .ok (.putfield 169, 3) := by decide +kernel
theorem dX7_span_48 : decode cX7_span 48 = .ok (.aload 4, 2) := by decide +kernel
theorem dX7_span_50 : decode cX7_span 50 = .ok (.iload_n 3, 1) := by decide +kernel
theorem dX7_span_51 : decode cX7_span 51 = .ok (.putfield 172, 3) := by decide +kernel
theorem dX7_span_54 : decode cX7_span 54 = .ok (.aload_n 0, 1) := by decide +kernel
theorem dX7_span_55 : decode cX7_span 55 = .ok (.invokevirtual 71, 3) := by decide +kernel
theorem dX7_span_58 : decode cX7_span 58 = .ok (.ireturn, 1) := by decide +kernel
theorem dX7_noSpan_0 : decode cX7_noSpan 0 = .ok (.aload_n 0, 1) := by decide +kernel
theorem dX7_noSpan_1 : decode cX7_noSpan 1 = .ok (.getfield 18, 3) := by decide +kernel
theorem dX7_noSpan_4 : decode cX7_noSpan 4 = .ok (.iload_n 1, 1) := by decide +kernel
theorem dX7_noSpan_5 : decode cX7_noSpan 5 = .ok (.invokevirtual 107, 3) := by decide +kernel
theorem dX7_noSpan_8 : decode cX7_noSpan 8 = .ok (.astore_n 2, 1) := by decide +kernel
theorem dX7_noSpan_9 : decode cX7_noSpan 9 = .ok (.aload_n 2, 1) := by decide +kernel
theorem dX7_noSpan_10 : decode cX7_noSpan 10 = .ok (.ifnonnull 9, 3) := by decide +kernel
theorem dX7_noSpan_13 : decode cX7_noSpan 13 = .ok (.aload_n 0, 1) := by decide +kernel
theorem dX7_noSpan_14 : decode cX7_noSpan 14 = .ok (.iconst 2, 1) := by decide +kernel
theorem dX7_noSpan_15 : decode cX7_noSpan 15 = .ok (.invokevirtual 63, 3) := by decide +kernel
theorem dX7_noSpan_18 : decode cX7_noSpan 18 = .ok (.ireturn, 1) := by decide +kernel
theorem dX7_noSpan_19 : decode cX7_noSpan 19 = .ok (.aload_n 2, 1) := by decide +kernel
theorem dX7_noSpan_20 : decode cX7_noSpan 20 = .ok (.invokevirtual 175, 3) := by decide +kernel
theorem dX7_noSpan_23 : decode cX7_noSpan 23 = .ok (.ifCond .ne 10, 3) := by decide +kernel
theorem dX7_noSpan_26 : decode cX7_noSpan 26 = .ok (.aload_n 0, 1) := by decide +kernel
theorem dX7_noSpan_27 : decode cX7_noSpan 27 = .ok (.bipush 9, 2) := by decide +kernel
theorem dX7_noSpan_29 : decode cX7_noSpan 29 = .ok (.invokevirtual 63, 3) := by decide +kernel
theorem dX7_noSpan_32 : decode cX7_noSpan 32 = .ok (.ireturn, 1) := by decide +kernel
theorem dX7_noSpan_33 : decode cX7_noSpan 33 = .ok (.aload_n 2, 1) := by decide +kernel
theorem dX7_noSpan_34 : decode cX7_noSpan 34 = .ok (.iconst (-1), 1) := by decide +kernel
theorem dX7_noSpan_35 : decode cX7_noSpan 35 = .ok (.putfield 169, 3) := by decide +kernel
theorem dX7_noSpan_38 : decode cX7_noSpan 38 = .ok (.aload_n 2, 1) := by decide +kernel
theorem dX7_noSpan_39 : decode cX7_noSpan 39 = .ok (.iconst (-1), 1) := by decide +kernel
theorem dX7_noSpan_40 : decode cX7_noSpan 40 = .ok (.putfield 172, 3) := by decide +kernel
theorem dX7_noSpan_43 : decode cX7_noSpan 43 = .ok (.aload_n 0, 1) := by decide +kernel
theorem dX7_noSpan_44 : decode cX7_noSpan 44 = .ok (.invokevirtual 71, 3) := by decide +kernel
theorem dX7_noSpan_47 : decode cX7_noSpan 47 = .ok (.ireturn, 1) := by decide +kernel
theorem dX7_held_0 : decode cX7_held 0 = .ok (.aload_n 0, 1) := by decide +kernel
theorem dX7_held_1 : decode cX7_held 1 = .ok (.getfield 18, 3) := by decide +kernel
theorem dX7_held_4 : decode cX7_held 4 = .ok (.iload_n 1, 1) := by decide +kernel
theorem dX7_held_5 : decode cX7_held 5 = .ok (.invokevirtual 107, 3) := by decide +kernel
theorem dX7_held_8 : decode cX7_held 8 = .ok (.astore_n 3, 1) := by decide +kernel
theorem dX7_held_9 : decode cX7_held 9 = .ok (.aload_n 3, 1) := by decide +kernel
theorem dX7_held_10 : decode cX7_held 10 = .ok (.ifnonnull 9, 3) := by decide +kernel
theorem dX7_held_13 : decode cX7_held 13 = .ok (.aload_n 0, 1) := by decide +kernel
theorem dX7_held_14 : decode cX7_held 14 = .ok (.iconst 2, 1) := by decide +kernel
theorem dX7_held_15 : decode cX7_held 15 = .ok (.invokevirtual 83, 3) := by decide +kernel
theorem dX7_held_18 : decode cX7_held 18 = .ok (.ireturn, 1) := by decide +kernel
theorem dX7_held_19 : decode cX7_held 19 = .ok (.aload_n 0, 1) := by decide +kernel
theorem dX7_held_20 : decode cX7_held 20 = .ok (.getfield 18, 3) := by decide +kernel
theorem dX7_held_23 : decode cX7_held 23 = .ok (.aload_n 3, 1) := by decide +kernel
theorem dX7_held_24 : decode cX7_held 24 = .ok (.iload_n 2, 1) := by decide +kernel
theorem dX7_held_25 : decode cX7_held 25 = .ok (.invokevirtual 178, 3) := by decide +kernel
theorem dX7_held_28 : decode cX7_held 28 = .ok (.istore 4, 2) := by decide +kernel
theorem dX7_held_30 : decode cX7_held 30 = .ok (.iload 4, 2) := by decide +kernel
theorem dX7_held_32 : decode cX7_held 32 = .ok (.iconst (-1), 1) := by decide +kernel
theorem dX7_held_33 : decode cX7_held 33 = .ok (.if_icmp .ne 12, 3) := by decide +kernel
theorem dX7_held_36 : decode cX7_held 36 = .ok (.aload_n 0, 1) := by decide +kernel
theorem dX7_held_37 : decode cX7_held 37 = .ok (.bipush 9, 2) := by decide +kernel
theorem dX7_held_39 : decode cX7_held 39 = .ok (.invokevirtual 83, 3) := by decide +kernel
theorem dX7_held_42 : decode cX7_held 42 = .ok (.goto 9, 3) := by decide +kernel
theorem dX7_held_45 : decode cX7_held 45 = .ok (.aload_n 0, 1) := by decide +kernel
theorem dX7_held_46 : decode cX7_held 46 = .ok (.iload 4, 2) := by decide +kernel
theorem dX7_held_48 : decode cX7_held 48 = .ok (.invokevirtual 126, 3) := by decide +kernel
theorem dX7_held_51 : decode cX7_held 51 = .ok (.ireturn, 1) := by decide +kernel
theorem dX7_quarrel_0 : decode cX7_quarrel 0 = .ok (.iload_n 1, 1) := by decide +kernel
theorem dX7_quarrel_1 : decode cX7_quarrel 1 = .ok (.ifCond .ge 9, 3) := by decide +kernel
theorem dX7_quarrel_4 : decode cX7_quarrel 4 = .ok (.aload_n 0, 1) := by decide +kernel
theorem dX7_quarrel_5 : decode cX7_quarrel 5 = .ok (.iconst 5, 1) := by decide +kernel
theorem dX7_quarrel_6 : decode cX7_quarrel 6 = .ok (.invokevirtual 83, 3) := by decide +kernel
theorem dX7_quarrel_9 : decode cX7_quarrel 9 = .ok (.ireturn, 1) := by decide +kernel
theorem dX7_quarrel_10 : decode cX7_quarrel 10 = .ok (.aload_n 0, 1) := by decide +kernel
theorem dX7_quarrel_11 : decode cX7_quarrel 11 = .ok (.getfield 18, 3) := by decide +kernel
theorem dX7_quarrel_14 : decode cX7_quarrel 14 = .ok (.iload_n 1, 1) := by decide +kernel
theorem dX7_quarrel_15 : decode cX7_quarrel 15 = .ok (.invokevirtual 182, 3) := by decide +kernel
theorem dX7_quarrel_18 : decode cX7_quarrel 18 = .ok (.istore_n 2, 1) := by decide +kernel
theorem dX7_quarrel_19 : decode cX7_quarrel 19 = .ok (.iload_n 2, 1) := by decide +kernel
theorem dX7_quarrel_20 : decode cX7_quarrel 20 = .ok (.iconst (-1), 1) := by decide +kernel
theorem dX7_quarrel_21 : decode cX7_quarrel 21 = .ok (.if_icmp .ne 12, 3) := by decide +kernel
theorem dX7_quarrel_24 : decode cX7_quarrel 24 = .ok (.aload_n 0, 1) := by decide +kernel
theorem dX7_quarrel_25 : decode cX7_quarrel 25 = .ok (.bipush 9, 2) := by decide +kernel
theorem dX7_quarrel_27 : decode cX7_quarrel 27 = .ok (.invokevirtual 83, 3) := by decide +kernel
theorem dX7_quarrel_30 : decode cX7_quarrel 30 = .ok (.goto 8, 3) := by decide +kernel
theorem dX7_quarrel_33 : decode cX7_quarrel 33 = .ok (.aload_n 0, 1) := by decide +kernel
theorem dX7_quarrel_34 : decode cX7_quarrel 34 = .ok (.iload_n 2, 1) := by decide +kernel
theorem dX7_quarrel_35 : decode cX7_quarrel 35 = .ok (.invokevirtual 126, 3) := by decide +kernel
theorem dX7_quarrel_38 : decode cX7_quarrel 38 = .ok (.ireturn, 1) := by decide +kernel
theorem dX7_count_0 : decode cX7_count 0 = .ok (.aload_n 0, 1) := by decide +kernel
theorem dX7_count_1 : decode cX7_count 1 = .ok (.getfield 18, 3) := by decide +kernel
theorem dX7_count_4 : decode cX7_count 4 = .ok (.iload_n 1, 1) := by decide +kernel
theorem dX7_count_5 : decode cX7_count 5 = .ok (.invokevirtual 107, 3) := by decide +kernel
theorem dX7_count_8 : decode cX7_count 8 = .ok (.astore_n 3, 1) := by decide +kernel
theorem dX7_count_9 : decode cX7_count 9 = .ok (.aload_n 3, 1) := by decide +kernel
theorem dX7_count_10 : decode cX7_count 10 = .ok (.ifnonnull 9, 3) := by decide +kernel
theorem dX7_count_13 : decode cX7_count 13 = .ok (.aload_n 0, 1) := by decide +kernel
theorem dX7_count_14 : decode cX7_count 14 = .ok (.iconst 2, 1) := by decide +kernel
theorem dX7_count_15 : decode cX7_count 15 = .ok (.invokevirtual 63, 3) := by decide +kernel
theorem dX7_count_18 : decode cX7_count 18 = .ok (.ireturn, 1) := by decide +kernel
theorem dX7_count_19 : decode cX7_count 19 = .ok (.iload_n 2, 1) := by decide +kernel
theorem dX7_count_20 : decode cX7_count 20 = .ok (.iconst (-1), 1) := by decide +kernel
theorem dX7_count_21 : decode cX7_count 21 = .ok (.sipush 999, 3) := by decide +kernel
theorem dX7_count_24 : decode cX7_count 24 = .ok (.invokestatic 59, 3) := by decide +kernel
theorem dX7_count_27 : decode cX7_count 27 = .ok (.ifCond .ne 9, 3) := by decide +kernel
theorem dX7_count_30 : decode cX7_count 30 = .ok (.aload_n 0, 1) := by decide +kernel
theorem dX7_count_31 : decode cX7_count 31 = .ok (.iconst 5, 1) := by decide +kernel
theorem dX7_count_32 : decode cX7_count 32 = .ok (.invokevirtual 63, 3) := by decide +kernel
theorem dX7_count_35 : decode cX7_count 35 = .ok (.ireturn, 1) := by decide +kernel
theorem dX7_count_36 : decode cX7_count 36 = .ok (.aload_n 3, 1) := by decide +kernel
theorem dX7_count_37 : decode cX7_count 37 = .ok (.getfield 111, 3) := by decide +kernel
theorem dX7_count_40 : decode cX7_count 40 = .ok (.iconst 2, 1) := by decide +kernel
theorem dX7_count_41 : decode cX7_count 41 = .ok (.if_icmp .eq 10, 3) := by decide +kernel
theorem dX7_count_44 : decode cX7_count 44 = .ok (.aload_n 0, 1) := by decide +kernel
theorem dX7_count_45 : decode cX7_count 45 = .ok (.bipush 8, 2) := by decide +kernel
theorem dX7_count_47 : decode cX7_count 47 = .ok (.invokevirtual 63, 3) := by decide +kernel
theorem dX7_count_50 : decode cX7_count 50 = .ok (.ireturn, 1) := by decide +kernel
theorem dX7_count_51 : decode cX7_count 51 = .ok (.aload_n 3, 1) := by decide +kernel
theorem dX7_count_52 : decode cX7_count 52 = .ok (.iload_n 2, 1) := by decide +kernel
theorem dX7_count_53 : decode cX7_count 53 = .ok (.putfield 140, 3) := by decide +kernel
theorem dX7_count_56 : decode cX7_count 56 = .ok (.aload_n 0, 1) := by decide +kernel
theorem dX7_count_57 : decode cX7_count 57 = .ok (.invokevirtual 71, 3) := by decide +kernel
theorem dX7_count_60 : decode cX7_count 60 = .ok (.ireturn, 1) := by decide +kernel
theorem dX7_join_0 : decode cX7_join 0 = .ok (.aload_n 0, 1) := by decide +kernel
theorem dX7_join_1 : decode cX7_join 1 = .ok (.getfield 18, 3) := by decide +kernel
theorem dX7_join_4 : decode cX7_join 4 = .ok (.iload_n 1, 1) := by decide +kernel
theorem dX7_join_5 : decode cX7_join 5 = .ok (.invokevirtual 107, 3) := by decide +kernel
theorem dX7_join_8 : decode cX7_join 8 = .ok (.astore_n 3, 1) := by decide +kernel
theorem dX7_join_9 : decode cX7_join 9 = .ok (.aload_n 0, 1) := by decide +kernel
theorem dX7_join_10 : decode cX7_join 10 = .ok (.getfield 18, 3) := by decide +kernel
theorem dX7_join_13 : decode cX7_join 13 = .ok (.iload_n 2, 1) := by decide +kernel
theorem dX7_join_14 : decode cX7_join 14 = .ok (.invokevirtual 107, 3) := by decide +kernel
theorem dX7_join_17 : decode cX7_join 17 = .ok (.astore 4, 2) := by decide +kernel
theorem dX7_join_19 : decode cX7_join 19 = .ok (.aload_n 3, 1) := by decide +kernel
theorem dX7_join_20 : decode cX7_join 20 = .ok (.ifnull 8, 3) := by decide +kernel
theorem dX7_join_23 : decode cX7_join 23 = .ok (.aload 4, 2) := by decide +kernel
theorem dX7_join_25 : decode cX7_join 25 = .ok (.ifnonnull 9, 3) := by decide +kernel
theorem dX7_join_28 : decode cX7_join 28 = .ok (.aload_n 0, 1) := by decide +kernel
theorem dX7_join_29 : decode cX7_join 29 = .ok (.iconst 2, 1) := by decide +kernel
theorem dX7_join_30 : decode cX7_join 30 = .ok (.invokevirtual 63, 3) := by decide +kernel
theorem dX7_join_33 : decode cX7_join 33 = .ok (.ireturn, 1) := by decide +kernel
theorem dX7_join_34 : decode cX7_join 34 = .ok (.iload_n 1, 1) := by decide +kernel
theorem dX7_join_35 : decode cX7_join 35 = .ok (.iload_n 2, 1) := by decide +kernel
theorem dX7_join_36 : decode cX7_join 36 = .ok (.if_icmp .ne 9, 3) := by decide +kernel
theorem dX7_join_39 : decode cX7_join 39 = .ok (.aload_n 0, 1) := by decide +kernel
theorem dX7_join_40 : decode cX7_join 40 = .ok (.iconst 5, 1) := by decide +kernel
theorem dX7_join_41 : decode cX7_join 41 = .ok (.invokevirtual 63, 3) := by decide +kernel
theorem dX7_join_44 : decode cX7_join 44 = .ok (.ireturn, 1) := by decide +kernel
theorem dX7_join_45 : decode cX7_join 45 = .ok (.aload_n 3, 1) := by decide +kernel
theorem dX7_join_46 : decode cX7_join 46 = .ok (.getfield 111, 3) := by decide +kernel
theorem dX7_join_49 : decode cX7_join 49 = .ok (.iconst 3, 1) := by decide +kernel
theorem dX7_join_50 : decode cX7_join 50 = .ok (.if_icmp .ne 12, 3) := by decide +kernel
theorem dX7_join_53 : decode cX7_join 53 = .ok (.aload 4, 2) := by decide +kernel
theorem dX7_join_55 : decode cX7_join 55 = .ok (.getfield 111, 3) := by decide +kernel
theorem dX7_join_58 : decode cX7_join 58 = .ok (.iconst 3, 1) := by decide +kernel
theorem dX7_join_59 : decode cX7_join 59 = .ok (.if_icmp .eq 10, 3) := by decide +kernel
theorem dX7_join_62 : decode cX7_join 62 = .ok (.aload_n 0, 1) := by decide +kernel
theorem dX7_join_63 : decode cX7_join 63 = .ok (.bipush 8, 2) := by decide +kernel
theorem dX7_join_65 : decode cX7_join 65 = .ok (.invokevirtual 63, 3) := by decide +kernel
theorem dX7_join_68 : decode cX7_join 68 = .ok (.ireturn, 1) := by decide +kernel
theorem dX7_join_69 : decode cX7_join 69 = .ok (.aload_n 3, 1) := by decide +kernel
theorem dX7_join_70 : decode cX7_join 70 = .ok (.getfield 185, 3) := by decide +kernel
theorem dX7_join_73 : decode cX7_join 73 = .ok (.aload 4, 2) := by decide +kernel
theorem dX7_join_75 : decode cX7_join 75 = .ok (.getfield 185, 3) := by decide +kernel
theorem dX7_join_78 : decode cX7_join 78 = .ok (.if_icmp .ne 10, 3) := by decide +kernel
theorem dX7_join_81 : decode cX7_join 81 = .ok (.aload_n 0, 1) := by decide +kernel
theorem dX7_join_82 : decode cX7_join 82 = .ok (.bipush 10, 2) := by decide +kernel
theorem dX7_join_84 : decode cX7_join 84 = .ok (.invokevirtual 63, 3) := by decide +kernel
theorem dX7_join_87 : decode cX7_join 87 = .ok (.ireturn, 1) := by decide +kernel
theorem dX7_join_88 : decode cX7_join 88 = .ok (.aload_n 0, 1) := by decide +kernel
theorem dX7_join_89 : decode cX7_join 89 = .ok (.getfield 18, 3) := by decide +kernel
theorem dX7_join_92 : decode cX7_join 92 = .ok (.aload_n 3, 1) := by decide +kernel
theorem dX7_join_93 : decode cX7_join 93 = .ok (.getfield 185, 3) := by decide +kernel
theorem dX7_join_96 : decode cX7_join 96 = .ok (.aload 4, 2) := by decide +kernel
theorem dX7_join_98 : decode cX7_join 98 = .ok (.getfield 185, 3) := by decide +kernel
theorem dX7_join_101 : decode cX7_join 101 = .ok (.invokevirtual 188, 3) := by decide +kernel
theorem dX7_join_104 : decode cX7_join 104 = .ok (.aload_n 0, 1) := by decide +kernel
theorem dX7_join_105 : decode cX7_join 105 = .ok (.invokevirtual 71, 3) := by decide +kernel
theorem dX7_join_108 : decode cX7_join 108 = .ok (.ireturn, 1) := by decide +kernel
theorem dX7_close_0 : decode cX7_close 0 = .ok (.aload_n 0, 1) := by decide +kernel
theorem dX7_close_1 : decode cX7_close 1 = .ok (.getfield 18, 3) := by decide +kernel
theorem dX7_close_4 : decode cX7_close 4 = .ok (.iload_n 1, 1) := by decide +kernel
theorem dX7_close_5 : decode cX7_close 5 = .ok (.invokevirtual 107, 3) := by decide +kernel
theorem dX7_close_8 : decode cX7_close 8 = .ok (.astore 4, 2) := by decide +kernel
theorem dX7_close_10 : decode cX7_close 10 = .ok (.aload 4, 2) := by decide +kernel
theorem dX7_close_12 : decode cX7_close 12 = .ok (.ifnonnull 9, 3) := by decide +kernel
theorem dX7_close_15 : decode cX7_close 15 = .ok (.aload_n 0, 1) := by decide +kernel
theorem dX7_close_16 : decode cX7_close 16 = .ok (.iconst 2, 1) := by decide +kernel
theorem dX7_close_17 : decode cX7_close 17 = .ok (.invokevirtual 63, 3) := by decide +kernel
theorem dX7_close_20 : decode cX7_close 20 = .ok (.ireturn, 1) := by decide +kernel
theorem dX7_close_21 : decode cX7_close 21 = .ok (.iload_n 2, 1) := by decide +kernel
theorem dX7_close_22 : decode cX7_close 22 = .ok (.iconst (-1), 1) := by decide +kernel
theorem dX7_close_23 : decode cX7_close 23 = .ok (.ldc 191, 2) := by decide +kernel
theorem dX7_close_25 : decode cX7_close 25 = .ok (.invokestatic 59, 3) := by decide +kernel
theorem dX7_close_28 : decode cX7_close 28 = .ok (.ifCond .eq 13, 3) := by decide +kernel
theorem dX7_close_31 : decode cX7_close 31 = .ok (.iload_n 3, 1) := by decide +kernel
theorem dX7_close_32 : decode cX7_close 32 = .ok (.iconst 0, 1) := by decide +kernel
theorem dX7_close_33 : decode cX7_close 33 = .ok (.ldc 192, 2) := by decide +kernel
theorem dX7_close_35 : decode cX7_close 35 = .ok (.invokestatic 59, 3) := by decide +kernel
theorem dX7_close_38 : decode cX7_close 38 = .ok (.ifCond .ne 9, 3) := by decide +kernel
theorem dX7_close_41 : decode cX7_close 41 = .ok (.aload_n 0, 1) := by decide +kernel
theorem dX7_close_42 : decode cX7_close 42 = .ok (.iconst 5, 1) := by decide +kernel
theorem dX7_close_43 : decode cX7_close 43 = .ok (.invokevirtual 63, 3) := by decide +kernel
theorem dX7_close_46 : decode cX7_close 46 = .ok (.ireturn, 1) := by decide +kernel
theorem dX7_close_47 : decode cX7_close 47 = .ok (.aload 4, 2) := by decide +kernel
theorem dX7_close_49 : decode cX7_close 49 = .ok (.iload_n 2, 1) := by decide +kernel
theorem dX7_close_50 : decode cX7_close 50 = .ok (.putfield 193, 3) := by decide +kernel
theorem dX7_close_53 : decode cX7_close 53 = .ok (.aload 4, 2) := by decide +kernel
theorem dX7_close_55 : decode cX7_close 55 = .ok (.iload_n 3, 1) := by decide +kernel
theorem dX7_close_56 : decode cX7_close 56 = .ok (.putfield 196, 3) := by decide +kernel
theorem dX7_close_59 : decode cX7_close 59 = .ok (.aload_n 0, 1) := by decide +kernel
theorem dX7_close_60 : decode cX7_close 60 = .ok (.invokevirtual 71, 3) := by decide +kernel
theorem dX7_close_63 : decode cX7_close 63 = .ok (.ireturn, 1) := by decide +kernel
theorem dX7_sees_0 : decode cX7_sees 0 = .ok (.aload_n 0, 1) := by decide +kernel
theorem dX7_sees_1 : decode cX7_sees 1 = .ok (.getfield 18, 3) := by decide +kernel
theorem dX7_sees_4 : decode cX7_sees 4 = .ok (.iload_n 1, 1) := by decide +kernel
theorem dX7_sees_5 : decode cX7_sees 5 = .ok (.invokevirtual 107, 3) := by decide +kernel
theorem dX7_sees_8 : decode cX7_sees 8 = .ok (.astore 4, 2) := by decide +kernel
theorem dX7_sees_10 : decode cX7_sees 10 = .ok (.aload 4, 2) := by decide +kernel
theorem dX7_sees_12 : decode cX7_sees 12 = .ok (.ifnull 10, 3) := by decide +kernel
theorem dX7_sees_15 : decode cX7_sees 15 = .ok (.iload_n 2, 1) := by decide +kernel
theorem dX7_sees_16 : decode cX7_sees 16 = .ok (.invokestatic 199, 3) := by decide +kernel
theorem dX7_sees_19 : decode cX7_sees 19 = .ok (.ifCond .ne 9, 3) := by decide +kernel
theorem dX7_sees_22 : decode cX7_sees 22 = .ok (.aload_n 0, 1) := by decide +kernel
theorem dX7_sees_23 : decode cX7_sees 23 = .ok (.iconst 2, 1) := by decide +kernel
theorem dX7_sees_24 : decode cX7_sees 24 = .ok (.invokevirtual 83, 3) := by decide +kernel
theorem dX7_sees_27 : decode cX7_sees 27 = .ok (.ireturn, 1) := by decide +kernel
theorem dX7_sees_28 : decode cX7_sees 28 = .ok (.iload_n 3, 1) := by decide +kernel
theorem dX7_sees_29 : decode cX7_sees 29 = .ok (.invokestatic 202, 3) := by decide +kernel
theorem dX7_sees_32 : decode cX7_sees 32 = .ok (.ifCond .ne 9, 3) := by decide +kernel
theorem dX7_sees_35 : decode cX7_sees 35 = .ok (.aload_n 0, 1) := by decide +kernel
theorem dX7_sees_36 : decode cX7_sees 36 = .ok (.iconst 5, 1) := by decide +kernel
theorem dX7_sees_37 : decode cX7_sees 37 = .ok (.invokevirtual 83, 3) := by decide +kernel
theorem dX7_sees_40 : decode cX7_sees 40 = .ok (.ireturn, 1) := by decide +kernel
theorem dX7_sees_41 : decode cX7_sees 41 = .ok (.aload_n 0, 1) := by decide +kernel
theorem dX7_sees_42 : decode cX7_sees 42 = .ok (.aload 4, 2) := by decide +kernel
theorem dX7_sees_44 : decode cX7_sees 44 = .ok (.iload_n 2, 1) := by decide +kernel
theorem dX7_sees_45 : decode cX7_sees 45 = .ok (.iload_n 3, 1) := by decide +kernel
theorem dX7_sees_46 : decode cX7_sees 46 = .ok (.invokevirtual 205, 3) := by decide +kernel
theorem dX7_sees_49 : decode cX7_sees 49 = .ok (.ifCond .eq 7, 3) := by decide +kernel
theorem dX7_sees_52 : decode cX7_sees 52 = .ok (.iconst 1, 1) := by decide +kernel
theorem dX7_sees_53 : decode cX7_sees 53 = .ok (.goto 4, 3) := by decide +kernel
theorem dX7_sees_56 : decode cX7_sees 56 = .ok (.iconst 0, 1) := by decide +kernel
theorem dX7_sees_57 : decode cX7_sees 57 = .ok (.invokevirtual 126, 3) := by decide +kernel
theorem dX7_sees_60 : decode cX7_sees 60 = .ok (.ireturn, 1) := by decide +kernel
theorem dX7_number_0 : decode cX7_number 0 = .ok (.aload_n 0, 1) := by decide +kernel
theorem dX7_number_1 : decode cX7_number 1 = .ok (.getfield 18, 3) := by decide +kernel
theorem dX7_number_4 : decode cX7_number 4 = .ok (.iload_n 1, 1) := by decide +kernel
theorem dX7_number_5 : decode cX7_number 5 = .ok (.invokevirtual 107, 3) := by decide +kernel
theorem dX7_number_8 : decode cX7_number 8 = .ok (.astore 5, 2) := by decide +kernel
theorem dX7_number_10 : decode cX7_number 10 = .ok (.aload 5, 2) := by decide +kernel
theorem dX7_number_12 : decode cX7_number 12 = .ok (.ifnull 10, 3) := by decide +kernel
theorem dX7_number_15 : decode cX7_number 15 = .ok (.iload_n 3, 1) := by decide +kernel
theorem dX7_number_16 : decode cX7_number 16 = .ok (.invokestatic 199, 3) := by decide +kernel
theorem dX7_number_19 : decode cX7_number 19 = .ok (.ifCond .ne 9, 3) := by decide +kernel
theorem dX7_number_22 : decode cX7_number 22 = .ok (.aload_n 0, 1) := by decide +kernel
theorem dX7_number_23 : decode cX7_number 23 = .ok (.iconst 2, 1) := by decide +kernel
theorem dX7_number_24 : decode cX7_number 24 = .ok (.invokevirtual 83, 3) := by decide +kernel
theorem dX7_number_27 : decode cX7_number 27 = .ok (.ireturn, 1) := by decide +kernel
theorem dX7_number_28 : decode cX7_number 28 = .ok (.iload_n 2, 1) := by decide +kernel
theorem dX7_number_29 : decode cX7_number 29 = .ok (.iconst 0, 1) := by decide +kernel
theorem dX7_number_30 : decode cX7_number 30 = .ok (.iconst 3, 1) := by decide +kernel
theorem dX7_number_31 : decode cX7_number 31 = .ok (.invokestatic 59, 3) := by decide +kernel
theorem dX7_number_34 : decode cX7_number 34 = .ok (.ifCond .eq 11, 3) := by decide +kernel
theorem dX7_number_37 : decode cX7_number 37 = .ok (.iload 4, 2) := by decide +kernel
theorem dX7_number_39 : decode cX7_number 39 = .ok (.invokestatic 202, 3) := by decide +kernel
theorem dX7_number_42 : decode cX7_number 42 = .ok (.ifCond .ne 9, 3) := by decide +kernel
theorem dX7_number_45 : decode cX7_number 45 = .ok (.aload_n 0, 1) := by decide +kernel
theorem dX7_number_46 : decode cX7_number 46 = .ok (.iconst 5, 1) := by decide +kernel
theorem dX7_number_47 : decode cX7_number 47 = .ok (.invokevirtual 83, 3) := by decide +kernel
theorem dX7_number_50 : decode cX7_number 50 = .ok (.ireturn, 1) := by decide +kernel
theorem dX7_number_51 : decode cX7_number 51 = .ok (.iload_n 2, 1) := by decide +kernel
theorem dX7_number_52 : decode cX7_number 52 = .ok (.iconst 3, 1) := by decide +kernel
theorem dX7_number_53 : decode cX7_number 53 = .ok (.if_icmp .ne 33, 3) := by decide +kernel
theorem dX7_number_56 : decode cX7_number 56 = .ok (.aload_n 0, 1) := by decide +kernel
theorem dX7_number_57 : decode cX7_number 57 = .ok (.aload_n 0, 1) := by decide +kernel
theorem dX7_number_58 : decode cX7_number 58 = .ok (.getfield 18, 3) := by decide +kernel
theorem dX7_number_61 : decode cX7_number 61 = .ok (.aload 5, 2) := by decide +kernel
theorem dX7_number_63 : decode cX7_number 63 = .ok (.iload_n 3, 1) := by decide +kernel
theorem dX7_number_64 : decode cX7_number 64 = .ok (.iload 4, 2) := by decide +kernel
theorem dX7_number_66 : decode cX7_number 66 = .ok (.invokevirtual 208, 3) := by decide +kernel
theorem dX7_number_69 : decode cX7_number 69 = .ok (.aload_n 0, 1) := by decide +kernel
theorem dX7_number_70 : decode cX7_number 70 = .ok (.getfield 18, 3) := by decide +kernel
theorem dX7_number_73 : decode cX7_number 73 = .ok (.aload 5, 2) := by decide +kernel
theorem dX7_number_75 : decode cX7_number 75 = .ok (.iload_n 3, 1) := by decide +kernel
theorem dX7_number_76 : decode cX7_number 76 = .ok (.iload 4, 2) := by decide +kernel
theorem dX7_number_78 : decode cX7_number 78 = .ok (.invokevirtual 212, 3) := by decide +kernel
theorem dX7_number_81 : decode cX7_number 81 = .ok (.iadd, 1) := by decide +kernel
theorem dX7_number_82 : decode cX7_number 82 = .ok (.invokevirtual 126, 3) := by decide +kernel
theorem dX7_number_85 : decode cX7_number 85 = .ok (.ireturn, 1) := by decide +kernel
theorem dX7_number_86 : decode cX7_number 86 = .ok (.aload_n 0, 1) := by decide +kernel
theorem dX7_number_87 : decode cX7_number 87 = .ok (.aload_n 0, 1) := by decide +kernel
theorem dX7_number_88 : decode cX7_number 88 = .ok (.getfield 18, 3) := by decide +kernel
theorem dX7_number_91 : decode cX7_number 91 = .ok (.aload 5, 2) := by decide +kernel
theorem dX7_number_93 : decode cX7_number 93 = .ok (.iload_n 2, 1) := by decide +kernel
theorem dX7_number_94 : decode cX7_number 94 = .ok (.iload_n 3, 1) := by decide +kernel
theorem dX7_number_95 : decode cX7_number 95 = .ok (.iload 4, 2) := by decide +kernel
theorem dX7_number_97 : decode cX7_number 97 = .ok (.invokevirtual 215, 3) := by decide +kernel
theorem dX7_number_100 : decode cX7_number 100 = .ok (.invokevirtual 126, 3) := by decide +kernel
theorem dX7_number_103 : decode cX7_number 103 = .ok (.ireturn, 1) := by decide +kernel
theorem dX7_find_0 : decode cX7_find 0 = .ok (.aload_n 0, 1) := by decide +kernel
theorem dX7_find_1 : decode cX7_find 1 = .ok (.iload 5, 2) := by decide +kernel
theorem dX7_find_3 : decode cX7_find 3 = .ok (.invokevirtual 55, 3) := by decide +kernel
theorem dX7_find_6 : decode cX7_find 6 = .ok (.astore 6, 2) := by decide +kernel
theorem dX7_find_8 : decode cX7_find 8 = .ok (.aload 6, 2) := by decide +kernel
theorem dX7_find_10 : decode cX7_find 10 = .ok (.ifnonnull 9, 3) := by decide +kernel
theorem dX7_find_13 : decode cX7_find 13 = .ok (.aload_n 0, 1) := by decide +kernel
theorem dX7_find_14 : decode cX7_find 14 = .ok (.iconst 1, 1) := by decide +kernel
theorem dX7_find_15 : decode cX7_find 15 = .ok (.invokevirtual 83, 3) := by decide +kernel
theorem dX7_find_18 : decode cX7_find 18 = .ok (.ireturn, 1) := by decide +kernel
theorem dX7_find_19 : decode cX7_find 19 = .ok (.iload_n 1, 1) := by decide +kernel
theorem dX7_find_20 : decode cX7_find 20 = .ok (.invokestatic 159, 3) := by decide +kernel
theorem dX7_find_23 : decode cX7_find 23 = .ok (.ifCond .eq 10, 3) := by decide +kernel
theorem dX7_find_26 : decode cX7_find 26 = .ok (.iload_n 3, 1) := by decide +kernel
theorem dX7_find_27 : decode cX7_find 27 = .ok (.invokestatic 199, 3) := by decide +kernel
theorem dX7_find_30 : decode cX7_find 30 = .ok (.ifCond .ne 9, 3) := by decide +kernel
theorem dX7_find_33 : decode cX7_find 33 = .ok (.aload_n 0, 1) := by decide +kernel
theorem dX7_find_34 : decode cX7_find 34 = .ok (.iconst 2, 1) := by decide +kernel
theorem dX7_find_35 : decode cX7_find 35 = .ok (.invokevirtual 83, 3) := by decide +kernel
theorem dX7_find_38 : decode cX7_find 38 = .ok (.ireturn, 1) := by decide +kernel
theorem dX7_find_39 : decode cX7_find 39 = .ok (.aload 6, 2) := by decide +kernel
theorem dX7_find_41 : decode cX7_find 41 = .ok (.invokevirtual 91, 3) := by decide +kernel
theorem dX7_find_44 : decode cX7_find 44 = .ok (.ifCond .eq 9, 3) := by decide +kernel
theorem dX7_find_47 : decode cX7_find 47 = .ok (.aload_n 0, 1) := by decide +kernel
theorem dX7_find_48 : decode cX7_find 48 = .ok (.iconst 3, 1) := by decide +kernel
theorem dX7_find_49 : decode cX7_find 49 = .ok (.invokevirtual 83, 3) := by decide +kernel
theorem dX7_find_52 : decode cX7_find 52 = .ok (.ireturn, 1) := by decide +kernel
theorem dX7_find_53 : decode cX7_find 53 = .ok (.iload_n 2, 1) := by decide +kernel
theorem dX7_find_54 : decode cX7_find 54 = .ok (.iconst 0, 1) := by decide +kernel
theorem dX7_find_55 : decode cX7_find 55 = .ok (.sipush 999, 3) := by decide +kernel
theorem dX7_find_58 : decode cX7_find 58 = .ok (.invokestatic 59, 3) := by decide +kernel
theorem dX7_find_61 : decode cX7_find 61 = .ok (.ifCond .eq 11, 3) := by decide +kernel
theorem dX7_find_64 : decode cX7_find 64 = .ok (.iload 4, 2) := by decide +kernel
theorem dX7_find_66 : decode cX7_find 66 = .ok (.invokestatic 202, 3) := by decide +kernel
theorem dX7_find_69 : decode cX7_find 69 = .ok (.ifCond .ne 9, 3) := by decide +kernel
theorem dX7_find_72 : decode cX7_find 72 = .ok (.aload_n 0, 1) := by decide +kernel
theorem dX7_find_73 : decode cX7_find 73 = .ok (.iconst 5, 1) := by decide +kernel
theorem dX7_find_74 : decode cX7_find 74 = .ok (.invokevirtual 83, 3) := by decide +kernel
theorem dX7_find_77 : decode cX7_find 77 = .ok (.ireturn, 1) := by decide +kernel
theorem dX7_find_78 : decode cX7_find 78 = .ok (.iconst 0, 1) := by decide +kernel
theorem dX7_find_79 : decode cX7_find 79 = .ok (.istore 7, 2) := by decide +kernel
theorem dX7_find_81 : decode cX7_find 81 = .ok (.iconst 0, 1) := by decide +kernel
theorem dX7_find_82 : decode cX7_find 82 = .ok (.istore 8, 2) := by decide +kernel
theorem dX7_find_84 : decode cX7_find 84 = .ok (.iload 8, 2) := by decide +kernel
theorem dX7_find_86 : decode cX7_find 86 = .ok (.aload_n 0, 1) := by decide +kernel
theorem dX7_find_87 : decode cX7_find 87 = .ok (.getfield 18, 3) := by decide +kernel
theorem dX7_find_90 : decode cX7_find 90 = .ok (.getfield 119, 3) := by decide +kernel
theorem dX7_find_93 : decode cX7_find 93 = .ok (.if_icmp .ge 74, 3) := by decide +kernel
theorem dX7_find_96 : decode cX7_find 96 = .ok (.aload_n 0, 1) := by decide +kernel
theorem dX7_find_97 : decode cX7_find 97 = .ok (.getfield 18, 3) := by decide +kernel
theorem dX7_find_100 : decode cX7_find 100 = .ok (.getfield 219, 3) := by decide +kernel
theorem dX7_find_103 : decode cX7_find 103 = .ok (.iload 8, 2) := by decide +kernel
theorem dX7_find_105 : decode cX7_find 105 = .ok (.aaload, 1) := by decide +kernel
theorem dX7_find_106 : decode cX7_find 106 = .ok (.astore 9, 2) := by decide +kernel
theorem dX7_find_108 : decode cX7_find 108 = .ok (.aload 9, 2) := by decide +kernel
theorem dX7_find_110 : decode cX7_find 110 = .ok (.getfield 111, 3) := by decide +kernel
theorem dX7_find_113 : decode cX7_find 113 = .ok (.iconst 3, 1) := by decide +kernel
theorem dX7_find_114 : decode cX7_find 114 = .ok (.if_icmp .ne 47, 3) := by decide +kernel
theorem dX7_find_117 : decode cX7_find 117 = .ok (.aload 9, 2) := by decide +kernel
theorem dX7_find_119 : decode cX7_find 119 = .ok (.iload_n 1, 1) := by decide +kernel
theorem dX7_find_120 : decode cX7_find 120 = .ok (.invokevirtual 165, 3) := by decide +kernel
theorem dX7_find_123 : decode cX7_find 123 = .ok (.iload_n 2, 1) := by decide +kernel
theorem dX7_find_124 : decode cX7_find 124 = .ok (.if_icmp .ne 37, 3) := by decide +kernel
theorem dX7_find_127 : decode cX7_find 127 = .ok (.aload 9, 2) := by decide +kernel
theorem dX7_find_129 : decode cX7_find 129 = .ok (.iload_n 3, 1) := by decide +kernel
theorem dX7_find_130 : decode cX7_find 130 = .ok (.iload 4, 2) := by decide +kernel
theorem dX7_find_132 : decode cX7_find 132 = .ok (.invokevirtual 205, 3) := by decide +kernel
theorem dX7_find_135 : decode cX7_find 135 = .ok (.ifCond .eq 26, 3) := by decide +kernel
theorem dX7_find_138 : decode cX7_find 138 = .ok (.aload 6, 2) := by decide +kernel
theorem dX7_find_140 : decode cX7_find 140 = .ok (.iload 7, 2) := by decide +kernel
theorem dX7_find_142 : decode cX7_find 142 = .ok (.invokevirtual 223, 3) := by decide +kernel
theorem dX7_find_145 : decode cX7_find 145 = .ok (.ifCond .eq 13, 3) := by decide +kernel
theorem dX7_find_148 : decode cX7_find 148 = .ok (.aload 6, 2) := by decide +kernel
theorem dX7_find_150 : decode cX7_find 150 = .ok (.iload 7, 2) := by decide +kernel
theorem dX7_find_152 : decode cX7_find 152 = .ok (.iload 8, 2) := by decide +kernel
theorem dX7_find_154 : decode cX7_find 154 = .ok (.i2l, 1) := by decide +kernel
theorem dX7_find_155 : decode cX7_find 155 = .ok (.invokevirtual 79, 3) := by decide +kernel
theorem dX7_find_158 : decode cX7_find 158 = .ok (.iinc 7 1, 3) := by decide +kernel
theorem dX7_find_161 : decode cX7_find 161 = .ok (.iinc 8 1, 3) := by decide +kernel
theorem dX7_find_164 : decode cX7_find 164 = .ok (.goto (-80), 3) := by decide +kernel
theorem dX7_find_167 : decode cX7_find 167 = .ok (.aload_n 0, 1) := by decide +kernel
theorem dX7_find_168 : decode cX7_find 168 = .ok (.iload 7, 2) := by decide +kernel
theorem dX7_find_170 : decode cX7_find 170 = .ok (.invokevirtual 126, 3) := by decide +kernel
theorem dX7_find_173 : decode cX7_find 173 = .ok (.ireturn, 1) := by decide +kernel
theorem dX7_mark_0 : decode cX7_mark 0 = .ok (.aload_n 0, 1) := by decide +kernel
theorem dX7_mark_1 : decode cX7_mark 1 = .ok (.getfield 18, 3) := by decide +kernel
theorem dX7_mark_4 : decode cX7_mark 4 = .ok (.iload_n 1, 1) := by decide +kernel
theorem dX7_mark_5 : decode cX7_mark 5 = .ok (.invokevirtual 107, 3) := by decide +kernel
theorem dX7_mark_8 : decode cX7_mark 8 = .ok (.astore_n 3, 1) := by decide +kernel
theorem dX7_mark_9 : decode cX7_mark 9 = .ok (.aload_n 3, 1) := by decide +kernel
theorem dX7_mark_10 : decode cX7_mark 10 = .ok (.ifnonnull 9, 3) := by decide +kernel
theorem dX7_mark_13 : decode cX7_mark 13 = .ok (.aload_n 0, 1) := by decide +kernel
theorem dX7_mark_14 : decode cX7_mark 14 = .ok (.iconst 2, 1) := by decide +kernel
theorem dX7_mark_15 : decode cX7_mark 15 = .ok (.invokevirtual 63, 3) := by decide +kernel
theorem dX7_mark_18 : decode cX7_mark 18 = .ok (.ireturn, 1) := by decide +kernel
theorem dX7_mark_19 : decode cX7_mark 19 = .ok (.iload_n 2, 1) := by decide +kernel
theorem dX7_mark_20 : decode cX7_mark 20 = .ok (.iconst (-1), 1) := by decide +kernel
theorem dX7_mark_21 : decode cX7_mark 21 = .ok (.sipush 9999, 3) := by decide +kernel
theorem dX7_mark_24 : decode cX7_mark 24 = .ok (.invokestatic 59, 3) := by decide +kernel
theorem dX7_mark_27 : decode cX7_mark 27 = .ok (.ifCond .ne 9, 3) := by decide +kernel
theorem dX7_mark_30 : decode cX7_mark 30 = .ok (.aload_n 0, 1) := by decide +kernel
theorem dX7_mark_31 : decode cX7_mark 31 = .ok (.iconst 5, 1) := by decide +kernel
theorem dX7_mark_32 : decode cX7_mark 32 = .ok (.invokevirtual 63, 3) := by decide +kernel
theorem dX7_mark_35 : decode cX7_mark 35 = .ok (.ireturn, 1) := by decide +kernel
theorem dX7_mark_36 : decode cX7_mark 36 = .ok (.iload_n 2, 1) := by decide +kernel
theorem dX7_mark_37 : decode cX7_mark 37 = .ok (.iconst (-1), 1) := by decide +kernel
theorem dX7_mark_38 : decode cX7_mark 38 = .ok (.if_icmp .eq 22, 3) := by decide +kernel
theorem dX7_mark_41 : decode cX7_mark 41 = .ok (.aload_n 0, 1) := by decide +kernel
theorem dX7_mark_42 : decode cX7_mark 42 = .ok (.getfield 18, 3) := by decide +kernel
theorem dX7_mark_45 : decode cX7_mark 45 = .ok (.iload_n 2, 1) := by decide +kernel
theorem dX7_mark_46 : decode cX7_mark 46 = .ok (.aload_n 3, 1) := by decide +kernel
theorem dX7_mark_47 : decode cX7_mark 47 = .ok (.invokevirtual 226, 3) := by decide +kernel
theorem dX7_mark_50 : decode cX7_mark 50 = .ok (.ifCond .eq 10, 3) := by decide +kernel
theorem dX7_mark_53 : decode cX7_mark 53 = .ok (.aload_n 0, 1) := by decide +kernel
theorem dX7_mark_54 : decode cX7_mark 54 = .ok (.bipush 10, 2) := by decide +kernel
theorem dX7_mark_56 : decode cX7_mark 56 = .ok (.invokevirtual 63, 3) := by decide +kernel
theorem dX7_mark_59 : decode cX7_mark 59 = .ok (.ireturn, 1) := by decide +kernel
theorem dX7_mark_60 : decode cX7_mark 60 = .ok (.aload_n 3, 1) := by decide +kernel
theorem dX7_mark_61 : decode cX7_mark 61 = .ok (.iload_n 2, 1) := by decide +kernel
theorem dX7_mark_62 : decode cX7_mark 62 = .ok (.putfield 156, 3) := by decide +kernel
theorem dX7_mark_65 : decode cX7_mark 65 = .ok (.aload_n 0, 1) := by decide +kernel
theorem dX7_mark_66 : decode cX7_mark 66 = .ok (.invokevirtual 71, 3) := by decide +kernel
theorem dX7_mark_69 : decode cX7_mark 69 = .ok (.ireturn, 1) := by decide +kernel
theorem dX7_walk_0 : decode cX7_walk 0 = .ok (.iload_n 2, 1) := by decide +kernel
theorem dX7_walk_1 : decode cX7_walk 1 = .ok (.invokestatic 199, 3) := by decide +kernel
theorem dX7_walk_4 : decode cX7_walk 4 = .ok (.ifCond .ne 9, 3) := by decide +kernel
theorem dX7_walk_7 : decode cX7_walk 7 = .ok (.aload_n 0, 1) := by decide +kernel
theorem dX7_walk_8 : decode cX7_walk 8 = .ok (.iconst 2, 1) := by decide +kernel
theorem dX7_walk_9 : decode cX7_walk 9 = .ok (.invokevirtual 83, 3) := by decide +kernel
theorem dX7_walk_12 : decode cX7_walk 12 = .ok (.ireturn, 1) := by decide +kernel
theorem dX7_walk_13 : decode cX7_walk 13 = .ok (.iload_n 1, 1) := by decide +kernel
theorem dX7_walk_14 : decode cX7_walk 14 = .ok (.ifCond .lt 10, 3) := by decide +kernel
theorem dX7_walk_17 : decode cX7_walk 17 = .ok (.iload_n 3, 1) := by decide +kernel
theorem dX7_walk_18 : decode cX7_walk 18 = .ok (.invokestatic 202, 3) := by decide +kernel
theorem dX7_walk_21 : decode cX7_walk 21 = .ok (.ifCond .ne 9, 3) := by decide +kernel
theorem dX7_walk_24 : decode cX7_walk 24 = .ok (.aload_n 0, 1) := by decide +kernel
theorem dX7_walk_25 : decode cX7_walk 25 = .ok (.iconst 5, 1) := by decide +kernel
theorem dX7_walk_26 : decode cX7_walk 26 = .ok (.invokevirtual 83, 3) := by decide +kernel
theorem dX7_walk_29 : decode cX7_walk 29 = .ok (.ireturn, 1) := by decide +kernel
theorem dX7_walk_30 : decode cX7_walk 30 = .ok (.aload_n 0, 1) := by decide +kernel
theorem dX7_walk_31 : decode cX7_walk 31 = .ok (.getfield 18, 3) := by decide +kernel
theorem dX7_walk_34 : decode cX7_walk 34 = .ok (.iload_n 2, 1) := by decide +kernel
theorem dX7_walk_35 : decode cX7_walk 35 = .ok (.iload_n 3, 1) := by decide +kernel
theorem dX7_walk_36 : decode cX7_walk 36 = .ok (.invokevirtual 230, 3) := by decide +kernel
theorem dX7_walk_39 : decode cX7_walk 39 = .ok (.istore 4, 2) := by decide +kernel
theorem dX7_walk_41 : decode cX7_walk 41 = .ok (.iload_n 1, 1) := by decide +kernel
theorem dX7_walk_42 : decode cX7_walk 42 = .ok (.iload 4, 2) := by decide +kernel
theorem dX7_walk_44 : decode cX7_walk 44 = .ok (.if_icmp .ge 22, 3) := by decide +kernel
theorem dX7_walk_47 : decode cX7_walk 47 = .ok (.aload_n 0, 1) := by decide +kernel
theorem dX7_walk_48 : decode cX7_walk 48 = .ok (.aload_n 0, 1) := by decide +kernel
theorem dX7_walk_49 : decode cX7_walk 49 = .ok (.getfield 18, 3) := by decide +kernel
theorem dX7_walk_52 : decode cX7_walk 52 = .ok (.getfield 234, 3) := by decide +kernel
theorem dX7_walk_55 : decode cX7_walk 55 = .ok (.iload_n 1, 1) := by decide +kernel
theorem dX7_walk_56 : decode cX7_walk 56 = .ok (.aaload, 1) := by decide +kernel
theorem dX7_walk_57 : decode cX7_walk 57 = .ok (.getfield 133, 3) := by decide +kernel
theorem dX7_walk_60 : decode cX7_walk 60 = .ok (.invokevirtual 126, 3) := by decide +kernel
theorem dX7_walk_63 : decode cX7_walk 63 = .ok (.goto 9, 3) := by decide +kernel
theorem dX7_walk_66 : decode cX7_walk 66 = .ok (.aload_n 0, 1) := by decide +kernel
theorem dX7_walk_67 : decode cX7_walk 67 = .ok (.bipush 9, 2) := by decide +kernel
theorem dX7_walk_69 : decode cX7_walk 69 = .ok (.invokevirtual 83, 3) := by decide +kernel
theorem dX7_walk_72 : decode cX7_walk 72 = .ok (.ireturn, 1) := by decide +kernel
theorem dX7_fetch_0 : decode cX7_fetch 0 = .ok (.aload_n 0, 1) := by decide +kernel
theorem dX7_fetch_1 : decode cX7_fetch 1 = .ok (.getfield 18, 3) := by decide +kernel
theorem dX7_fetch_4 : decode cX7_fetch 4 = .ok (.iload_n 1, 1) := by decide +kernel
theorem dX7_fetch_5 : decode cX7_fetch 5 = .ok (.invokevirtual 107, 3) := by decide +kernel
theorem dX7_fetch_8 : decode cX7_fetch 8 = .ok (.ifnull 10, 3) := by decide +kernel
theorem dX7_fetch_11 : decode cX7_fetch 11 = .ok (.iload_n 2, 1) := by decide +kernel
theorem dX7_fetch_12 : decode cX7_fetch 12 = .ok (.invokestatic 199, 3) := by decide +kernel
theorem dX7_fetch_15 : decode cX7_fetch 15 = .ok (.ifCond .ne 9, 3) := by decide +kernel
theorem dX7_fetch_18 : decode cX7_fetch 18 = .ok (.aload_n 0, 1) := by decide +kernel
theorem dX7_fetch_19 : decode cX7_fetch 19 = .ok (.iconst 2, 1) := by decide +kernel
theorem dX7_fetch_20 : decode cX7_fetch 20 = .ok (.invokevirtual 63, 3) := by decide +kernel
theorem dX7_fetch_23 : decode cX7_fetch 23 = .ok (.ireturn, 1) := by decide +kernel
theorem dX7_fetch_24 : decode cX7_fetch 24 = .ok (.aload_n 0, 1) := by decide +kernel
theorem dX7_fetch_25 : decode cX7_fetch 25 = .ok (.getfield 25, 3) := by decide +kernel
theorem dX7_fetch_28 : decode cX7_fetch 28 = .ok (.iload_n 3, 1) := by decide +kernel
theorem dX7_fetch_29 : decode cX7_fetch 29 = .ok (.invokevirtual 237, 3) := by decide +kernel
theorem dX7_fetch_32 : decode cX7_fetch 32 = .ok (.istore 4, 2) := by decide +kernel
theorem dX7_fetch_34 : decode cX7_fetch 34 = .ok (.iload 4, 2) := by decide +kernel
theorem dX7_fetch_36 : decode cX7_fetch 36 = .ok (.ifCond .eq 10, 3) := by decide +kernel
theorem dX7_fetch_39 : decode cX7_fetch 39 = .ok (.aload_n 0, 1) := by decide +kernel
theorem dX7_fetch_40 : decode cX7_fetch 40 = .ok (.iload 4, 2) := by decide +kernel
theorem dX7_fetch_42 : decode cX7_fetch 42 = .ok (.invokevirtual 63, 3) := by decide +kernel
theorem dX7_fetch_45 : decode cX7_fetch 45 = .ok (.ireturn, 1) := by decide +kernel
theorem dX7_fetch_46 : decode cX7_fetch 46 = .ok (.aload_n 0, 1) := by decide +kernel
theorem dX7_fetch_47 : decode cX7_fetch 47 = .ok (.getfield 25, 3) := by decide +kernel
theorem dX7_fetch_50 : decode cX7_fetch 50 = .ok (.iload_n 1, 1) := by decide +kernel
theorem dX7_fetch_51 : decode cX7_fetch 51 = .ok (.iload_n 3, 1) := by decide +kernel
theorem dX7_fetch_52 : decode cX7_fetch 52 = .ok (.invokevirtual 240, 3) := by decide +kernel
theorem dX7_fetch_55 : decode cX7_fetch 55 = .ok (.iconst (-1), 1) := by decide +kernel
theorem dX7_fetch_56 : decode cX7_fetch 56 = .ok (.if_icmp .eq 10, 3) := by decide +kernel
theorem dX7_fetch_59 : decode cX7_fetch 59 = .ok (.aload_n 0, 1) := by decide +kernel
theorem dX7_fetch_60 : decode cX7_fetch 60 = .ok (.bipush 10, 2) := by decide +kernel
theorem dX7_fetch_62 : decode cX7_fetch 62 = .ok (.invokevirtual 63, 3) := by decide +kernel
theorem dX7_fetch_65 : decode cX7_fetch 65 = .ok (.ireturn, 1) := by decide +kernel
theorem dX7_fetch_66 : decode cX7_fetch 66 = .ok (.aload_n 0, 1) := by decide +kernel
theorem dX7_fetch_67 : decode cX7_fetch 67 = .ok (.getfield 25, 3) := by decide +kernel
theorem dX7_fetch_70 : decode cX7_fetch 70 = .ok (.iload_n 1, 1) := by decide +kernel
theorem dX7_fetch_71 : decode cX7_fetch 71 = .ok (.iload_n 2, 1) := by decide +kernel
theorem dX7_fetch_72 : decode cX7_fetch 72 = .ok (.iload_n 3, 1) := by decide +kernel
theorem dX7_fetch_73 : decode cX7_fetch 73 = .ok (.invokevirtual 243, 3) := by decide +kernel
theorem dX7_fetch_76 : decode cX7_fetch 76 = .ok (.aload_n 0, 1) := by decide +kernel
theorem dX7_fetch_77 : decode cX7_fetch 77 = .ok (.invokevirtual 71, 3) := by decide +kernel
theorem dX7_fetch_80 : decode cX7_fetch 80 = .ok (.ireturn, 1) := by decide +kernel
theorem dX7_back_0 : decode cX7_back 0 = .ok (.aload_n 0, 1) := by decide +kernel
theorem dX7_back_1 : decode cX7_back 1 = .ok (.getfield 18, 3) := by decide +kernel
theorem dX7_back_4 : decode cX7_back 4 = .ok (.iload_n 1, 1) := by decide +kernel
theorem dX7_back_5 : decode cX7_back 5 = .ok (.invokevirtual 107, 3) := by decide +kernel
theorem dX7_back_8 : decode cX7_back 8 = .ok (.ifnonnull 9, 3) := by decide +kernel
theorem dX7_back_11 : decode cX7_back 11 = .ok (.aload_n 0, 1) := by decide +kernel
theorem dX7_back_12 : decode cX7_back 12 = .ok (.iconst 2, 1) := by decide +kernel
theorem dX7_back_13 : decode cX7_back 13 = .ok (.invokevirtual 63, 3) := by decide +kernel
theorem dX7_back_16 : decode cX7_back 16 = .ok (.ireturn, 1) := by decide +kernel
theorem dX7_back_17 : decode cX7_back 17 = .ok (.aload_n 0, 1) := by decide +kernel
theorem dX7_back_18 : decode cX7_back 18 = .ok (.getfield 25, 3) := by decide +kernel
theorem dX7_back_21 : decode cX7_back 21 = .ok (.iload_n 2, 1) := by decide +kernel
theorem dX7_back_22 : decode cX7_back 22 = .ok (.invokevirtual 237, 3) := by decide +kernel
theorem dX7_back_25 : decode cX7_back 25 = .ok (.istore_n 3, 1) := by decide +kernel
theorem dX7_back_26 : decode cX7_back 26 = .ok (.iload_n 3, 1) := by decide +kernel
theorem dX7_back_27 : decode cX7_back 27 = .ok (.ifCond .eq 9, 3) := by decide +kernel
theorem dX7_back_30 : decode cX7_back 30 = .ok (.aload_n 0, 1) := by decide +kernel
theorem dX7_back_31 : decode cX7_back 31 = .ok (.iload_n 3, 1) := by decide +kernel
theorem dX7_back_32 : decode cX7_back 32 = .ok (.invokevirtual 63, 3) := by decide +kernel
theorem dX7_back_35 : decode cX7_back 35 = .ok (.ireturn, 1) := by decide +kernel
theorem dX7_back_36 : decode cX7_back 36 = .ok (.aload_n 0, 1) := by decide +kernel
theorem dX7_back_37 : decode cX7_back 37 = .ok (.getfield 25, 3) := by decide +kernel
theorem dX7_back_40 : decode cX7_back 40 = .ok (.iload_n 1, 1) := by decide +kernel
theorem dX7_back_41 : decode cX7_back 41 = .ok (.iload_n 2, 1) := by decide +kernel
theorem dX7_back_42 : decode cX7_back 42 = .ok (.invokevirtual 240, 3) := by decide +kernel
theorem dX7_back_45 : decode cX7_back 45 = .ok (.iconst (-1), 1) := by decide +kernel
theorem dX7_back_46 : decode cX7_back 46 = .ok (.if_icmp .ne 10, 3) := by decide +kernel
theorem dX7_back_49 : decode cX7_back 49 = .ok (.aload_n 0, 1) := by decide +kernel
theorem dX7_back_50 : decode cX7_back 50 = .ok (.bipush 10, 2) := by decide +kernel
theorem dX7_back_52 : decode cX7_back 52 = .ok (.invokevirtual 63, 3) := by decide +kernel
theorem dX7_back_55 : decode cX7_back 55 = .ok (.ireturn, 1) := by decide +kernel
theorem dX7_back_56 : decode cX7_back 56 = .ok (.aload_n 0, 1) := by decide +kernel
theorem dX7_back_57 : decode cX7_back 57 = .ok (.getfield 25, 3) := by decide +kernel
theorem dX7_back_60 : decode cX7_back 60 = .ok (.iload_n 1, 1) := by decide +kernel
theorem dX7_back_61 : decode cX7_back 61 = .ok (.iconst (-1), 1) := by decide +kernel
theorem dX7_back_62 : decode cX7_back 62 = .ok (.iload_n 2, 1) := by decide +kernel
theorem dX7_back_63 : decode cX7_back 63 = .ok (.invokevirtual 243, 3) := by decide +kernel
theorem dX7_back_66 : decode cX7_back 66 = .ok (.aload_n 0, 1) := by decide +kernel
theorem dX7_back_67 : decode cX7_back 67 = .ok (.invokevirtual 71, 3) := by decide +kernel
theorem dX7_back_70 : decode cX7_back 70 = .ok (.ireturn, 1) := by decide +kernel
theorem dX7_where_0 : decode cX7_where 0 = .ok (.aload_n 0, 1) := by decide +kernel
theorem dX7_where_1 : decode cX7_where 1 = .ok (.getfield 18, 3) := by decide +kernel
theorem dX7_where_4 : decode cX7_where 4 = .ok (.iload_n 1, 1) := by decide +kernel
theorem dX7_where_5 : decode cX7_where 5 = .ok (.invokevirtual 107, 3) := by decide +kernel
theorem dX7_where_8 : decode cX7_where 8 = .ok (.astore_n 3, 1) := by decide +kernel
theorem dX7_where_9 : decode cX7_where 9 = .ok (.aload_n 3, 1) := by decide +kernel
theorem dX7_where_10 : decode cX7_where 10 = .ok (.ifnonnull 9, 3) := by decide +kernel
theorem dX7_where_13 : decode cX7_where 13 = .ok (.aload_n 0, 1) := by decide +kernel
theorem dX7_where_14 : decode cX7_where 14 = .ok (.iconst 2, 1) := by decide +kernel
theorem dX7_where_15 : decode cX7_where 15 = .ok (.invokevirtual 83, 3) := by decide +kernel
theorem dX7_where_18 : decode cX7_where 18 = .ok (.ireturn, 1) := by decide +kernel
theorem dX7_where_19 : decode cX7_where 19 = .ok (.iload_n 2, 1) := by decide +kernel
theorem dX7_where_20 : decode cX7_where 20 = .ok (.iconst 0, 1) := by decide +kernel
theorem dX7_where_21 : decode cX7_where 21 = .ok (.ldc 168, 2) := by decide +kernel
theorem dX7_where_23 : decode cX7_where 23 = .ok (.invokestatic 59, 3) := by decide +kernel
theorem dX7_where_26 : decode cX7_where 26 = .ok (.ifCond .ne 9, 3) := by decide +kernel
theorem dX7_where_29 : decode cX7_where 29 = .ok (.aload_n 0, 1) := by decide +kernel
theorem dX7_where_30 : decode cX7_where 30 = .ok (.iconst 5, 1) := by decide +kernel
theorem dX7_where_31 : decode cX7_where 31 = .ok (.invokevirtual 83, 3) := by decide +kernel
theorem dX7_where_34 : decode cX7_where 34 = .ok (.ireturn, 1) := by decide +kernel
theorem dX7_where_35 : decode cX7_where 35 = .ok (.iconst (-1), 1) := by decide +kernel
theorem dX7_where_36 : decode cX7_where 36 = .ok (.istore 4, 2) := by decide +kernel
theorem dX7_where_38 : decode cX7_where 38 = .ok (.aload_n 3, 1) := by decide +kernel
theorem dX7_where_39 : decode cX7_where 39 = .ok (.astore 5, 2) := by decide +kernel
theorem dX7_where_41 : decode cX7_where 41 = .ok (.aload 5, 2) := by decide +kernel
theorem dX7_where_43 : decode cX7_where 43 = .ok (.ifnull 34, 3) := by decide +kernel
theorem dX7_where_46 : decode cX7_where 46 = .ok (.iload 4, 2) := by decide +kernel
theorem dX7_where_48 : decode cX7_where 48 = .ok (.iconst (-1), 1) := by decide +kernel
theorem dX7_where_49 : decode cX7_where 49 = .ok (.if_icmp .ne 28, 3) := by decide +kernel
theorem dX7_where_52 : decode cX7_where 52 = .ok (.aload_n 0, 1) := by decide +kernel
theorem dX7_where_53 : decode cX7_where 53 = .ok (.getfield 25, 3) := by decide +kernel
theorem dX7_where_56 : decode cX7_where 56 = .ok (.aload 5, 2) := by decide +kernel
theorem dX7_where_58 : decode cX7_where 58 = .ok (.getfield 133, 3) := by decide +kernel
theorem dX7_where_61 : decode cX7_where 61 = .ok (.iload_n 2, 1) := by decide +kernel
theorem dX7_where_62 : decode cX7_where 62 = .ok (.invokevirtual 240, 3) := by decide +kernel
theorem dX7_where_65 : decode cX7_where 65 = .ok (.istore 4, 2) := by decide +kernel
theorem dX7_where_67 : decode cX7_where 67 = .ok (.aload 5, 2) := by decide +kernel
theorem dX7_where_69 : decode cX7_where 69 = .ok (.getfield 129, 3) := by decide +kernel
theorem dX7_where_72 : decode cX7_where 72 = .ok (.astore 5, 2) := by decide +kernel
theorem dX7_where_74 : decode cX7_where 74 = .ok (.goto (-33), 3) := by decide +kernel
theorem dX7_where_77 : decode cX7_where 77 = .ok (.aload_n 0, 1) := by decide +kernel
theorem dX7_where_78 : decode cX7_where 78 = .ok (.iload 4, 2) := by decide +kernel
theorem dX7_where_80 : decode cX7_where 80 = .ok (.invokevirtual 126, 3) := by decide +kernel
theorem dX7_where_83 : decode cX7_where 83 = .ok (.ireturn, 1) := by decide +kernel
theorem dX7_stand_0 : decode cX7_stand 0 = .ok (.aload_n 0, 1) := by decide +kernel
theorem dX7_stand_1 : decode cX7_stand 1 = .ok (.iload_n 1, 1) := by decide +kernel
theorem dX7_stand_2 : decode cX7_stand 2 = .ok (.iload_n 2, 1) := by decide +kernel
theorem dX7_stand_3 : decode cX7_stand 3 = .ok (.invokevirtual 247, 3) := by decide +kernel
theorem dX7_stand_6 : decode cX7_stand 6 = .ok (.istore_n 3, 1) := by decide +kernel
theorem dX7_stand_7 : decode cX7_stand 7 = .ok (.iload_n 3, 1) := by decide +kernel
theorem dX7_stand_8 : decode cX7_stand 8 = .ok (.ifCond .eq 9, 3) := by decide +kernel
theorem dX7_stand_11 : decode cX7_stand 11 = .ok (.aload_n 0, 1) := by decide +kernel
theorem dX7_stand_12 : decode cX7_stand 12 = .ok (.iload_n 3, 1) := by decide +kernel
theorem dX7_stand_13 : decode cX7_stand 13 = .ok (.invokevirtual 63, 3) := by decide +kernel
theorem dX7_stand_16 : decode cX7_stand 16 = .ok (.ireturn, 1) := by decide +kernel
theorem dX7_stand_17 : decode cX7_stand 17 = .ok (.iload_n 2, 1) := by decide +kernel
theorem dX7_stand_18 : decode cX7_stand 18 = .ok (.iconst (-1), 1) := by decide +kernel
theorem dX7_stand_19 : decode cX7_stand 19 = .ok (.if_icmp .eq 25, 3) := by decide +kernel
theorem dX7_stand_22 : decode cX7_stand 22 = .ok (.aload_n 0, 1) := by decide +kernel
theorem dX7_stand_23 : decode cX7_stand 23 = .ok (.getfield 32, 3) := by decide +kernel
theorem dX7_stand_26 : decode cX7_stand 26 = .ok (.getfield 143, 3) := by decide +kernel
theorem dX7_stand_29 : decode cX7_stand 29 = .ok (.iload_n 1, 1) := by decide +kernel
theorem dX7_stand_30 : decode cX7_stand 30 = .ok (.iload_n 2, 1) := by decide +kernel
theorem dX7_stand_31 : decode cX7_stand 31 = .ok (.invokevirtual 250, 3) := by decide +kernel
theorem dX7_stand_34 : decode cX7_stand 34 = .ok (.ifCond .ne 10, 3) := by decide +kernel
theorem dX7_stand_37 : decode cX7_stand 37 = .ok (.aload_n 0, 1) := by decide +kernel
theorem dX7_stand_38 : decode cX7_stand 38 = .ok (.bipush 10, 2) := by decide +kernel
theorem dX7_stand_40 : decode cX7_stand 40 = .ok (.invokevirtual 63, 3) := by decide +kernel
theorem dX7_stand_43 : decode cX7_stand 43 = .ok (.ireturn, 1) := by decide +kernel
theorem dX7_stand_44 : decode cX7_stand 44 = .ok (.aload_n 0, 1) := by decide +kernel
theorem dX7_stand_45 : decode cX7_stand 45 = .ok (.getfield 32, 3) := by decide +kernel
theorem dX7_stand_48 : decode cX7_stand 48 = .ok (.getfield 143, 3) := by decide +kernel
theorem dX7_stand_51 : decode cX7_stand 51 = .ok (.iload_n 1, 1) := by decide +kernel
theorem dX7_stand_52 : decode cX7_stand 52 = .ok (.iload_n 2, 1) := by decide +kernel
theorem dX7_stand_53 : decode cX7_stand 53 = .ok (.invokevirtual 253, 3) := by decide +kernel
theorem dX7_stand_56 : decode cX7_stand 56 = .ok (.aload_n 0, 1) := by decide +kernel
theorem dX7_stand_57 : decode cX7_stand 57 = .ok (.invokevirtual 71, 3) := by decide +kernel
theorem dX7_stand_60 : decode cX7_stand 60 = .ok (.ireturn, 1) := by decide +kernel
theorem dX7_goal_0 : decode cX7_goal 0 = .ok (.aload_n 0, 1) := by decide +kernel
theorem dX7_goal_1 : decode cX7_goal 1 = .ok (.iload_n 1, 1) := by decide +kernel
theorem dX7_goal_2 : decode cX7_goal 2 = .ok (.iload_n 2, 1) := by decide +kernel
theorem dX7_goal_3 : decode cX7_goal 3 = .ok (.invokevirtual 247, 3) := by decide +kernel
theorem dX7_goal_6 : decode cX7_goal 6 = .ok (.istore_n 3, 1) := by decide +kernel
theorem dX7_goal_7 : decode cX7_goal 7 = .ok (.iload_n 3, 1) := by decide +kernel
theorem dX7_goal_8 : decode cX7_goal 8 = .ok (.ifCond .eq 9, 3) := by decide +kernel
theorem dX7_goal_11 : decode cX7_goal 11 = .ok (.aload_n 0, 1) := by decide +kernel
theorem dX7_goal_12 : decode cX7_goal 12 = .ok (.iload_n 3, 1) := by decide +kernel
theorem dX7_goal_13 : decode cX7_goal 13 = .ok (.invokevirtual 63, 3) := by decide +kernel
theorem dX7_goal_16 : decode cX7_goal 16 = .ok (.ireturn, 1) := by decide +kernel
theorem dX7_goal_17 : decode cX7_goal 17 = .ok (.iload_n 2, 1) := by decide +kernel
theorem dX7_goal_18 : decode cX7_goal 18 = .ok (.iconst (-1), 1) := by decide +kernel
theorem dX7_goal_19 : decode cX7_goal 19 = .ok (.if_icmp .eq 22, 3) := by decide +kernel
theorem dX7_goal_22 : decode cX7_goal 22 = .ok (.aload_n 0, 1) := by decide +kernel
theorem dX7_goal_23 : decode cX7_goal 23 = .ok (.getfield 32, 3) := by decide +kernel
theorem dX7_goal_26 : decode cX7_goal 26 = .ok (.iload_n 2, 1) := by decide +kernel
theorem dX7_goal_27 : decode cX7_goal 27 = .ok (.iload_n 1, 1) := by decide +kernel
theorem dX7_goal_28 : decode cX7_goal 28 = .ok (.invokevirtual 255, 3) := by decide +kernel
theorem dX7_goal_31 : decode cX7_goal 31 = .ok (.ifCond .eq 10, 3) := by decide +kernel
theorem dX7_goal_34 : decode cX7_goal 34 = .ok (.aload_n 0, 1) := by decide +kernel
theorem dX7_goal_35 : decode cX7_goal 35 = .ok (.bipush 10, 2) := by decide +kernel
theorem dX7_goal_37 : decode cX7_goal 37 = .ok (.invokevirtual 63, 3) := by decide +kernel
theorem dX7_goal_40 : decode cX7_goal 40 = .ok (.ireturn, 1) := by decide +kernel
theorem dX7_goal_41 : decode cX7_goal 41 = .ok (.aload_n 0, 1) := by decide +kernel
theorem dX7_goal_42 : decode cX7_goal 42 = .ok (.getfield 32, 3) := by decide +kernel
theorem dX7_goal_45 : decode cX7_goal 45 = .ok (.getfield 153, 3) := by decide +kernel
theorem dX7_goal_48 : decode cX7_goal 48 = .ok (.iload_n 1, 1) := by decide +kernel
theorem dX7_goal_49 : decode cX7_goal 49 = .ok (.iload_n 2, 1) := by decide +kernel
theorem dX7_goal_50 : decode cX7_goal 50 = .ok (.iastore, 1) := by decide +kernel
theorem dX7_goal_51 : decode cX7_goal 51 = .ok (.aload_n 0, 1) := by decide +kernel
theorem dX7_goal_52 : decode cX7_goal 52 = .ok (.invokevirtual 71, 3) := by decide +kernel
theorem dX7_goal_55 : decode cX7_goal 55 = .ok (.ireturn, 1) := by decide +kernel
theorem dX7_plan_0 : decode cX7_plan 0 = .ok (.aload_n 0, 1) := by decide +kernel
theorem dX7_plan_1 : decode cX7_plan 1 = .ok (.getfield 32, 3) := by decide +kernel
theorem dX7_plan_4 : decode cX7_plan 4 = .ok (.invokevirtual 258, 3) := by decide +kernel
theorem dX7_plan_7 : decode cX7_plan 7 = .ok (.ifCond .eq 17, 3) := by decide +kernel
theorem dX7_plan_10 : decode cX7_plan 10 = .ok (.aload_n 0, 1) := by decide +kernel
theorem dX7_plan_11 : decode cX7_plan 11 = .ok (.aload_n 0, 1) := by decide +kernel
theorem dX7_plan_12 : decode cX7_plan 12 = .ok (.getfield 32, 3) := by decide +kernel
theorem dX7_plan_15 : decode cX7_plan 15 = .ok (.getfield 261, 3) := by decide +kernel
theorem dX7_plan_18 : decode cX7_plan 18 = .ok (.invokevirtual 126, 3) := by decide +kernel
theorem dX7_plan_21 : decode cX7_plan 21 = .ok (.goto 9, 3) := by decide +kernel
theorem dX7_plan_24 : decode cX7_plan 24 = .ok (.aload_n 0, 1) := by decide +kernel
theorem dX7_plan_25 : decode cX7_plan 25 = .ok (.bipush 12, 2) := by decide +kernel
theorem dX7_plan_27 : decode cX7_plan 27 = .ok (.invokevirtual 83, 3) := by decide +kernel
theorem dX7_plan_30 : decode cX7_plan 30 = .ok (.ireturn, 1) := by decide +kernel
theorem dX7_carry_0 : decode cX7_carry 0 = .ok (.aload_n 0, 1) := by decide +kernel
theorem dX7_carry_1 : decode cX7_carry 1 = .ok (.getfield 32, 3) := by decide +kernel
theorem dX7_carry_4 : decode cX7_carry 4 = .ok (.invokevirtual 258, 3) := by decide +kernel
theorem dX7_carry_7 : decode cX7_carry 7 = .ok (.ifCond .ne 10, 3) := by decide +kernel
theorem dX7_carry_10 : decode cX7_carry 10 = .ok (.aload_n 0, 1) := by decide +kernel
theorem dX7_carry_11 : decode cX7_carry 11 = .ok (.bipush 12, 2) := by decide +kernel
theorem dX7_carry_13 : decode cX7_carry 13 = .ok (.invokevirtual 83, 3) := by decide +kernel
theorem dX7_carry_16 : decode cX7_carry 16 = .ok (.ireturn, 1) := by decide +kernel
theorem dX7_carry_17 : decode cX7_carry 17 = .ok (.iload_n 1, 1) := by decide +kernel
theorem dX7_carry_18 : decode cX7_carry 18 = .ok (.iconst 0, 1) := by decide +kernel
theorem dX7_carry_19 : decode cX7_carry 19 = .ok (.aload_n 0, 1) := by decide +kernel
theorem dX7_carry_20 : decode cX7_carry 20 = .ok (.getfield 32, 3) := by decide +kernel
theorem dX7_carry_23 : decode cX7_carry 23 = .ok (.getfield 261, 3) := by decide +kernel
theorem dX7_carry_26 : decode cX7_carry 26 = .ok (.iconst 1, 1) := by decide +kernel
theorem dX7_carry_27 : decode cX7_carry 27 = .ok (.isub, 1) := by decide +kernel
theorem dX7_carry_28 : decode cX7_carry 28 = .ok (.invokestatic 59, 3) := by decide +kernel
theorem dX7_carry_31 : decode cX7_carry 31 = .ok (.ifCond .ne 10, 3) := by decide +kernel
theorem dX7_carry_34 : decode cX7_carry 34 = .ok (.aload_n 0, 1) := by decide +kernel
theorem dX7_carry_35 : decode cX7_carry 35 = .ok (.bipush 9, 2) := by decide +kernel
theorem dX7_carry_37 : decode cX7_carry 37 = .ok (.invokevirtual 83, 3) := by decide +kernel
theorem dX7_carry_40 : decode cX7_carry 40 = .ok (.ireturn, 1) := by decide +kernel
theorem dX7_carry_41 : decode cX7_carry 41 = .ok (.iload_n 2, 1) := by decide +kernel
theorem dX7_carry_42 : decode cX7_carry 42 = .ok (.tableswitch 68 0 2 #[26, 40, 54], 26) := by decide +kernel
theorem dX7_carry_68 : decode cX7_carry 68 = .ok (.aload_n 0, 1) := by decide +kernel
theorem dX7_carry_69 : decode cX7_carry 69 = .ok (.aload_n 0, 1) := by decide +kernel
theorem dX7_carry_70 : decode cX7_carry 70 = .ok (.getfield 32, 3) := by decide +kernel
theorem dX7_carry_73 : decode cX7_carry 73 = .ok (.getfield 264, 3) := by decide +kernel
theorem dX7_carry_76 : decode cX7_carry 76 = .ok (.iload_n 1, 1) := by decide +kernel
theorem dX7_carry_77 : decode cX7_carry 77 = .ok (.iaload, 1) := by decide +kernel
theorem dX7_carry_78 : decode cX7_carry 78 = .ok (.invokevirtual 126, 3) := by decide +kernel
theorem dX7_carry_81 : decode cX7_carry 81 = .ok (.ireturn, 1) := by decide +kernel
theorem dX7_carry_82 : decode cX7_carry 82 = .ok (.aload_n 0, 1) := by decide +kernel
theorem dX7_carry_83 : decode cX7_carry 83 = .ok (.aload_n 0, 1) := by decide +kernel
theorem dX7_carry_84 : decode cX7_carry 84 = .ok (.getfield 32, 3) := by decide +kernel
theorem dX7_carry_87 : decode cX7_carry 87 = .ok (.getfield 267, 3) := by decide +kernel
theorem dX7_carry_90 : decode cX7_carry 90 = .ok (.iload_n 1, 1) := by decide +kernel
theorem dX7_carry_91 : decode cX7_carry 91 = .ok (.iaload, 1) := by decide +kernel
theorem dX7_carry_92 : decode cX7_carry 92 = .ok (.invokevirtual 126, 3) := by decide +kernel
theorem dX7_carry_95 : decode cX7_carry 95 = .ok (.ireturn, 1) := by decide +kernel
theorem dX7_carry_96 : decode cX7_carry 96 = .ok (.aload_n 0, 1) := by decide +kernel
theorem dX7_carry_97 : decode cX7_carry 97 = .ok (.aload_n 0, 1) := by decide +kernel
theorem dX7_carry_98 : decode cX7_carry 98 = .ok (.getfield 32, 3) := by decide +kernel
theorem dX7_carry_101 : decode cX7_carry 101 = .ok (.getfield 270, 3) := by decide +kernel
theorem dX7_carry_104 : decode cX7_carry 104 = .ok (.iload_n 1, 1) := by decide +kernel
theorem dX7_carry_105 : decode cX7_carry 105 = .ok (.iaload, 1) := by decide +kernel
theorem dX7_carry_106 : decode cX7_carry 106 = .ok (.invokevirtual 126, 3) := by decide +kernel
theorem dX7_carry_109 : decode cX7_carry 109 = .ok (.ireturn, 1) := by decide +kernel
theorem dX7_carry_110 : decode cX7_carry 110 = .ok (.aload_n 0, 1) := by decide +kernel
theorem dX7_carry_111 : decode cX7_carry 111 = .ok (.iconst 5, 1) := by decide +kernel
theorem dX7_carry_112 : decode cX7_carry 112 = .ok (.invokevirtual 83, 3) := by decide +kernel
theorem dX7_carry_115 : decode cX7_carry 115 = .ok (.ireturn, 1) := by decide +kernel
theorem dX7_carried_0 : decode cX7_carried 0 = .ok (.aload_n 0, 1) := by decide +kernel
theorem dX7_carried_1 : decode cX7_carried 1 = .ok (.getfield 32, 3) := by decide +kernel
theorem dX7_carried_4 : decode cX7_carried 4 = .ok (.invokevirtual 258, 3) := by decide +kernel
theorem dX7_carried_7 : decode cX7_carried 7 = .ok (.ifCond .ne 10, 3) := by decide +kernel
theorem dX7_carried_10 : decode cX7_carried 10 = .ok (.aload_n 0, 1) := by decide +kernel
theorem dX7_carried_11 : decode cX7_carried 11 = .ok (.bipush 12, 2) := by decide +kernel
theorem dX7_carried_13 : decode cX7_carried 13 = .ok (.invokevirtual 63, 3) := by decide +kernel
theorem dX7_carried_16 : decode cX7_carried 16 = .ok (.ireturn, 1) := by decide +kernel
theorem dX7_carried_17 : decode cX7_carried 17 = .ok (.aload_n 0, 1) := by decide +kernel
theorem dX7_carried_18 : decode cX7_carried 18 = .ok (.getfield 32, 3) := by decide +kernel
theorem dX7_carried_21 : decode cX7_carried 21 = .ok (.getfield 143, 3) := by decide +kernel
theorem dX7_carried_24 : decode cX7_carried 24 = .ok (.aload_n 0, 1) := by decide +kernel
theorem dX7_carried_25 : decode cX7_carried 25 = .ok (.getfield 32, 3) := by decide +kernel
theorem dX7_carried_28 : decode cX7_carried 28 = .ok (.getfield 273, 3) := by decide +kernel
theorem dX7_carried_31 : decode cX7_carried 31 = .ok (.invokevirtual 276, 3) := by decide +kernel
theorem dX7_carried_34 : decode cX7_carried 34 = .ok (.aload_n 0, 1) := by decide +kernel
theorem dX7_carried_35 : decode cX7_carried 35 = .ok (.invokevirtual 71, 3) := by decide +kernel
theorem dX7_carried_38 : decode cX7_carried 38 = .ok (.ireturn, 1) := by decide +kernel
theorem dX7_search_0 : decode cX7_search 0 = .ok (.aload_n 0, 1) := by decide +kernel
theorem dX7_search_1 : decode cX7_search 1 = .ok (.iload_n 1, 1) := by decide +kernel
theorem dX7_search_2 : decode cX7_search 2 = .ok (.invokevirtual 55, 3) := by decide +kernel
theorem dX7_search_5 : decode cX7_search 5 = .ok (.astore 4, 2) := by decide +kernel
theorem dX7_search_7 : decode cX7_search 7 = .ok (.aload 4, 2) := by decide +kernel
theorem dX7_search_9 : decode cX7_search 9 = .ok (.ifnonnull 9, 3) := by decide +kernel
theorem dX7_search_12 : decode cX7_search 12 = .ok (.aload_n 0, 1) := by decide +kernel
theorem dX7_search_13 : decode cX7_search 13 = .ok (.iconst 1, 1) := by decide +kernel
theorem dX7_search_14 : decode cX7_search 14 = .ok (.invokevirtual 83, 3) := by decide +kernel
theorem dX7_search_17 : decode cX7_search 17 = .ok (.ireturn, 1) := by decide +kernel
theorem dX7_search_18 : decode cX7_search 18 = .ok (.aload 4, 2) := by decide +kernel
theorem dX7_search_20 : decode cX7_search 20 = .ok (.invokevirtual 91, 3) := by decide +kernel
theorem dX7_search_23 : decode cX7_search 23 = .ok (.ifCond .eq 9, 3) := by decide +kernel
theorem dX7_search_26 : decode cX7_search 26 = .ok (.aload_n 0, 1) := by decide +kernel
theorem dX7_search_27 : decode cX7_search 27 = .ok (.iconst 3, 1) := by decide +kernel
theorem dX7_search_28 : decode cX7_search 28 = .ok (.invokevirtual 83, 3) := by decide +kernel
theorem dX7_search_31 : decode cX7_search 31 = .ok (.ireturn, 1) := by decide +kernel
theorem dX7_search_32 : decode cX7_search 32 = .ok (.iload_n 2, 1) := by decide +kernel
theorem dX7_search_33 : decode cX7_search 33 = .ok (.iconst 1, 1) := by decide +kernel
theorem dX7_search_34 : decode cX7_search 34 = .ok (.bipush 20, 2) := by decide +kernel
theorem dX7_search_36 : decode cX7_search 36 = .ok (.invokestatic 59, 3) := by decide +kernel
theorem dX7_search_39 : decode cX7_search 39 = .ok (.ifCond .ne 9, 3) := by decide +kernel
theorem dX7_search_42 : decode cX7_search 42 = .ok (.aload_n 0, 1) := by decide +kernel
theorem dX7_search_43 : decode cX7_search 43 = .ok (.iconst 5, 1) := by decide +kernel
theorem dX7_search_44 : decode cX7_search 44 = .ok (.invokevirtual 83, 3) := by decide +kernel
theorem dX7_search_47 : decode cX7_search 47 = .ok (.ireturn, 1) := by decide +kernel
theorem dX7_search_48 : decode cX7_search 48 = .ok (.aload 4, 2) := by decide +kernel
theorem dX7_search_50 : decode cX7_search 50 = .ok (.iconst 0, 1) := by decide +kernel
theorem dX7_search_51 : decode cX7_search 51 = .ok (.iconst 2, 1) := by decide +kernel
theorem dX7_search_52 : decode cX7_search 52 = .ok (.iload_n 2, 1) := by decide +kernel
theorem dX7_search_53 : decode cX7_search 53 = .ok (.imul, 1) := by decide +kernel
theorem dX7_search_54 : decode cX7_search 54 = .ok (.invokevirtual 97, 3) := by decide +kernel
theorem dX7_search_57 : decode cX7_search 57 = .ok (.ifCond .ne 9, 3) := by decide +kernel
theorem dX7_search_60 : decode cX7_search 60 = .ok (.aload_n 0, 1) := by decide +kernel
theorem dX7_search_61 : decode cX7_search 61 = .ok (.iconst 4, 1) := by decide +kernel
theorem dX7_search_62 : decode cX7_search 62 = .ok (.invokevirtual 83, 3) := by decide +kernel
theorem dX7_search_65 : decode cX7_search 65 = .ok (.ireturn, 1) := by decide +kernel
theorem dX7_search_66 : decode cX7_search 66 = .ok (.aload_n 0, 1) := by decide +kernel
theorem dX7_search_67 : decode cX7_search 67 = .ok (.getfield 39, 3) := by decide +kernel
theorem dX7_search_70 : decode cX7_search 70 = .ok (.aload 4, 2) := by decide +kernel
theorem dX7_search_72 : decode cX7_search 72 = .ok (.getfield 87, 3) := by decide +kernel
theorem dX7_search_75 : decode cX7_search 75 = .ok (.iload_n 2, 1) := by decide +kernel
theorem dX7_search_76 : decode cX7_search 76 = .ok (.invokevirtual 280, 3) := by decide +kernel
theorem dX7_search_79 : decode cX7_search 79 = .ok (.ifCond .ne 9, 3) := by decide +kernel
theorem dX7_search_82 : decode cX7_search 82 = .ok (.aload_n 0, 1) := by decide +kernel
theorem dX7_search_83 : decode cX7_search 83 = .ok (.iconst 5, 1) := by decide +kernel
theorem dX7_search_84 : decode cX7_search 84 = .ok (.invokevirtual 83, 3) := by decide +kernel
theorem dX7_search_87 : decode cX7_search 87 = .ok (.ireturn, 1) := by decide +kernel
theorem dX7_search_88 : decode cX7_search 88 = .ok (.iload_n 3, 1) := by decide +kernel
theorem dX7_search_89 : decode cX7_search 89 = .ok (.iconst 0, 1) := by decide +kernel
theorem dX7_search_90 : decode cX7_search 90 = .ok (.iload_n 2, 1) := by decide +kernel
theorem dX7_search_91 : decode cX7_search 91 = .ok (.iconst 1, 1) := by decide +kernel
theorem dX7_search_92 : decode cX7_search 92 = .ok (.isub, 1) := by decide +kernel
theorem dX7_search_93 : decode cX7_search 93 = .ok (.invokestatic 59, 3) := by decide +kernel
theorem dX7_search_96 : decode cX7_search 96 = .ok (.ifCond .ne 10, 3) := by decide +kernel
theorem dX7_search_99 : decode cX7_search 99 = .ok (.aload_n 0, 1) := by decide +kernel
theorem dX7_search_100 : decode cX7_search 100 = .ok (.bipush 9, 2) := by decide +kernel
theorem dX7_search_102 : decode cX7_search 102 = .ok (.invokevirtual 83, 3) := by decide +kernel
theorem dX7_search_105 : decode cX7_search 105 = .ok (.ireturn, 1) := by decide +kernel
theorem dX7_search_106 : decode cX7_search 106 = .ok (.aload_n 0, 1) := by decide +kernel
theorem dX7_search_107 : decode cX7_search 107 = .ok (.getfield 39, 3) := by decide +kernel
theorem dX7_search_110 : decode cX7_search 110 = .ok (.invokevirtual 284, 3) := by decide +kernel
theorem dX7_search_113 : decode cX7_search 113 = .ok (.aload_n 0, 1) := by decide +kernel
theorem dX7_search_114 : decode cX7_search 114 = .ok (.aload_n 0, 1) := by decide +kernel
theorem dX7_search_115 : decode cX7_search 115 = .ok (.getfield 39, 3) := by decide +kernel
theorem dX7_search_118 : decode cX7_search 118 = .ok (.invokevirtual 287, 3) := by decide +kernel
theorem dX7_search_121 : decode cX7_search 121 = .ok (.aload_n 0, 1) := by decide +kernel
theorem dX7_search_122 : decode cX7_search 122 = .ok (.getfield 39, 3) := by decide +kernel
theorem dX7_search_125 : decode cX7_search 125 = .ok (.invokevirtual 291, 3) := by decide +kernel
theorem dX7_search_128 : decode cX7_search 128 = .ok (.invokevirtual 294, 3) := by decide +kernel
theorem dX7_search_131 : decode cX7_search 131 = .ok (.aload_n 0, 1) := by decide +kernel
theorem dX7_search_132 : decode cX7_search 132 = .ok (.aload_n 0, 1) := by decide +kernel
theorem dX7_search_133 : decode cX7_search 133 = .ok (.getfield 39, 3) := by decide +kernel
theorem dX7_search_136 : decode cX7_search 136 = .ok (.getfield 298, 3) := by decide +kernel
theorem dX7_search_139 : decode cX7_search 139 = .ok (.iload_n 3, 1) := by decide +kernel
theorem dX7_search_140 : decode cX7_search 140 = .ok (.iaload, 1) := by decide +kernel
theorem dX7_search_141 : decode cX7_search 141 = .ok (.invokevirtual 126, 3) := by decide +kernel
theorem dX7_search_144 : decode cX7_search 144 = .ok (.ireturn, 1) := by decide +kernel
theorem dX7_upper_0 : decode cX7_upper 0 = .ok (.aload_n 0, 1) := by decide +kernel
theorem dX7_upper_1 : decode cX7_upper 1 = .ok (.getfield 47, 3) := by decide +kernel
theorem dX7_upper_4 : decode cX7_upper 4 = .ok (.lreturn, 1) := by decide +kernel
theorem dX7_lower_0 : decode cX7_lower 0 = .ok (.aload_n 0, 1) := by decide +kernel
theorem dX7_lower_1 : decode cX7_lower 1 = .ok (.getfield 51, 3) := by decide +kernel
theorem dX7_lower_4 : decode cX7_lower 4 = .ok (.lreturn, 1) := by decide +kernel
theorem dX7_refuse_0 : decode cX7_refuse 0 = .ok (.aload_n 0, 1) := by decide +kernel
theorem dX7_refuse_1 : decode cX7_refuse 1 = .ok (.iload_n 1, 1) := by decide +kernel
theorem dX7_refuse_2 : decode cX7_refuse 2 = .ok (.putfield 43, 3) := by decide +kernel
theorem dX7_refuse_5 : decode cX7_refuse 5 = .ok (.iconst (-1), 1) := by decide +kernel
theorem dX7_refuse_6 : decode cX7_refuse 6 = .ok (.ireturn, 1) := by decide +kernel
theorem dX7_deny_0 : decode cX7_deny 0 = .ok (.aload_n 0, 1) := by decide +kernel
theorem dX7_deny_1 : decode cX7_deny 1 = .ok (.iload_n 1, 1) := by decide +kernel
theorem dX7_deny_2 : decode cX7_deny 2 = .ok (.putfield 43, 3) := by decide +kernel
theorem dX7_deny_5 : decode cX7_deny 5 = .ok (.iconst 0, 1) := by decide +kernel
theorem dX7_deny_6 : decode cX7_deny 6 = .ok (.ireturn, 1) := by decide +kernel
theorem dX7_answer_0 : decode cX7_answer 0 = .ok (.aload_n 0, 1) := by decide +kernel
theorem dX7_answer_1 : decode cX7_answer 1 = .ok (.iconst 0, 1) := by decide +kernel
theorem dX7_answer_2 : decode cX7_answer 2 = .ok (.putfield 43, 3) := by decide +kernel
theorem dX7_answer_5 : decode cX7_answer 5 = .ok (.iload_n 1, 1) := by decide +kernel
theorem dX7_answer_6 : decode cX7_answer 6 = .ok (.ireturn, 1) := by decide +kernel
theorem dX7_grant_0 : decode cX7_grant 0 = .ok (.aload_n 0, 1) := by decide +kernel
theorem dX7_grant_1 : decode cX7_grant 1 = .ok (.iconst 0, 1) := by decide +kernel
theorem dX7_grant_2 : decode cX7_grant 2 = .ok (.putfield 43, 3) := by decide +kernel
theorem dX7_grant_5 : decode cX7_grant 5 = .ok (.iconst 1, 1) := by decide +kernel
theorem dX7_grant_6 : decode cX7_grant 6 = .ok (.ireturn, 1) := by decide +kernel
theorem dX7_trayAt_0 : decode cX7_trayAt 0 = .ok (.iload_n 1, 1) := by decide +kernel
theorem dX7_trayAt_1 : decode cX7_trayAt 1 = .ok (.iconst 0, 1) := by decide +kernel
theorem dX7_trayAt_2 : decode cX7_trayAt 2 = .ok (.iconst 3, 1) := by decide +kernel
theorem dX7_trayAt_3 : decode cX7_trayAt 3 = .ok (.invokestatic 59, 3) := by decide +kernel
theorem dX7_trayAt_6 : decode cX7_trayAt 6 = .ok (.ifCond .eq 12, 3) := by decide +kernel
theorem dX7_trayAt_9 : decode cX7_trayAt 9 = .ok (.aload_n 0, 1) := by decide +kernel
theorem dX7_trayAt_10 : decode cX7_trayAt 10 = .ok (.getfield 11, 3) := by decide +kernel
theorem dX7_trayAt_13 : decode cX7_trayAt 13 = .ok (.iload_n 1, 1) := by decide +kernel
theorem dX7_trayAt_14 : decode cX7_trayAt 14 = .ok (.aaload, 1) := by decide +kernel
theorem dX7_trayAt_15 : decode cX7_trayAt 15 = .ok (.goto 4, 3) := by decide +kernel
theorem dX7_trayAt_18 : decode cX7_trayAt 18 = .ok (.aconst_null, 1) := by decide +kernel
theorem dX7_trayAt_19 : decode cX7_trayAt 19 = .ok (.areturn, 1) := by decide +kernel
theorem dX7_whyNotIn_0 : decode cX7_whyNotIn 0 = .ok (.aload_n 0, 1) := by decide +kernel
theorem dX7_whyNotIn_1 : decode cX7_whyNotIn 1 = .ok (.ifnonnull 5, 3) := by decide +kernel
theorem dX7_whyNotIn_4 : decode cX7_whyNotIn 4 = .ok (.iconst 1, 1) := by decide +kernel
theorem dX7_whyNotIn_5 : decode cX7_whyNotIn 5 = .ok (.ireturn, 1) := by decide +kernel
theorem dX7_whyNotIn_6 : decode cX7_whyNotIn 6 = .ok (.aload_n 0, 1) := by decide +kernel
theorem dX7_whyNotIn_7 : decode cX7_whyNotIn 7 = .ok (.invokevirtual 91, 3) := by decide +kernel
theorem dX7_whyNotIn_10 : decode cX7_whyNotIn 10 = .ok (.ifCond .eq 5, 3) := by decide +kernel
theorem dX7_whyNotIn_13 : decode cX7_whyNotIn 13 = .ok (.iconst 3, 1) := by decide +kernel
theorem dX7_whyNotIn_14 : decode cX7_whyNotIn 14 = .ok (.ireturn, 1) := by decide +kernel
theorem dX7_whyNotIn_15 : decode cX7_whyNotIn 15 = .ok (.aload_n 0, 1) := by decide +kernel
theorem dX7_whyNotIn_16 : decode cX7_whyNotIn 16 = .ok (.iload_n 1, 1) := by decide +kernel
theorem dX7_whyNotIn_17 : decode cX7_whyNotIn 17 = .ok (.invokevirtual 223, 3) := by decide +kernel
theorem dX7_whyNotIn_20 : decode cX7_whyNotIn 20 = .ok (.ifCond .eq 7, 3) := by decide +kernel
theorem dX7_whyNotIn_23 : decode cX7_whyNotIn 23 = .ok (.iconst 0, 1) := by decide +kernel
theorem dX7_whyNotIn_24 : decode cX7_whyNotIn 24 = .ok (.goto 4, 3) := by decide +kernel
theorem dX7_whyNotIn_27 : decode cX7_whyNotIn 27 = .ok (.iconst 4, 1) := by decide +kernel
theorem dX7_whyNotIn_28 : decode cX7_whyNotIn 28 = .ok (.ireturn, 1) := by decide +kernel
theorem dX7_whyNotOnShelf_0 : decode cX7_whyNotOnShelf 0 = .ok (.aload_n 0, 1) := by decide +kernel
theorem dX7_whyNotOnShelf_1 : decode cX7_whyNotOnShelf 1 = .ok (.getfield 18, 3) := by decide +kernel
theorem dX7_whyNotOnShelf_4 : decode cX7_whyNotOnShelf 4 = .ok (.iload_n 1, 1) := by decide +kernel
theorem dX7_whyNotOnShelf_5 : decode cX7_whyNotOnShelf 5 = .ok (.invokevirtual 107, 3) := by decide +kernel
theorem dX7_whyNotOnShelf_8 : decode cX7_whyNotOnShelf 8 = .ok (.astore_n 3, 1) := by decide +kernel
theorem dX7_whyNotOnShelf_9 : decode cX7_whyNotOnShelf 9 = .ok (.aload_n 3, 1) := by decide +kernel
theorem dX7_whyNotOnShelf_10 : decode cX7_whyNotOnShelf 10 = .ok (.ifnull 13, 3) := by decide +kernel
theorem dX7_whyNotOnShelf_13 : decode cX7_whyNotOnShelf 13 = .ok (.iload_n 2, 1) := by decide +kernel
theorem dX7_whyNotOnShelf_14 : decode cX7_whyNotOnShelf 14 = .ok (.iconst (-1), 1) := by decide +kernel
theorem dX7_whyNotOnShelf_15 : decode cX7_whyNotOnShelf 15 = .ok (.bipush 39, 2) := by decide +kernel
theorem dX7_whyNotOnShelf_17 : decode cX7_whyNotOnShelf 17 = .ok (.invokestatic 59, 3) := by decide +kernel
theorem dX7_whyNotOnShelf_20 : decode cX7_whyNotOnShelf 20 = .ok (.ifCond .ne 5, 3) := by decide +kernel
theorem dX7_whyNotOnShelf_23 : decode cX7_whyNotOnShelf 23 = .ok (.iconst 2, 1) := by decide +kernel
theorem dX7_whyNotOnShelf_24 : decode cX7_whyNotOnShelf 24 = .ok (.ireturn, 1) := by decide +kernel
theorem dX7_whyNotOnShelf_25 : decode cX7_whyNotOnShelf 25 = .ok (.aload_n 3, 1) := by decide +kernel
theorem dX7_whyNotOnShelf_26 : decode cX7_whyNotOnShelf 26 = .ok (.getfield 111, 3) := by decide +kernel
theorem dX7_whyNotOnShelf_29 : decode cX7_whyNotOnShelf 29 = .ok (.iconst 1, 1) := by decide +kernel
theorem dX7_whyNotOnShelf_30 : decode cX7_whyNotOnShelf 30 = .ok (.if_icmp .ne 7, 3) := by decide +kernel
theorem dX7_whyNotOnShelf_33 : decode cX7_whyNotOnShelf 33 = .ok (.iconst 0, 1) := by decide +kernel
theorem dX7_whyNotOnShelf_34 : decode cX7_whyNotOnShelf 34 = .ok (.goto 5, 3) := by decide +kernel
theorem dX7_whyNotOnShelf_37 : decode cX7_whyNotOnShelf 37 = .ok (.bipush 8, 2) := by decide +kernel
theorem dX7_whyNotOnShelf_39 : decode cX7_whyNotOnShelf 39 = .ok (.ireturn, 1) := by decide +kernel
theorem dX7_keepFraction_0 : decode cX7_keepFraction 0 = .ok (.lload_n 1, 1) := by decide +kernel
theorem dX7_keepFraction_1 : decode cX7_keepFraction 1 = .ok (.lload_n 3, 1) := by decide +kernel
theorem dX7_keepFraction_2 : decode cX7_keepFraction 2 = .ok (.invokestatic 301, 3) := by decide +kernel
theorem dX7_keepFraction_5 : decode cX7_keepFraction 5 = .ok (.lstore 5, 2) := by decide +kernel
theorem dX7_keepFraction_7 : decode cX7_keepFraction 7 = .ok (.lload 5, 2) := by decide +kernel
theorem dX7_keepFraction_9 : decode cX7_keepFraction 9 = .ok (.lconst 0, 1) := by decide +kernel
theorem dX7_keepFraction_10 : decode cX7_keepFraction 10 = .ok (.lcmp, 1) := by decide +kernel
theorem dX7_keepFraction_11 : decode cX7_keepFraction 11 = .ok (.ifCond .le 19, 3) := by decide +kernel
theorem dX7_keepFraction_14 : decode cX7_keepFraction 14 = .ok (.aload_n 0, 1) := by decide +kernel
theorem dX7_keepFraction_15 : decode cX7_keepFraction 15 = .ok (.lload_n 1, 1) := by decide +kernel
theorem dX7_keepFraction_16 : decode cX7_keepFraction 16 = .ok (.lload 5, 2) := by decide +kernel
theorem dX7_keepFraction_18 : decode cX7_keepFraction 18 = .ok (.ldiv, 1) := by decide +kernel
theorem dX7_keepFraction_19 : decode cX7_keepFraction 19 = .ok (.putfield 47, 3) := by decide +kernel
theorem dX7_keepFraction_22 : decode cX7_keepFraction 22 = .ok (.aload_n 0, 1) := by decide +kernel
theorem dX7_keepFraction_23 : decode cX7_keepFraction 23 = .ok (.lload_n 3, 1) := by decide +kernel
theorem dX7_keepFraction_24 : decode cX7_keepFraction 24 = .ok (.lload 5, 2) := by decide +kernel
theorem dX7_keepFraction_26 : decode cX7_keepFraction 26 = .ok (.ldiv, 1) := by decide +kernel
theorem dX7_keepFraction_27 : decode cX7_keepFraction 27 = .ok (.putfield 51, 3) := by decide +kernel
theorem dX7_keepFraction_30 : decode cX7_keepFraction 30 = .ok (.return_, 1) := by decide +kernel
theorem dX7_commonDivisor_0 : decode cX7_commonDivisor 0 = .ok (.lload_n 0, 1) := by decide +kernel
theorem dX7_commonDivisor_1 : decode cX7_commonDivisor 1 = .ok (.lstore 4, 2) := by decide +kernel
theorem dX7_commonDivisor_3 : decode cX7_commonDivisor 3 = .ok (.lload_n 2, 1) := by decide +kernel
theorem dX7_commonDivisor_4 : decode cX7_commonDivisor 4 = .ok (.lstore 6, 2) := by decide +kernel
theorem dX7_commonDivisor_6 : decode cX7_commonDivisor 6 = .ok (.iconst 0, 1) := by decide +kernel
theorem dX7_commonDivisor_7 : decode cX7_commonDivisor 7 = .ok (.istore 8, 2) := by decide +kernel
theorem dX7_commonDivisor_9 : decode cX7_commonDivisor 9 = .ok (.iload 8, 2) := by decide +kernel
theorem dX7_commonDivisor_11 : decode cX7_commonDivisor 11 = .ok (.sipush 200, 3) := by decide +kernel
theorem dX7_commonDivisor_14 : decode cX7_commonDivisor 14 = .ok (.if_icmp .ge 31, 3) := by decide +kernel
theorem dX7_commonDivisor_17 : decode cX7_commonDivisor 17 = .ok (.lload 6, 2) := by decide +kernel
theorem dX7_commonDivisor_19 : decode cX7_commonDivisor 19 = .ok (.lconst 0, 1) := by decide +kernel
theorem dX7_commonDivisor_20 : decode cX7_commonDivisor 20 = .ok (.lcmp, 1) := by decide +kernel
theorem dX7_commonDivisor_21 : decode cX7_commonDivisor 21 = .ok (.ifCond .eq 24, 3) := by decide +kernel
theorem dX7_commonDivisor_24 : decode cX7_commonDivisor 24 = .ok (.lload 4, 2) := by decide +kernel
theorem dX7_commonDivisor_26 : decode cX7_commonDivisor 26 = .ok (.lload 6, 2) := by decide +kernel
theorem dX7_commonDivisor_28 : decode cX7_commonDivisor 28 = .ok (.lrem, 1) := by decide +kernel
theorem dX7_commonDivisor_29 : decode cX7_commonDivisor 29 = .ok (.lstore 9, 2) := by decide +kernel
theorem dX7_commonDivisor_31 : decode cX7_commonDivisor 31 = .ok (.lload 6, 2) := by decide +kernel
theorem dX7_commonDivisor_33 : decode cX7_commonDivisor 33 = .ok (.lstore 4, 2) := by decide +kernel
theorem dX7_commonDivisor_35 : decode cX7_commonDivisor 35 = .ok (.lload 9, 2) := by decide +kernel
theorem dX7_commonDivisor_37 : decode cX7_commonDivisor 37 = .ok (.lstore 6, 2) := by decide +kernel
theorem dX7_commonDivisor_39 : decode cX7_commonDivisor 39 = .ok (.iinc 8 1, 3) := by decide +kernel
theorem dX7_commonDivisor_42 : decode cX7_commonDivisor 42 = .ok (.goto (-33), 3) := by decide +kernel
theorem dX7_commonDivisor_45 : decode cX7_commonDivisor 45 = .ok (.lload 4, 2) := by decide +kernel
theorem dX7_commonDivisor_47 : decode cX7_commonDivisor 47 = .ok (.lreturn, 1) := by decide +kernel
theorem dX7_mayBeIn_0 : decode cX7_mayBeIn 0 = .ok (.iload_n 1, 1) := by decide +kernel
theorem dX7_mayBeIn_1 : decode cX7_mayBeIn 1 = .ok (.iload_n 0, 1) := by decide +kernel
theorem dX7_mayBeIn_2 : decode cX7_mayBeIn 2 = .ok (.iconst 1, 1) := by decide +kernel
theorem dX7_mayBeIn_3 : decode cX7_mayBeIn 3 = .ok (.isub, 1) := by decide +kernel
theorem dX7_mayBeIn_4 : decode cX7_mayBeIn 4 = .ok (.if_icmp .eq 13, 3) := by decide +kernel
theorem dX7_mayBeIn_7 : decode cX7_mayBeIn 7 = .ok (.iload_n 0, 1) := by decide +kernel
theorem dX7_mayBeIn_8 : decode cX7_mayBeIn 8 = .ok (.iconst 3, 1) := by decide +kernel
theorem dX7_mayBeIn_9 : decode cX7_mayBeIn 9 = .ok (.if_icmp .ne 12, 3) := by decide +kernel
theorem dX7_mayBeIn_12 : decode cX7_mayBeIn 12 = .ok (.iload_n 1, 1) := by decide +kernel
theorem dX7_mayBeIn_13 : decode cX7_mayBeIn 13 = .ok (.iconst 1, 1) := by decide +kernel
theorem dX7_mayBeIn_14 : decode cX7_mayBeIn 14 = .ok (.if_icmp .ne 7, 3) := by decide +kernel
theorem dX7_mayBeIn_17 : decode cX7_mayBeIn 17 = .ok (.iconst 1, 1) := by decide +kernel
theorem dX7_mayBeIn_18 : decode cX7_mayBeIn 18 = .ok (.goto 4, 3) := by decide +kernel
theorem dX7_mayBeIn_21 : decode cX7_mayBeIn 21 = .ok (.iconst 0, 1) := by decide +kernel
theorem dX7_mayBeIn_22 : decode cX7_mayBeIn 22 = .ok (.ireturn, 1) := by decide +kernel
theorem dX7_isField_0 : decode cX7_isField 0 = .ok (.iload_n 0, 1) := by decide +kernel
theorem dX7_isField_1 : decode cX7_isField 1 = .ok (.iconst 0, 1) := by decide +kernel
theorem dX7_isField_2 : decode cX7_isField 2 = .ok (.iconst 5, 1) := by decide +kernel
theorem dX7_isField_3 : decode cX7_isField 3 = .ok (.invokestatic 59, 3) := by decide +kernel
theorem dX7_isField_6 : decode cX7_isField 6 = .ok (.ireturn, 1) := by decide +kernel
theorem dX7_isPerson_0 : decode cX7_isPerson 0 = .ok (.iload_n 0, 1) := by decide +kernel
theorem dX7_isPerson_1 : decode cX7_isPerson 1 = .ok (.iconst 0, 1) := by decide +kernel
theorem dX7_isPerson_2 : decode cX7_isPerson 2 = .ok (.bipush 15, 2) := by decide +kernel
theorem dX7_isPerson_4 : decode cX7_isPerson 4 = .ok (.invokestatic 59, 3) := by decide +kernel
theorem dX7_isPerson_7 : decode cX7_isPerson 7 = .ok (.ireturn, 1) := by decide +kernel
theorem dX7_isDay_0 : decode cX7_isDay 0 = .ok (.iload_n 0, 1) := by decide +kernel
theorem dX7_isDay_1 : decode cX7_isDay 1 = .ok (.iconst 0, 1) := by decide +kernel
theorem dX7_isDay_2 : decode cX7_isDay 2 = .ok (.ldc_w 305, 3) := by decide +kernel
theorem dX7_isDay_5 : decode cX7_isDay 5 = .ok (.invokestatic 59, 3) := by decide +kernel
theorem dX7_isDay_8 : decode cX7_isDay 8 = .ok (.ireturn, 1) := by decide +kernel
theorem dX7_within_0 : decode cX7_within 0 = .ok (.iload_n 0, 1) := by decide +kernel
theorem dX7_within_1 : decode cX7_within 1 = .ok (.iload_n 1, 1) := by decide +kernel
theorem dX7_within_2 : decode cX7_within 2 = .ok (.if_icmp .lt 12, 3) := by decide +kernel
theorem dX7_within_5 : decode cX7_within 5 = .ok (.iload_n 0, 1) := by decide +kernel
theorem dX7_within_6 : decode cX7_within 6 = .ok (.iload_n 2, 1) := by decide +kernel
theorem dX7_within_7 : decode cX7_within 7 = .ok (.if_icmp .gt 7, 3) := by decide +kernel
theorem dX7_within_10 : decode cX7_within 10 = .ok (.iconst 1, 1) := by decide +kernel
theorem dX7_within_11 : decode cX7_within 11 = .ok (.goto 4, 3) := by decide +kernel
theorem dX7_within_14 : decode cX7_within 14 = .ok (.iconst 0, 1) := by decide +kernel
theorem dX7_within_15 : decode cX7_within 15 = .ok (.ireturn, 1) := by decide +kernel
end
section
theorem dX8_init_0 : decode cX8_init 0 = .ok (.aload_n 0, 1) := by decide +kernel
theorem dX8_init_1 : decode cX8_init 1 = .ok (.invokespecial 1, 3) := by decide +kernel
theorem dX8_init_4 : decode cX8_init 4 = .ok (.aload_n 0, 1) := by decide +kernel
theorem dX8_init_5 : decode cX8_init 5 = .ok (.lconst 1, 1) := by decide +kernel
theorem dX8_init_6 : decode cX8_init 6 = .ok (.putfield 7, 3) := by decide +kernel
theorem dX8_init_9 : decode cX8_init 9 = .ok (.aload_n 0, 1) := by decide +kernel
theorem dX8_init_10 : decode cX8_init 10 = .ok (.iconst 4, 1) := by decide +kernel
theorem dX8_init_11 : decode cX8_init 11 = .ok (.newarray .int, 2) := by decide +kernel
theorem dX8_init_13 : decode cX8_init 13 = .ok (.putfield 13, 3) := by decide +kernel
theorem dX8_init_16 : decode cX8_init 16 = .ok (.aload_n 0, 1) := by decide +kernel
theorem dX8_init_17 : decode cX8_init 17 = .ok (.iconst 4, 1) := by decide +kernel
theorem dX8_init_18 : decode cX8_init 18 = .ok (.newarray .int, 2) := by decide +kernel
theorem dX8_init_20 : decode cX8_init 20 = .ok (.putfield 17, 3) := by decide +kernel
theorem dX8_init_23 : decode cX8_init 23 = .ok (.aload_n 0, 1) := by decide +kernel
theorem dX8_init_24 : decode cX8_init 24 = .ok (.sipush 160, 3) := by decide +kernel
theorem dX8_init_27 : decode cX8_init 27 = .ok (.newarray .long, 2) := by decide +kernel
theorem dX8_init_29 : decode cX8_init 29 = .ok (.putfield 20, 3) := by decide +kernel
theorem dX8_init_32 : decode cX8_init 32 = .ok (.aload_n 0, 1) := by decide +kernel
theorem dX8_init_33 : decode cX8_init 33 = .ok (.bipush 80, 2) := by decide +kernel
theorem dX8_init_35 : decode cX8_init 35 = .ok (.newarray .int, 2) := by decide +kernel
theorem dX8_init_37 : decode cX8_init 37 = .ok (.putfield 24, 3) := by decide +kernel
theorem dX8_init_40 : decode cX8_init 40 = .ok (.aload_n 0, 1) := by decide +kernel
theorem dX8_init_41 : decode cX8_init 41 = .ok (.bipush 80, 2) := by decide +kernel
theorem dX8_init_43 : decode cX8_init 43 = .ok (.newarray .int, 2) := by decide +kernel
theorem dX8_init_45 : decode cX8_init 45 = .ok (.putfield 27, 3) := by decide +kernel
theorem dX8_init_48 : decode cX8_init 48 = .ok (.aload_n 0, 1) := by decide +kernel
theorem dX8_init_49 : decode cX8_init 49 = .ok (.bipush 80, 2) := by decide +kernel
theorem dX8_init_51 : decode cX8_init 51 = .ok (.newarray .int, 2) := by decide +kernel
theorem dX8_init_53 : decode cX8_init 53 = .ok (.putfield 30, 3) := by decide +kernel
theorem dX8_init_56 : decode cX8_init 56 = .ok (.aload_n 0, 1) := by decide +kernel
theorem dX8_init_57 : decode cX8_init 57 = .ok (.bipush 80, 2) := by decide +kernel
theorem dX8_init_59 : decode cX8_init 59 = .ok (.newarray .int, 2) := by decide +kernel
theorem dX8_init_61 : decode cX8_init 61 = .ok (.putfield 33, 3) := by decide +kernel
theorem dX8_init_64 : decode cX8_init 64 = .ok (.aload_n 0, 1) := by decide +kernel
theorem dX8_init_65 : decode cX8_init 65 = .ok (.sipush 480, 3) := by decide +kernel
theorem dX8_init_68 : decode cX8_init 68 = .ok (.newarray .int, 2) := by decide +kernel
theorem dX8_init_70 : decode cX8_init 70 = .ok (.putfield 36, 3) := by decide +kernel
theorem dX8_init_73 : decode cX8_init 73 = .ok (.aload_n 0, 1) := by decide +kernel
theorem dX8_init_74 : decode cX8_init 74 = .ok (.bipush 80, 2) := by decide +kernel
theorem dX8_init_76 : decode cX8_init 76 = .ok (.newarray .int, 2) := by decide +kernel
theorem dX8_init_78 : decode cX8_init 78 = .ok (.putfield 39, 3) := by decide +kernel
theorem dX8_init_81 : decode cX8_init 81 = .ok (.aload_n 0, 1) := by decide +kernel
theorem dX8_init_82 : decode cX8_init 82 = .ok (.bipush 80, 2) := by decide +kernel
theorem dX8_init_84 : decode cX8_init 84 = .ok (.newarray .int, 2) := by decide +kernel
theorem dX8_init_86 : decode cX8_init 86 = .ok (.putfield 42, 3) := by decide +kernel
theorem dX8_init_89 : decode cX8_init 89 = .ok (.aload_n 0, 1) := by decide +kernel
theorem dX8_init_90 : decode cX8_init 90 = .ok (.bipush 80, 2) := by decide +kernel
theorem dX8_init_92 : decode cX8_init 92 = .ok (.newarray .int, 2) := by decide +kernel
theorem dX8_init_94 : decode cX8_init 94 = .ok (.putfield 45, 3) := by decide +kernel
theorem dX8_init_97 : decode cX8_init 97 = .ok (.aload_n 0, 1) := by decide +kernel
theorem dX8_init_98 : decode cX8_init 98 = .ok (.bipush 80, 2) := by decide +kernel
theorem dX8_init_100 : decode cX8_init 100 = .ok (.newarray .int, 2) := by decide +kernel
theorem dX8_init_102 : decode cX8_init 102 = .ok (.putfield 48, 3) := by decide +kernel
theorem dX8_init_105 : decode cX8_init 105 = .ok (.aload_n 0, 1) := by decide +kernel
theorem dX8_init_106 : decode cX8_init 106 = .ok (.bipush 80, 2) := by decide +kernel
theorem dX8_init_108 : decode cX8_init 108 = .ok (.newarray .int, 2) := by decide +kernel
theorem dX8_init_110 : decode cX8_init 110 = .ok (.putfield 51, 3) := by decide +kernel
theorem dX8_init_113 : decode cX8_init 113 = .ok (.aload_n 0, 1) := by decide +kernel
theorem dX8_init_114 : decode cX8_init 114 = .ok (.bipush 80, 2) := by decide +kernel
theorem dX8_init_116 : decode cX8_init 116 = .ok (.newarray .int, 2) := by decide +kernel
theorem dX8_init_118 : decode cX8_init 118 = .ok (.putfield 54, 3) := by decide +kernel
theorem dX8_init_121 : decode cX8_init 121 = .ok (.aload_n 0, 1) := by decide +kernel
theorem dX8_init_122 : decode cX8_init 122 = .ok (.bipush 80, 2) := by decide +kernel
theorem dX8_init_124 : decode cX8_init 124 = .ok (.newarray .int, 2) := by decide +kernel
theorem dX8_init_126 : decode cX8_init 126 = .ok (.putfield 57, 3) := by decide +kernel
theorem dX8_init_129 : decode cX8_init 129 = .ok (.aload_n 0, 1) := by decide +kernel
theorem dX8_init_130 : decode cX8_init 130 = .ok (.bipush 80, 2) := by decide +kernel
theorem dX8_init_132 : decode cX8_init 132 = .ok (.newarray .int, 2) := by decide +kernel
theorem dX8_init_134 : decode cX8_init 134 = .ok (.putfield 60, 3) := by decide +kernel
theorem dX8_init_137 : decode cX8_init 137 = .ok (.aload_n 0, 1) := by decide +kernel
theorem dX8_init_138 : decode cX8_init 138 = .ok (.bipush 80, 2) := by decide +kernel
theorem dX8_init_140 : decode cX8_init 140 = .ok (.newarray .int, 2) := by decide +kernel
theorem dX8_init_142 : decode cX8_init 142 = .ok (.putfield 63, 3) := by decide +kernel
theorem dX8_init_145 : decode cX8_init 145 = .ok (.aload_n 0, 1) := by decide +kernel
theorem dX8_init_146 : decode cX8_init 146 = .ok (.sipush 200, 3) := by decide +kernel
theorem dX8_init_149 : decode cX8_init 149 = .ok (.newarray .int, 2) := by decide +kernel
theorem dX8_init_151 : decode cX8_init 151 = .ok (.putfield 66, 3) := by decide +kernel
theorem dX8_init_154 : decode cX8_init 154 = .ok (.aload_n 0, 1) := by decide +kernel
theorem dX8_init_155 : decode cX8_init 155 = .ok (.sipush 200, 3) := by decide +kernel
theorem dX8_init_158 : decode cX8_init 158 = .ok (.newarray .int, 2) := by decide +kernel
theorem dX8_init_160 : decode cX8_init 160 = .ok (.putfield 69, 3) := by decide +kernel
theorem dX8_init_163 : decode cX8_init 163 = .ok (.aload_n 0, 1) := by decide +kernel
theorem dX8_init_164 : decode cX8_init 164 = .ok (.sipush 200, 3) := by decide +kernel
theorem dX8_init_167 : decode cX8_init 167 = .ok (.newarray .int, 2) := by decide +kernel
theorem dX8_init_169 : decode cX8_init 169 = .ok (.putfield 72, 3) := by decide +kernel
theorem dX8_init_172 : decode cX8_init 172 = .ok (.aload_n 0, 1) := by decide +kernel
theorem dX8_init_173 : decode cX8_init 173 = .ok (.bipush 40, 2) := by decide +kernel
theorem dX8_init_175 : decode cX8_init 175 = .ok (.newarray .int, 2) := by decide +kernel
theorem dX8_init_177 : decode cX8_init 177 = .ok (.putfield 75, 3) := by decide +kernel
theorem dX8_init_180 : decode cX8_init 180 = .ok (.aload_n 0, 1) := by decide +kernel
theorem dX8_init_181 : decode cX8_init 181 = .ok (.bipush 80, 2) := by decide +kernel
theorem dX8_init_183 : decode cX8_init 183 = .ok (.newarray .int, 2) := by decide +kernel
theorem dX8_init_185 : decode cX8_init 185 = .ok (.putfield 78, 3) := by decide +kernel
theorem dX8_init_188 : decode cX8_init 188 = .ok (.aload_n 0, 1) := by decide +kernel
theorem dX8_init_189 : decode cX8_init 189 = .ok (.sipush 400, 3) := by decide +kernel
theorem dX8_init_192 : decode cX8_init 192 = .ok (.newarray .int, 2) := by decide +kernel
theorem dX8_init_194 : decode cX8_init 194 = .ok (.putfield 81, 3) := by decide +kernel
theorem dX8_init_197 : decode cX8_init 197 = .ok (.aload_n 0, 1) := by decide +kernel
theorem dX8_init_198 : decode cX8_init 198 = .ok (.sipush 400, 3) := by decide +kernel
theorem dX8_init_201 : decode cX8_init 201 = .ok (.newarray .int, 2) := by decide +kernel
theorem dX8_init_203 : decode cX8_init 203 = .ok (.putfield 84, 3) := by decide +kernel
theorem dX8_init_206 : decode cX8_init 206 = .ok (.aload_n 0, 1) := by decide +kernel
theorem dX8_init_207 : decode cX8_init 207 = .ok (.sipush 400, 3) := by decide +kernel
theorem dX8_init_210 : decode cX8_init 210 = .ok (.newarray .int, 2) := by decide +kernel
theorem dX8_init_212 : decode cX8_init 212 = .ok (.putfield 87, 3) := by decide +kernel
theorem dX8_init_215 : decode cX8_init 215 = .ok (.aload_n 0, 1) := by decide +kernel
theorem dX8_init_216 : decode cX8_init 216 = .ok (.bipush 20, 2) := by decide +kernel
theorem dX8_init_218 : decode cX8_init 218 = .ok (.newarray .int, 2) := by decide +kernel
theorem dX8_init_220 : decode cX8_init 220 = .ok (.putfield 90, 3) := by decide +kernel
theorem dX8_init_223 : decode cX8_init 223 = .ok (.iconst 0, 1) := by decide +kernel
theorem dX8_init_224 : decode cX8_init 224 = .ok (.istore_n 1, 1) := by decide +kernel
theorem dX8_init_225 : decode cX8_init 225 = .ok (.iload_n 1, 1) := by decide +kernel
theorem dX8_init_226 : decode cX8_init 226 = .ok (.iconst 4, 1) := by decide +kernel
theorem dX8_init_227 : decode cX8_init 227 = .ok (.if_icmp .ge 16, 3) := by decide +kernel
theorem dX8_init_230 : decode cX8_init 230 = .ok (.aload_n 0, 1) := by decide +kernel
theorem dX8_init_231 : decode cX8_init 231 = .ok (.getfield 17, 3) := by decide +kernel
theorem dX8_init_234 : decode cX8_init 234 = .ok (.iload_n 1, 1) := by decide +kernel
theorem dX8_init_235 : decode cX8_init 235 = .ok (.iconst (-1), 1) := by decide +kernel
theorem dX8_init_236 : decode cX8_init 236 = .ok (.iastore, 1) := by decide +kernel
theorem dX8_init_237 : decode cX8_init 237 = .ok (.iinc 1 1, 3) := by decide +kernel
theorem dX8_init_240 : decode cX8_init 240 = .ok (.goto (-15), 3) := by decide +kernel
theorem dX8_init_243 : decode cX8_init 243 = .ok (.return_, 1) := by decide +kernel
theorem dX8_status_0 : decode cX8_status 0 = .ok (.aload_n 0, 1) := by decide +kernel
theorem dX8_status_1 : decode cX8_status 1 = .ok (.iconst 0, 1) := by decide +kernel
theorem dX8_status_2 : decode cX8_status 2 = .ok (.putfield 93, 3) := by decide +kernel
theorem dX8_status_5 : decode cX8_status 5 = .ok (.aload_n 0, 1) := by decide +kernel
theorem dX8_status_6 : decode cX8_status 6 = .ok (.getfield 97, 3) := by decide +kernel
theorem dX8_status_9 : decode cX8_status 9 = .ok (.ireturn, 1) := by decide +kernel
theorem dX8_refuse_0 : decode cX8_refuse 0 = .ok (.aload_n 0, 1) := by decide +kernel
theorem dX8_refuse_1 : decode cX8_refuse 1 = .ok (.iload_n 1, 1) := by decide +kernel
theorem dX8_refuse_2 : decode cX8_refuse 2 = .ok (.putfield 97, 3) := by decide +kernel
theorem dX8_refuse_5 : decode cX8_refuse 5 = .ok (.iconst (-1), 1) := by decide +kernel
theorem dX8_refuse_6 : decode cX8_refuse 6 = .ok (.ireturn, 1) := by decide +kernel
theorem dX8_no_0 : decode cX8_no 0 = .ok (.aload_n 0, 1) := by decide +kernel
theorem dX8_no_1 : decode cX8_no 1 = .ok (.iload_n 1, 1) := by decide +kernel
theorem dX8_no_2 : decode cX8_no 2 = .ok (.putfield 97, 3) := by decide +kernel
theorem dX8_no_5 : decode cX8_no 5 = .ok (.iconst 0, 1) := by decide +kernel
theorem dX8_no_6 : decode cX8_no 6 = .ok (.ireturn, 1) := by decide +kernel
theorem dX8_cut_0 : decode cX8_cut 0 = .ok (.iload_n 0, 1) := by decide +kernel
theorem dX8_cut_1 : decode cX8_cut 1 = .ok (.ifCond .ne 10, 3) := by decide +kernel
theorem dX8_cut_4 : decode cX8_cut 4 = .ok (.lload_n 1, 1) := by decide +kernel
theorem dX8_cut_5 : decode cX8_cut 5 = .ok (.l2i, 1) := by decide +kernel
theorem dX8_cut_6 : decode cX8_cut 6 = .ok (.i2b, 1) := by decide +kernel
theorem dX8_cut_7 : decode cX8_cut 7 = .ok (.i2l, 1) := by decide +kernel
theorem dX8_cut_8 : decode cX8_cut 8 = .ok (.goto 27, 3) := by decide +kernel
theorem dX8_cut_11 : decode cX8_cut 11 = .ok (.iload_n 0, 1) := by decide +kernel
theorem dX8_cut_12 : decode cX8_cut 12 = .ok (.iconst 1, 1) := by decide +kernel
theorem dX8_cut_13 : decode cX8_cut 13 = .ok (.if_icmp .ne 10, 3) := by decide +kernel
theorem dX8_cut_16 : decode cX8_cut 16 = .ok (.lload_n 1, 1) := by decide +kernel
theorem dX8_cut_17 : decode cX8_cut 17 = .ok (.l2i, 1) := by decide +kernel
theorem dX8_cut_18 : decode cX8_cut 18 = .ok (.i2s, 1) := by decide +kernel
theorem dX8_cut_19 : decode cX8_cut 19 = .ok (.i2l, 1) := by decide +kernel
theorem dX8_cut_20 : decode cX8_cut 20 = .ok (.goto 15, 3) := by decide +kernel
theorem dX8_cut_23 : decode cX8_cut 23 = .ok (.iload_n 0, 1) := by decide +kernel
theorem dX8_cut_24 : decode cX8_cut 24 = .ok (.iconst 2, 1) := by decide +kernel
theorem dX8_cut_25 : decode cX8_cut 25 = .ok (.if_icmp .ne 9, 3) := by decide +kernel
theorem dX8_cut_28 : decode cX8_cut 28 = .ok (.lload_n 1, 1) := by decide +kernel
theorem dX8_cut_29 : decode cX8_cut 29 = .ok (.l2i, 1) := by decide +kernel
theorem dX8_cut_30 : decode cX8_cut 30 = .ok (.i2l, 1) := by decide +kernel
theorem dX8_cut_31 : decode cX8_cut 31 = .ok (.goto 4, 3) := by decide +kernel
theorem dX8_cut_34 : decode cX8_cut 34 = .ok (.lload_n 1, 1) := by decide +kernel
theorem dX8_cut_35 : decode cX8_cut 35 = .ok (.lreturn, 1) := by decide +kernel
theorem dX8_tray_0 : decode cX8_tray 0 = .ok (.aload_n 0, 1) := by decide +kernel
theorem dX8_tray_1 : decode cX8_tray 1 = .ok (.iconst 0, 1) := by decide +kernel
theorem dX8_tray_2 : decode cX8_tray 2 = .ok (.putfield 93, 3) := by decide +kernel
theorem dX8_tray_5 : decode cX8_tray 5 = .ok (.aload_n 0, 1) := by decide +kernel
theorem dX8_tray_6 : decode cX8_tray 6 = .ok (.iconst 0, 1) := by decide +kernel
theorem dX8_tray_7 : decode cX8_tray 7 = .ok (.putfield 97, 3) := by decide +kernel
theorem dX8_tray_10 : decode cX8_tray 10 = .ok (.iload_n 1, 1) := by decide +kernel
theorem dX8_tray_11 : decode cX8_tray 11 = .ok (.ifCond .lt 17, 3) := by decide +kernel
theorem dX8_tray_14 : decode cX8_tray 14 = .ok (.iload_n 1, 1) := by decide +kernel
theorem dX8_tray_15 : decode cX8_tray 15 = .ok (.iconst 4, 1) := by decide +kernel
theorem dX8_tray_16 : decode cX8_tray 16 = .ok (.if_icmp .ge 12, 3) := by decide +kernel
theorem dX8_tray_19 : decode cX8_tray 19 = .ok (.iload_n 2, 1) := by decide +kernel
theorem dX8_tray_20 : decode cX8_tray 20 = .ok (.ifCond .lt 8, 3) := by decide +kernel
theorem dX8_tray_23 : decode cX8_tray 23 = .ok (.iload_n 2, 1) := by decide +kernel
theorem dX8_tray_24 : decode cX8_tray 24 = .ok (.iconst 3, 1) := by decide +kernel
theorem dX8_tray_25 : decode cX8_tray 25 = .ok (.if_icmp .le 9, 3) := by decide +kernel
theorem dX8_tray_28 : decode cX8_tray 28 = .ok (.aload_n 0, 1) := by decide +kernel
theorem dX8_tray_29 : decode cX8_tray 29 = .ok (.iconst 1, 1) := by decide +kernel
theorem dX8_tray_30 : decode cX8_tray 30 = .ok (.invokevirtual 100, 3) := by decide +kernel
theorem dX8_tray_33 : decode cX8_tray 33 = .ok (.ireturn, 1) := by decide +kernel
theorem dX8_tray_34 : decode cX8_tray 34 = .ok (.iload_n 3, 1) := by decide +kernel
theorem dX8_tray_35 : decode cX8_tray 35 = .ok (.bipush 40, 2) := by decide +kernel
theorem dX8_tray_37 : decode cX8_tray 37 = .ok (.if_icmp .le 9, 3) := by decide +kernel
theorem dX8_tray_40 : decode cX8_tray 40 = .ok (.aload_n 0, 1) := by decide +kernel
theorem dX8_tray_41 : decode cX8_tray 41 = .ok (.iconst 5, 1) := by decide +kernel
theorem dX8_tray_42 : decode cX8_tray 42 = .ok (.invokevirtual 100, 3) := by decide +kernel
theorem dX8_tray_45 : decode cX8_tray 45 = .ok (.ireturn, 1) := by decide +kernel
theorem dX8_tray_46 : decode cX8_tray 46 = .ok (.iload_n 3, 1) := by decide +kernel
theorem dX8_tray_47 : decode cX8_tray 47 = .ok (.ifCond .ge 10, 3) := by decide +kernel
theorem dX8_tray_50 : decode cX8_tray 50 = .ok (.aload_n 0, 1) := by decide +kernel
theorem dX8_tray_51 : decode cX8_tray 51 = .ok (.bipush 6, 2) := by decide +kernel
theorem dX8_tray_53 : decode cX8_tray 53 = .ok (.invokevirtual 100, 3) := by decide +kernel
theorem dX8_tray_56 : decode cX8_tray 56 = .ok (.ireturn, 1) := by decide +kernel
theorem dX8_tray_57 : decode cX8_tray 57 = .ok (.aload_n 0, 1) := by decide +kernel
theorem dX8_tray_58 : decode cX8_tray 58 = .ok (.getfield 13, 3) := by decide +kernel
theorem dX8_tray_61 : decode cX8_tray 61 = .ok (.iload_n 1, 1) := by decide +kernel
theorem dX8_tray_62 : decode cX8_tray 62 = .ok (.iload_n 2, 1) := by decide +kernel
theorem dX8_tray_63 : decode cX8_tray 63 = .ok (.iastore, 1) := by decide +kernel
theorem dX8_tray_64 : decode cX8_tray 64 = .ok (.aload_n 0, 1) := by decide +kernel
theorem dX8_tray_65 : decode cX8_tray 65 = .ok (.getfield 17, 3) := by decide +kernel
theorem dX8_tray_68 : decode cX8_tray 68 = .ok (.iload_n 1, 1) := by decide +kernel
theorem dX8_tray_69 : decode cX8_tray 69 = .ok (.iload_n 3, 1) := by decide +kernel
theorem dX8_tray_70 : decode cX8_tray 70 = .ok (.iastore, 1) := by decide +kernel
theorem dX8_tray_71 : decode cX8_tray 71 = .ok (.iconst 0, 1) := by decide +kernel
theorem dX8_tray_72 : decode cX8_tray 72 = .ok (.istore 4, 2) := by decide +kernel
theorem dX8_tray_74 : decode cX8_tray 74 = .ok (.iload 4, 2) := by decide +kernel
theorem dX8_tray_76 : decode cX8_tray 76 = .ok (.iload_n 3, 1) := by decide +kernel
theorem dX8_tray_77 : decode cX8_tray 77 = .ok (.if_icmp .ge 22, 3) := by decide +kernel
theorem dX8_tray_80 : decode cX8_tray 80 = .ok (.aload_n 0, 1) := by decide +kernel
theorem dX8_tray_81 : decode cX8_tray 81 = .ok (.getfield 20, 3) := by decide +kernel
theorem dX8_tray_84 : decode cX8_tray 84 = .ok (.bipush 40, 2) := by decide +kernel
theorem dX8_tray_86 : decode cX8_tray 86 = .ok (.iload_n 1, 1) := by decide +kernel
theorem dX8_tray_87 : decode cX8_tray 87 = .ok (.imul, 1) := by decide +kernel
theorem dX8_tray_88 : decode cX8_tray 88 = .ok (.iload 4, 2) := by decide +kernel
theorem dX8_tray_90 : decode cX8_tray 90 = .ok (.iadd, 1) := by decide +kernel
theorem dX8_tray_91 : decode cX8_tray 91 = .ok (.lconst 0, 1) := by decide +kernel
theorem dX8_tray_92 : decode cX8_tray 92 = .ok (.lastore, 1) := by decide +kernel
theorem dX8_tray_93 : decode cX8_tray 93 = .ok (.iinc 4 1, 3) := by decide +kernel
theorem dX8_tray_96 : decode cX8_tray 96 = .ok (.goto (-22), 3) := by decide +kernel
theorem dX8_tray_99 : decode cX8_tray 99 = .ok (.iconst 1, 1) := by decide +kernel
theorem dX8_tray_100 : decode cX8_tray 100 = .ok (.ireturn, 1) := by decide +kernel
theorem dX8_trayed_0 : decode cX8_trayed 0 = .ok (.iload_n 1, 1) := by decide +kernel
theorem dX8_trayed_1 : decode cX8_trayed 1 = .ok (.ifCond .lt 8, 3) := by decide +kernel
theorem dX8_trayed_4 : decode cX8_trayed 4 = .ok (.iload_n 1, 1) := by decide +kernel
theorem dX8_trayed_5 : decode cX8_trayed 5 = .ok (.iconst 4, 1) := by decide +kernel
theorem dX8_trayed_6 : decode cX8_trayed 6 = .ok (.if_icmp .lt 7, 3) := by decide +kernel
theorem dX8_trayed_9 : decode cX8_trayed 9 = .ok (.iconst 1, 1) := by decide +kernel
theorem dX8_trayed_10 : decode cX8_trayed 10 = .ok (.goto 17, 3) := by decide +kernel
theorem dX8_trayed_13 : decode cX8_trayed 13 = .ok (.aload_n 0, 1) := by decide +kernel
theorem dX8_trayed_14 : decode cX8_trayed 14 = .ok (.getfield 17, 3) := by decide +kernel
theorem dX8_trayed_17 : decode cX8_trayed 17 = .ok (.iload_n 1, 1) := by decide +kernel
theorem dX8_trayed_18 : decode cX8_trayed 18 = .ok (.iaload, 1) := by decide +kernel
theorem dX8_trayed_19 : decode cX8_trayed 19 = .ok (.ifCond .ge 7, 3) := by decide +kernel
theorem dX8_trayed_22 : decode cX8_trayed 22 = .ok (.iconst 3, 1) := by decide +kernel
theorem dX8_trayed_23 : decode cX8_trayed 23 = .ok (.goto 4, 3) := by decide +kernel
theorem dX8_trayed_26 : decode cX8_trayed 26 = .ok (.iconst 0, 1) := by decide +kernel
theorem dX8_trayed_27 : decode cX8_trayed 27 = .ok (.ireturn, 1) := by decide +kernel
theorem dX8_placed_0 : decode cX8_placed 0 = .ok (.aload_n 0, 1) := by decide +kernel
theorem dX8_placed_1 : decode cX8_placed 1 = .ok (.iload_n 1, 1) := by decide +kernel
theorem dX8_placed_2 : decode cX8_placed 2 = .ok (.invokevirtual 104, 3) := by decide +kernel
theorem dX8_placed_5 : decode cX8_placed 5 = .ok (.istore_n 3, 1) := by decide +kernel
theorem dX8_placed_6 : decode cX8_placed 6 = .ok (.iload_n 3, 1) := by decide +kernel
theorem dX8_placed_7 : decode cX8_placed 7 = .ok (.ifCond .le 7, 3) := by decide +kernel
theorem dX8_placed_10 : decode cX8_placed 10 = .ok (.iload_n 3, 1) := by decide +kernel
theorem dX8_placed_11 : decode cX8_placed 11 = .ok (.goto 22, 3) := by decide +kernel
theorem dX8_placed_14 : decode cX8_placed 14 = .ok (.iload_n 2, 1) := by decide +kernel
theorem dX8_placed_15 : decode cX8_placed 15 = .ok (.ifCond .lt 13, 3) := by decide +kernel
theorem dX8_placed_18 : decode cX8_placed 18 = .ok (.iload_n 2, 1) := by decide +kernel
theorem dX8_placed_19 : decode cX8_placed 19 = .ok (.aload_n 0, 1) := by decide +kernel
theorem dX8_placed_20 : decode cX8_placed 20 = .ok (.getfield 17, 3) := by decide +kernel
theorem dX8_placed_23 : decode cX8_placed 23 = .ok (.iload_n 1, 1) := by decide +kernel
theorem dX8_placed_24 : decode cX8_placed 24 = .ok (.iaload, 1) := by decide +kernel
theorem dX8_placed_25 : decode cX8_placed 25 = .ok (.if_icmp .lt 7, 3) := by decide +kernel
theorem dX8_placed_28 : decode cX8_placed 28 = .ok (.iconst 4, 1) := by decide +kernel
theorem dX8_placed_29 : decode cX8_placed 29 = .ok (.goto 4, 3) := by decide +kernel
theorem dX8_placed_32 : decode cX8_placed 32 = .ok (.iconst 0, 1) := by decide +kernel
theorem dX8_placed_33 : decode cX8_placed 33 = .ok (.ireturn, 1) := by decide +kernel
theorem dX8_write_0 : decode cX8_write 0 = .ok (.aload_n 0, 1) := by decide +kernel
theorem dX8_write_1 : decode cX8_write 1 = .ok (.iconst 0, 1) := by decide +kernel
theorem dX8_write_2 : decode cX8_write 2 = .ok (.putfield 93, 3) := by decide +kernel
theorem dX8_write_5 : decode cX8_write 5 = .ok (.aload_n 0, 1) := by decide +kernel
theorem dX8_write_6 : decode cX8_write 6 = .ok (.aload_n 0, 1) := by decide +kernel
theorem dX8_write_7 : decode cX8_write 7 = .ok (.iload_n 1, 1) := by decide +kernel
theorem dX8_write_8 : decode cX8_write 8 = .ok (.iload_n 2, 1) := by decide +kernel
theorem dX8_write_9 : decode cX8_write 9 = .ok (.invokevirtual 108, 3) := by decide +kernel
theorem dX8_write_12 : decode cX8_write 12 = .ok (.putfield 97, 3) := by decide +kernel
theorem dX8_write_15 : decode cX8_write 15 = .ok (.aload_n 0, 1) := by decide +kernel
theorem dX8_write_16 : decode cX8_write 16 = .ok (.getfield 97, 3) := by decide +kernel
theorem dX8_write_19 : decode cX8_write 19 = .ok (.ifCond .le 5, 3) := by decide +kernel
theorem dX8_write_22 : decode cX8_write 22 = .ok (.iconst 0, 1) := by decide +kernel
theorem dX8_write_23 : decode cX8_write 23 = .ok (.ireturn, 1) := by decide +kernel
theorem dX8_write_24 : decode cX8_write 24 = .ok (.aload_n 0, 1) := by decide +kernel
theorem dX8_write_25 : decode cX8_write 25 = .ok (.getfield 20, 3) := by decide +kernel
theorem dX8_write_28 : decode cX8_write 28 = .ok (.bipush 40, 2) := by decide +kernel
theorem dX8_write_30 : decode cX8_write 30 = .ok (.iload_n 1, 1) := by decide +kernel
theorem dX8_write_31 : decode cX8_write 31 = .ok (.imul, 1) := by decide +kernel
theorem dX8_write_32 : decode cX8_write 32 = .ok (.iload_n 2, 1) := by decide +kernel
theorem dX8_write_33 : decode cX8_write 33 = .ok (.iadd, 1) := by decide +kernel
theorem dX8_write_34 : decode cX8_write 34 = .ok (.aload_n 0, 1) := by decide +kernel
theorem dX8_write_35 : decode cX8_write 35 = .ok (.getfield 13, 3) := by decide +kernel
theorem dX8_write_38 : decode cX8_write 38 = .ok (.iload_n 1, 1) := by decide +kernel
theorem dX8_write_39 : decode cX8_write 39 = .ok (.iaload, 1) := by decide +kernel
theorem dX8_write_40 : decode cX8_write 40 = .ok (.lload_n 3, 1) := by decide +kernel
theorem dX8_write_41 : decode cX8_write 41 = .ok (.invokestatic 112, 3) := by decide +kernel
theorem dX8_write_44 : decode cX8_write 44 = .ok (.lastore, 1) := by decide +kernel
theorem dX8_write_45 : decode cX8_write 45 = .ok (.iconst 1, 1) := by decide +kernel
theorem dX8_write_46 : decode cX8_write 46 = .ok (.ireturn, 1) := by decide +kernel
theorem dX8_read_0 : decode cX8_read 0 = .ok (.aload_n 0, 1) := by decide +kernel
theorem dX8_read_1 : decode cX8_read 1 = .ok (.iconst 0, 1) := by decide +kernel
theorem dX8_read_2 : decode cX8_read 2 = .ok (.putfield 93, 3) := by decide +kernel
theorem dX8_read_5 : decode cX8_read 5 = .ok (.aload_n 0, 1) := by decide +kernel
theorem dX8_read_6 : decode cX8_read 6 = .ok (.aload_n 0, 1) := by decide +kernel
theorem dX8_read_7 : decode cX8_read 7 = .ok (.iload_n 1, 1) := by decide +kernel
theorem dX8_read_8 : decode cX8_read 8 = .ok (.iload_n 2, 1) := by decide +kernel
theorem dX8_read_9 : decode cX8_read 9 = .ok (.invokevirtual 108, 3) := by decide +kernel
theorem dX8_read_12 : decode cX8_read 12 = .ok (.putfield 97, 3) := by decide +kernel
theorem dX8_read_15 : decode cX8_read 15 = .ok (.aload_n 0, 1) := by decide +kernel
theorem dX8_read_16 : decode cX8_read 16 = .ok (.getfield 97, 3) := by decide +kernel
theorem dX8_read_19 : decode cX8_read 19 = .ok (.ifCond .le 9, 3) := by decide +kernel
theorem dX8_read_22 : decode cX8_read 22 = .ok (.ldc2_w 116, 3) := by decide +kernel
theorem dX8_read_25 : decode cX8_read 25 = .ok (.goto 14, 3) := by decide +kernel
theorem dX8_read_28 : decode cX8_read 28 = .ok (.aload_n 0, 1) := by decide +kernel
theorem dX8_read_29 : decode cX8_read 29 = .ok (.getfield 20, 3) := by decide +kernel
theorem dX8_read_32 : decode cX8_read 32 = .ok (.bipush 40, 2) := by decide +kernel
theorem dX8_read_34 : decode cX8_read 34 = .ok (.iload_n 1, 1) := by decide +kernel
theorem dX8_read_35 : decode cX8_read 35 = .ok (.imul, 1) := by decide +kernel
theorem dX8_read_36 : decode cX8_read 36 = .ok (.iload_n 2, 1) := by decide +kernel
theorem dX8_read_37 : decode cX8_read 37 = .ok (.iadd, 1) := by decide +kernel
theorem dX8_read_38 : decode cX8_read 38 = .ok (.laload, 1) := by decide +kernel
theorem dX8_read_39 : decode cX8_read 39 = .ok (.lreturn, 1) := by decide +kernel
theorem dX8_pour_0 : decode cX8_pour 0 = .ok (.aload_n 0, 1) := by decide +kernel
theorem dX8_pour_1 : decode cX8_pour 1 = .ok (.iconst 0, 1) := by decide +kernel
theorem dX8_pour_2 : decode cX8_pour 2 = .ok (.putfield 93, 3) := by decide +kernel
theorem dX8_pour_5 : decode cX8_pour 5 = .ok (.aload_n 0, 1) := by decide +kernel
theorem dX8_pour_6 : decode cX8_pour 6 = .ok (.iconst 0, 1) := by decide +kernel
theorem dX8_pour_7 : decode cX8_pour 7 = .ok (.putfield 97, 3) := by decide +kernel
theorem dX8_pour_10 : decode cX8_pour 10 = .ok (.iload_n 1, 1) := by decide +kernel
theorem dX8_pour_11 : decode cX8_pour 11 = .ok (.ifCond .lt 17, 3) := by decide +kernel
theorem dX8_pour_14 : decode cX8_pour 14 = .ok (.iload_n 1, 1) := by decide +kernel
theorem dX8_pour_15 : decode cX8_pour 15 = .ok (.iconst 4, 1) := by decide +kernel
theorem dX8_pour_16 : decode cX8_pour 16 = .ok (.if_icmp .ge 12, 3) := by decide +kernel
theorem dX8_pour_19 : decode cX8_pour 19 = .ok (.iload_n 3, 1) := by decide +kernel
theorem dX8_pour_20 : decode cX8_pour 20 = .ok (.ifCond .lt 8, 3) := by decide +kernel
theorem dX8_pour_23 : decode cX8_pour 23 = .ok (.iload_n 3, 1) := by decide +kernel
theorem dX8_pour_24 : decode cX8_pour 24 = .ok (.iconst 4, 1) := by decide +kernel
theorem dX8_pour_25 : decode cX8_pour 25 = .ok (.if_icmp .lt 9, 3) := by decide +kernel
theorem dX8_pour_28 : decode cX8_pour 28 = .ok (.aload_n 0, 1) := by decide +kernel
theorem dX8_pour_29 : decode cX8_pour 29 = .ok (.iconst 1, 1) := by decide +kernel
theorem dX8_pour_30 : decode cX8_pour 30 = .ok (.invokevirtual 100, 3) := by decide +kernel
theorem dX8_pour_33 : decode cX8_pour 33 = .ok (.ireturn, 1) := by decide +kernel
theorem dX8_pour_34 : decode cX8_pour 34 = .ok (.aload_n 0, 1) := by decide +kernel
theorem dX8_pour_35 : decode cX8_pour 35 = .ok (.getfield 17, 3) := by decide +kernel
theorem dX8_pour_38 : decode cX8_pour 38 = .ok (.iload_n 1, 1) := by decide +kernel
theorem dX8_pour_39 : decode cX8_pour 39 = .ok (.iaload, 1) := by decide +kernel
theorem dX8_pour_40 : decode cX8_pour 40 = .ok (.ifCond .lt 12, 3) := by decide +kernel
theorem dX8_pour_43 : decode cX8_pour 43 = .ok (.aload_n 0, 1) := by decide +kernel
theorem dX8_pour_44 : decode cX8_pour 44 = .ok (.getfield 17, 3) := by decide +kernel
theorem dX8_pour_47 : decode cX8_pour 47 = .ok (.iload_n 3, 1) := by decide +kernel
theorem dX8_pour_48 : decode cX8_pour 48 = .ok (.iaload, 1) := by decide +kernel
theorem dX8_pour_49 : decode cX8_pour 49 = .ok (.ifCond .ge 9, 3) := by decide +kernel
theorem dX8_pour_52 : decode cX8_pour 52 = .ok (.aload_n 0, 1) := by decide +kernel
theorem dX8_pour_53 : decode cX8_pour 53 = .ok (.iconst 3, 1) := by decide +kernel
theorem dX8_pour_54 : decode cX8_pour 54 = .ok (.invokevirtual 100, 3) := by decide +kernel
theorem dX8_pour_57 : decode cX8_pour 57 = .ok (.ireturn, 1) := by decide +kernel
theorem dX8_pour_58 : decode cX8_pour 58 = .ok (.aload_n 0, 1) := by decide +kernel
theorem dX8_pour_59 : decode cX8_pour 59 = .ok (.getfield 13, 3) := by decide +kernel
theorem dX8_pour_62 : decode cX8_pour 62 = .ok (.iload_n 1, 1) := by decide +kernel
theorem dX8_pour_63 : decode cX8_pour 63 = .ok (.iaload, 1) := by decide +kernel
theorem dX8_pour_64 : decode cX8_pour 64 = .ok (.aload_n 0, 1) := by decide +kernel
theorem dX8_pour_65 : decode cX8_pour 65 = .ok (.getfield 13, 3) := by decide +kernel
theorem dX8_pour_68 : decode cX8_pour 68 = .ok (.iload_n 3, 1) := by decide +kernel
theorem dX8_pour_69 : decode cX8_pour 69 = .ok (.iaload, 1) := by decide +kernel
theorem dX8_pour_70 : decode cX8_pour 70 = .ok (.if_icmp .eq 10, 3) := by decide +kernel
theorem dX8_pour_73 : decode cX8_pour 73 = .ok (.aload_n 0, 1) := by decide +kernel
theorem dX8_pour_74 : decode cX8_pour 74 = .ok (.bipush 11, 2) := by decide +kernel
theorem dX8_pour_76 : decode cX8_pour 76 = .ok (.invokevirtual 100, 3) := by decide +kernel
theorem dX8_pour_79 : decode cX8_pour 79 = .ok (.ireturn, 1) := by decide +kernel
theorem dX8_pour_80 : decode cX8_pour 80 = .ok (.iload 5, 2) := by decide +kernel
theorem dX8_pour_82 : decode cX8_pour 82 = .ok (.ifCond .ge 10, 3) := by decide +kernel
theorem dX8_pour_85 : decode cX8_pour 85 = .ok (.aload_n 0, 1) := by decide +kernel
theorem dX8_pour_86 : decode cX8_pour 86 = .ok (.bipush 6, 2) := by decide +kernel
theorem dX8_pour_88 : decode cX8_pour 88 = .ok (.invokevirtual 100, 3) := by decide +kernel
theorem dX8_pour_91 : decode cX8_pour 91 = .ok (.ireturn, 1) := by decide +kernel
theorem dX8_pour_92 : decode cX8_pour 92 = .ok (.iload_n 2, 1) := by decide +kernel
theorem dX8_pour_93 : decode cX8_pour 93 = .ok (.ifCond .lt 43, 3) := by decide +kernel
theorem dX8_pour_96 : decode cX8_pour 96 = .ok (.iload 4, 2) := by decide +kernel
theorem dX8_pour_98 : decode cX8_pour 98 = .ok (.ifCond .lt 38, 3) := by decide +kernel
theorem dX8_pour_101 : decode cX8_pour 101 = .ok (.iload_n 2, 1) := by decide +kernel
theorem dX8_pour_102 : decode cX8_pour 102 = .ok (.i2l, 1) := by decide +kernel
theorem dX8_pour_103 : decode cX8_pour 103 = .ok (.iload 5, 2) := by decide +kernel
theorem dX8_pour_105 : decode cX8_pour 105 = .ok (.i2l, 1) := by decide +kernel
theorem dX8_pour_106 : decode cX8_pour 106 = .ok (.ladd, 1) := by decide +kernel
theorem dX8_pour_107 : decode cX8_pour 107 = .ok (.aload_n 0, 1) := by decide +kernel
theorem dX8_pour_108 : decode cX8_pour 108 = .ok (.getfield 17, 3) := by decide +kernel
theorem dX8_pour_111 : decode cX8_pour 111 = .ok (.iload_n 1, 1) := by decide +kernel
theorem dX8_pour_112 : decode cX8_pour 112 = .ok (.iaload, 1) := by decide +kernel
theorem dX8_pour_113 : decode cX8_pour 113 = .ok (.i2l, 1) := by decide +kernel
theorem dX8_pour_114 : decode cX8_pour 114 = .ok (.lcmp, 1) := by decide +kernel
theorem dX8_pour_115 : decode cX8_pour 115 = .ok (.ifCond .gt 21, 3) := by decide +kernel
theorem dX8_pour_118 : decode cX8_pour 118 = .ok (.iload 4, 2) := by decide +kernel
theorem dX8_pour_120 : decode cX8_pour 120 = .ok (.i2l, 1) := by decide +kernel
theorem dX8_pour_121 : decode cX8_pour 121 = .ok (.iload 5, 2) := by decide +kernel
theorem dX8_pour_123 : decode cX8_pour 123 = .ok (.i2l, 1) := by decide +kernel
theorem dX8_pour_124 : decode cX8_pour 124 = .ok (.ladd, 1) := by decide +kernel
theorem dX8_pour_125 : decode cX8_pour 125 = .ok (.aload_n 0, 1) := by decide +kernel
theorem dX8_pour_126 : decode cX8_pour 126 = .ok (.getfield 17, 3) := by decide +kernel
theorem dX8_pour_129 : decode cX8_pour 129 = .ok (.iload_n 3, 1) := by decide +kernel
theorem dX8_pour_130 : decode cX8_pour 130 = .ok (.iaload, 1) := by decide +kernel
theorem dX8_pour_131 : decode cX8_pour 131 = .ok (.i2l, 1) := by decide +kernel
theorem dX8_pour_132 : decode cX8_pour 132 = .ok (.lcmp, 1) := by decide +kernel
theorem dX8_pour_133 : decode cX8_pour 133 = .ok (.ifCond .le 9, 3) := by decide +kernel
theorem dX8_pour_136 : decode cX8_pour 136 = .ok (.aload_n 0, 1) := by decide +kernel
theorem dX8_pour_137 : decode cX8_pour 137 = .ok (.iconst 4, 1) := by decide +kernel
theorem dX8_pour_138 : decode cX8_pour 138 = .ok (.invokevirtual 100, 3) := by decide +kernel
theorem dX8_pour_141 : decode cX8_pour 141 = .ok (.ireturn, 1) := by decide +kernel
theorem dX8_pour_142 : decode cX8_pour 142 = .ok (.iload_n 2, 1) := by decide +kernel
theorem dX8_pour_143 : decode cX8_pour 143 = .ok (.iload 4, 2) := by decide +kernel
theorem dX8_pour_145 : decode cX8_pour 145 = .ok (.if_icmp .ge 7, 3) := by decide +kernel
theorem dX8_pour_148 : decode cX8_pour 148 = .ok (.iconst 1, 1) := by decide +kernel
theorem dX8_pour_149 : decode cX8_pour 149 = .ok (.goto 4, 3) := by decide +kernel
theorem dX8_pour_152 : decode cX8_pour 152 = .ok (.iconst 0, 1) := by decide +kernel
theorem dX8_pour_153 : decode cX8_pour 153 = .ok (.istore 6, 2) := by decide +kernel
theorem dX8_pour_155 : decode cX8_pour 155 = .ok (.iconst 0, 1) := by decide +kernel
theorem dX8_pour_156 : decode cX8_pour 156 = .ok (.istore 7, 2) := by decide +kernel
theorem dX8_pour_158 : decode cX8_pour 158 = .ok (.iload 7, 2) := by decide +kernel
theorem dX8_pour_160 : decode cX8_pour 160 = .ok (.iload 5, 2) := by decide +kernel
theorem dX8_pour_162 : decode cX8_pour 162 = .ok (.if_icmp .ge 57, 3) := by decide +kernel
theorem dX8_pour_165 : decode cX8_pour 165 = .ok (.iload 6, 2) := by decide +kernel
theorem dX8_pour_167 : decode cX8_pour 167 = .ok (.ifCond .eq 13, 3) := by decide +kernel
theorem dX8_pour_170 : decode cX8_pour 170 = .ok (.iload 5, 2) := by decide +kernel
theorem dX8_pour_172 : decode cX8_pour 172 = .ok (.iconst 1, 1) := by decide +kernel
theorem dX8_pour_173 : decode cX8_pour 173 = .ok (.isub, 1) := by decide +kernel
theorem dX8_pour_174 : decode cX8_pour 174 = .ok (.iload 7, 2) := by decide +kernel
theorem dX8_pour_176 : decode cX8_pour 176 = .ok (.isub, 1) := by decide +kernel
theorem dX8_pour_177 : decode cX8_pour 177 = .ok (.goto 5, 3) := by decide +kernel
theorem dX8_pour_180 : decode cX8_pour 180 = .ok (.iload 7, 2) := by decide +kernel
theorem dX8_pour_182 : decode cX8_pour 182 = .ok (.istore 8, 2) := by decide +kernel
theorem dX8_pour_184 : decode cX8_pour 184 = .ok (.aload_n 0, 1) := by decide +kernel
theorem dX8_pour_185 : decode cX8_pour 185 = .ok (.getfield 20, 3) := by decide +kernel
theorem dX8_pour_188 : decode cX8_pour 188 = .ok (.bipush 40, 2) := by decide +kernel
theorem dX8_pour_190 : decode cX8_pour 190 = .ok (.iload_n 3, 1) := by decide +kernel
theorem dX8_pour_191 : decode cX8_pour 191 = .ok (.imul, 1) := by decide +kernel
theorem dX8_pour_192 : decode cX8_pour 192 = .ok (.iload 4, 2) := by decide +kernel
theorem dX8_pour_194 : decode cX8_pour 194 = .ok (.iadd, 1) := by decide +kernel
theorem dX8_pour_195 : decode cX8_pour 195 = .ok (.iload 8, 2) := by decide +kernel
theorem dX8_pour_197 : decode cX8_pour 197 = .ok (.iadd, 1) := by decide +kernel
theorem dX8_pour_198 : decode cX8_pour 198 = .ok (.aload_n 0, 1) := by decide +kernel
theorem dX8_pour_199 : decode cX8_pour 199 = .ok (.getfield 20, 3) := by decide +kernel
theorem dX8_pour_202 : decode cX8_pour 202 = .ok (.bipush 40, 2) := by decide +kernel
theorem dX8_pour_204 : decode cX8_pour 204 = .ok (.iload_n 1, 1) := by decide +kernel
theorem dX8_pour_205 : decode cX8_pour 205 = .ok (.imul, 1) := by decide +kernel
theorem dX8_pour_206 : decode cX8_pour 206 = .ok (.iload_n 2, 1) := by decide +kernel
theorem dX8_pour_207 : decode cX8_pour 207 = .ok (.iadd, 1) := by decide +kernel
theorem dX8_pour_208 : decode cX8_pour 208 = .ok (.iload 8, 2) := by decide +kernel
theorem dX8_pour_210 : decode cX8_pour 210 = .ok (.iadd, 1) := by decide +kernel
theorem dX8_pour_211 : decode cX8_pour 211 = .ok (.laload, 1) := by decide +kernel
theorem dX8_pour_212 : decode cX8_pour 212 = .ok (.lastore, 1) := by decide +kernel
theorem dX8_pour_213 : decode cX8_pour 213 = .ok (.iinc 7 1, 3) := by decide +kernel
theorem dX8_pour_216 : decode cX8_pour 216 = .ok (.goto (-58), 3) := by decide +kernel
theorem dX8_pour_219 : decode cX8_pour 219 = .ok (.iconst 1, 1) := by decide +kernel
theorem dX8_pour_220 : decode cX8_pour 220 = .ok (.ireturn, 1) := by decide +kernel
theorem dX8_isThing_0 : decode cX8_isThing 0 = .ok (.iload_n 1, 1) := by decide +kernel
theorem dX8_isThing_1 : decode cX8_isThing 1 = .ok (.ifCond .lt 15, 3) := by decide +kernel
theorem dX8_isThing_4 : decode cX8_isThing 4 = .ok (.iload_n 1, 1) := by decide +kernel
theorem dX8_isThing_5 : decode cX8_isThing 5 = .ok (.aload_n 0, 1) := by decide +kernel
theorem dX8_isThing_6 : decode cX8_isThing 6 = .ok (.getfield 118, 3) := by decide +kernel
theorem dX8_isThing_9 : decode cX8_isThing 9 = .ok (.if_icmp .ge 7, 3) := by decide +kernel
theorem dX8_isThing_12 : decode cX8_isThing 12 = .ok (.iconst 1, 1) := by decide +kernel
theorem dX8_isThing_13 : decode cX8_isThing 13 = .ok (.goto 4, 3) := by decide +kernel
theorem dX8_isThing_16 : decode cX8_isThing 16 = .ok (.iconst 0, 1) := by decide +kernel
theorem dX8_isThing_17 : decode cX8_isThing 17 = .ok (.ireturn, 1) := by decide +kernel
theorem dX8_thing_0 : decode cX8_thing 0 = .ok (.aload_n 0, 1) := by decide +kernel
theorem dX8_thing_1 : decode cX8_thing 1 = .ok (.iconst 0, 1) := by decide +kernel
theorem dX8_thing_2 : decode cX8_thing 2 = .ok (.putfield 93, 3) := by decide +kernel
theorem dX8_thing_5 : decode cX8_thing 5 = .ok (.aload_n 0, 1) := by decide +kernel
theorem dX8_thing_6 : decode cX8_thing 6 = .ok (.iconst 0, 1) := by decide +kernel
theorem dX8_thing_7 : decode cX8_thing 7 = .ok (.putfield 97, 3) := by decide +kernel
theorem dX8_thing_10 : decode cX8_thing 10 = .ok (.iload_n 1, 1) := by decide +kernel
theorem dX8_thing_11 : decode cX8_thing 11 = .ok (.ifCond .lt 8, 3) := by decide +kernel
theorem dX8_thing_14 : decode cX8_thing 14 = .ok (.iload_n 1, 1) := by decide +kernel
theorem dX8_thing_15 : decode cX8_thing 15 = .ok (.iconst 3, 1) := by decide +kernel
theorem dX8_thing_16 : decode cX8_thing 16 = .ok (.if_icmp .le 9, 3) := by decide +kernel
theorem dX8_thing_19 : decode cX8_thing 19 = .ok (.aload_n 0, 1) := by decide +kernel
theorem dX8_thing_20 : decode cX8_thing 20 = .ok (.iconst 5, 1) := by decide +kernel
theorem dX8_thing_21 : decode cX8_thing 21 = .ok (.invokevirtual 121, 3) := by decide +kernel
theorem dX8_thing_24 : decode cX8_thing 24 = .ok (.ireturn, 1) := by decide +kernel
theorem dX8_thing_25 : decode cX8_thing 25 = .ok (.iload_n 1, 1) := by decide +kernel
theorem dX8_thing_26 : decode cX8_thing 26 = .ok (.ifCond .ne 11, 3) := by decide +kernel
theorem dX8_thing_29 : decode cX8_thing 29 = .ok (.iload_n 2, 1) := by decide +kernel
theorem dX8_thing_30 : decode cX8_thing 30 = .ok (.iconst (-1), 1) := by decide +kernel
theorem dX8_thing_31 : decode cX8_thing 31 = .ok (.if_icmp .eq 20, 3) := by decide +kernel
theorem dX8_thing_34 : decode cX8_thing 34 = .ok (.goto 11, 3) := by decide +kernel
theorem dX8_thing_37 : decode cX8_thing 37 = .ok (.aload_n 0, 1) := by decide +kernel
theorem dX8_thing_38 : decode cX8_thing 38 = .ok (.iload_n 2, 1) := by decide +kernel
theorem dX8_thing_39 : decode cX8_thing 39 = .ok (.invokevirtual 124, 3) := by decide +kernel
theorem dX8_thing_42 : decode cX8_thing 42 = .ok (.ifCond .ne 9, 3) := by decide +kernel
theorem dX8_thing_45 : decode cX8_thing 45 = .ok (.aload_n 0, 1) := by decide +kernel
theorem dX8_thing_46 : decode cX8_thing 46 = .ok (.iconst 2, 1) := by decide +kernel
theorem dX8_thing_47 : decode cX8_thing 47 = .ok (.invokevirtual 121, 3) := by decide +kernel
theorem dX8_thing_50 : decode cX8_thing 50 = .ok (.ireturn, 1) := by decide +kernel
theorem dX8_thing_51 : decode cX8_thing 51 = .ok (.iload_n 1, 1) := by decide +kernel
theorem dX8_thing_52 : decode cX8_thing 52 = .ok (.ifCond .le 37, 3) := by decide +kernel
theorem dX8_thing_55 : decode cX8_thing 55 = .ok (.aload_n 0, 1) := by decide +kernel
theorem dX8_thing_56 : decode cX8_thing 56 = .ok (.getfield 24, 3) := by decide +kernel
theorem dX8_thing_59 : decode cX8_thing 59 = .ok (.iload_n 2, 1) := by decide +kernel
theorem dX8_thing_60 : decode cX8_thing 60 = .ok (.iaload, 1) := by decide +kernel
theorem dX8_thing_61 : decode cX8_thing 61 = .ok (.iload_n 1, 1) := by decide +kernel
theorem dX8_thing_62 : decode cX8_thing 62 = .ok (.iconst 1, 1) := by decide +kernel
theorem dX8_thing_63 : decode cX8_thing 63 = .ok (.isub, 1) := by decide +kernel
theorem dX8_thing_64 : decode cX8_thing 64 = .ok (.if_icmp .eq 25, 3) := by decide +kernel
theorem dX8_thing_67 : decode cX8_thing 67 = .ok (.iload_n 1, 1) := by decide +kernel
theorem dX8_thing_68 : decode cX8_thing 68 = .ok (.iconst 3, 1) := by decide +kernel
theorem dX8_thing_69 : decode cX8_thing 69 = .ok (.if_icmp .ne 13, 3) := by decide +kernel
theorem dX8_thing_72 : decode cX8_thing 72 = .ok (.aload_n 0, 1) := by decide +kernel
theorem dX8_thing_73 : decode cX8_thing 73 = .ok (.getfield 24, 3) := by decide +kernel
theorem dX8_thing_76 : decode cX8_thing 76 = .ok (.iload_n 2, 1) := by decide +kernel
theorem dX8_thing_77 : decode cX8_thing 77 = .ok (.iaload, 1) := by decide +kernel
theorem dX8_thing_78 : decode cX8_thing 78 = .ok (.iconst 1, 1) := by decide +kernel
theorem dX8_thing_79 : decode cX8_thing 79 = .ok (.if_icmp .eq 10, 3) := by decide +kernel
theorem dX8_thing_82 : decode cX8_thing 82 = .ok (.aload_n 0, 1) := by decide +kernel
theorem dX8_thing_83 : decode cX8_thing 83 = .ok (.bipush 8, 2) := by decide +kernel
theorem dX8_thing_85 : decode cX8_thing 85 = .ok (.invokevirtual 121, 3) := by decide +kernel
theorem dX8_thing_88 : decode cX8_thing 88 = .ok (.ireturn, 1) := by decide +kernel
theorem dX8_thing_89 : decode cX8_thing 89 = .ok (.aload_n 0, 1) := by decide +kernel
theorem dX8_thing_90 : decode cX8_thing 90 = .ok (.getfield 118, 3) := by decide +kernel
theorem dX8_thing_93 : decode cX8_thing 93 = .ok (.bipush 80, 2) := by decide +kernel
theorem dX8_thing_95 : decode cX8_thing 95 = .ok (.if_icmp .ne 10, 3) := by decide +kernel
theorem dX8_thing_98 : decode cX8_thing 98 = .ok (.aload_n 0, 1) := by decide +kernel
theorem dX8_thing_99 : decode cX8_thing 99 = .ok (.bipush 7, 2) := by decide +kernel
theorem dX8_thing_101 : decode cX8_thing 101 = .ok (.invokevirtual 121, 3) := by decide +kernel
theorem dX8_thing_104 : decode cX8_thing 104 = .ok (.ireturn, 1) := by decide +kernel
theorem dX8_thing_105 : decode cX8_thing 105 = .ok (.aload_n 0, 1) := by decide +kernel
theorem dX8_thing_106 : decode cX8_thing 106 = .ok (.getfield 118, 3) := by decide +kernel
theorem dX8_thing_109 : decode cX8_thing 109 = .ok (.istore_n 3, 1) := by decide +kernel
theorem dX8_thing_110 : decode cX8_thing 110 = .ok (.aload_n 0, 1) := by decide +kernel
theorem dX8_thing_111 : decode cX8_thing 111 = .ok (.getfield 24, 3) := by decide +kernel
theorem dX8_thing_114 : decode cX8_thing 114 = .ok (.iload_n 3, 1) := by decide +kernel
theorem dX8_thing_115 : decode cX8_thing 115 = .ok (.iload_n 1, 1) := by decide +kernel
theorem dX8_thing_116 : decode cX8_thing 116 = .ok (.iastore, 1) := by decide +kernel
theorem dX8_thing_117 : decode cX8_thing 117 = .ok (.aload_n 0, 1) := by decide +kernel
theorem dX8_thing_118 : decode cX8_thing 118 = .ok (.getfield 27, 3) := by decide +kernel
theorem dX8_thing_121 : decode cX8_thing 121 = .ok (.iload_n 3, 1) := by decide +kernel
theorem dX8_thing_122 : decode cX8_thing 122 = .ok (.iload_n 2, 1) := by decide +kernel
theorem dX8_thing_123 : decode cX8_thing 123 = .ok (.iastore, 1) := by decide +kernel
theorem dX8_thing_124 : decode cX8_thing 124 = .ok (.aload_n 0, 1) := by decide +kernel
theorem dX8_thing_125 : decode cX8_thing 125 = .ok (.getfield 30, 3) := by decide +kernel
theorem dX8_thing_128 : decode cX8_thing 128 = .ok (.iload_n 3, 1) := by decide +kernel
theorem dX8_thing_129 : decode cX8_thing 129 = .ok (.iconst (-1), 1) := by decide +kernel
theorem dX8_thing_130 : decode cX8_thing 130 = .ok (.iastore, 1) := by decide +kernel
theorem dX8_thing_131 : decode cX8_thing 131 = .ok (.aload_n 0, 1) := by decide +kernel
theorem dX8_thing_132 : decode cX8_thing 132 = .ok (.getfield 33, 3) := by decide +kernel
theorem dX8_thing_135 : decode cX8_thing 135 = .ok (.iload_n 3, 1) := by decide +kernel
theorem dX8_thing_136 : decode cX8_thing 136 = .ok (.iload_n 3, 1) := by decide +kernel
theorem dX8_thing_137 : decode cX8_thing 137 = .ok (.iastore, 1) := by decide +kernel
theorem dX8_thing_138 : decode cX8_thing 138 = .ok (.iconst 0, 1) := by decide +kernel
theorem dX8_thing_139 : decode cX8_thing 139 = .ok (.istore 4, 2) := by decide +kernel
theorem dX8_thing_141 : decode cX8_thing 141 = .ok (.iload 4, 2) := by decide +kernel
theorem dX8_thing_143 : decode cX8_thing 143 = .ok (.bipush 6, 2) := by decide +kernel
theorem dX8_thing_145 : decode cX8_thing 145 = .ok (.if_icmp .ge 22, 3) := by decide +kernel
theorem dX8_thing_148 : decode cX8_thing 148 = .ok (.aload_n 0, 1) := by decide +kernel
theorem dX8_thing_149 : decode cX8_thing 149 = .ok (.getfield 36, 3) := by decide +kernel
theorem dX8_thing_152 : decode cX8_thing 152 = .ok (.bipush 6, 2) := by decide +kernel
theorem dX8_thing_154 : decode cX8_thing 154 = .ok (.iload_n 3, 1) := by decide +kernel
theorem dX8_thing_155 : decode cX8_thing 155 = .ok (.imul, 1) := by decide +kernel
theorem dX8_thing_156 : decode cX8_thing 156 = .ok (.iload 4, 2) := by decide +kernel
theorem dX8_thing_158 : decode cX8_thing 158 = .ok (.iadd, 1) := by decide +kernel
theorem dX8_thing_159 : decode cX8_thing 159 = .ok (.iconst (-1), 1) := by decide +kernel
theorem dX8_thing_160 : decode cX8_thing 160 = .ok (.iastore, 1) := by decide +kernel
theorem dX8_thing_161 : decode cX8_thing 161 = .ok (.iinc 4 1, 3) := by decide +kernel
theorem dX8_thing_164 : decode cX8_thing 164 = .ok (.goto (-23), 3) := by decide +kernel
theorem dX8_thing_167 : decode cX8_thing 167 = .ok (.aload_n 0, 1) := by decide +kernel
theorem dX8_thing_168 : decode cX8_thing 168 = .ok (.getfield 39, 3) := by decide +kernel
theorem dX8_thing_171 : decode cX8_thing 171 = .ok (.iload_n 3, 1) := by decide +kernel
theorem dX8_thing_172 : decode cX8_thing 172 = .ok (.iconst (-1), 1) := by decide +kernel
theorem dX8_thing_173 : decode cX8_thing 173 = .ok (.iastore, 1) := by decide +kernel
theorem dX8_thing_174 : decode cX8_thing 174 = .ok (.aload_n 0, 1) := by decide +kernel
theorem dX8_thing_175 : decode cX8_thing 175 = .ok (.getfield 45, 3) := by decide +kernel
theorem dX8_thing_178 : decode cX8_thing 178 = .ok (.iload_n 3, 1) := by decide +kernel
theorem dX8_thing_179 : decode cX8_thing 179 = .ok (.iconst (-1), 1) := by decide +kernel
theorem dX8_thing_180 : decode cX8_thing 180 = .ok (.iastore, 1) := by decide +kernel
theorem dX8_thing_181 : decode cX8_thing 181 = .ok (.aload_n 0, 1) := by decide +kernel
theorem dX8_thing_182 : decode cX8_thing 182 = .ok (.getfield 51, 3) := by decide +kernel
theorem dX8_thing_185 : decode cX8_thing 185 = .ok (.iload_n 3, 1) := by decide +kernel
theorem dX8_thing_186 : decode cX8_thing 186 = .ok (.iconst (-1), 1) := by decide +kernel
theorem dX8_thing_187 : decode cX8_thing 187 = .ok (.iastore, 1) := by decide +kernel
theorem dX8_thing_188 : decode cX8_thing 188 = .ok (.aload_n 0, 1) := by decide +kernel
theorem dX8_thing_189 : decode cX8_thing 189 = .ok (.getfield 54, 3) := by decide +kernel
theorem dX8_thing_192 : decode cX8_thing 192 = .ok (.iload_n 3, 1) := by decide +kernel
theorem dX8_thing_193 : decode cX8_thing 193 = .ok (.iconst (-1), 1) := by decide +kernel
theorem dX8_thing_194 : decode cX8_thing 194 = .ok (.iastore, 1) := by decide +kernel
theorem dX8_thing_195 : decode cX8_thing 195 = .ok (.aload_n 0, 1) := by decide +kernel
theorem dX8_thing_196 : decode cX8_thing 196 = .ok (.getfield 57, 3) := by decide +kernel
theorem dX8_thing_199 : decode cX8_thing 199 = .ok (.iload_n 3, 1) := by decide +kernel
theorem dX8_thing_200 : decode cX8_thing 200 = .ok (.iconst (-1), 1) := by decide +kernel
theorem dX8_thing_201 : decode cX8_thing 201 = .ok (.iastore, 1) := by decide +kernel
theorem dX8_thing_202 : decode cX8_thing 202 = .ok (.aload_n 0, 1) := by decide +kernel
theorem dX8_thing_203 : decode cX8_thing 203 = .ok (.dup, 1) := by decide +kernel
theorem dX8_thing_204 : decode cX8_thing 204 = .ok (.getfield 118, 3) := by decide +kernel
theorem dX8_thing_207 : decode cX8_thing 207 = .ok (.iconst 1, 1) := by decide +kernel
theorem dX8_thing_208 : decode cX8_thing 208 = .ok (.iadd, 1) := by decide +kernel
theorem dX8_thing_209 : decode cX8_thing 209 = .ok (.putfield 118, 3) := by decide +kernel
theorem dX8_thing_212 : decode cX8_thing 212 = .ok (.iload_n 3, 1) := by decide +kernel
theorem dX8_thing_213 : decode cX8_thing 213 = .ok (.ireturn, 1) := by decide +kernel
theorem dX8_told_0 : decode cX8_told 0 = .ok (.aload_n 0, 1) := by decide +kernel
theorem dX8_told_1 : decode cX8_told 1 = .ok (.iconst 0, 1) := by decide +kernel
theorem dX8_told_2 : decode cX8_told 2 = .ok (.putfield 93, 3) := by decide +kernel
theorem dX8_told_5 : decode cX8_told 5 = .ok (.aload_n 0, 1) := by decide +kernel
theorem dX8_told_6 : decode cX8_told 6 = .ok (.iconst 0, 1) := by decide +kernel
theorem dX8_told_7 : decode cX8_told 7 = .ok (.putfield 97, 3) := by decide +kernel
theorem dX8_told_10 : decode cX8_told 10 = .ok (.aload_n 0, 1) := by decide +kernel
theorem dX8_told_11 : decode cX8_told 11 = .ok (.iload_n 1, 1) := by decide +kernel
theorem dX8_told_12 : decode cX8_told 12 = .ok (.invokevirtual 124, 3) := by decide +kernel
theorem dX8_told_15 : decode cX8_told 15 = .ok (.ifCond .ne 9, 3) := by decide +kernel
theorem dX8_told_18 : decode cX8_told 18 = .ok (.aload_n 0, 1) := by decide +kernel
theorem dX8_told_19 : decode cX8_told 19 = .ok (.iconst 2, 1) := by decide +kernel
theorem dX8_told_20 : decode cX8_told 20 = .ok (.invokevirtual 121, 3) := by decide +kernel
theorem dX8_told_23 : decode cX8_told 23 = .ok (.ireturn, 1) := by decide +kernel
theorem dX8_told_24 : decode cX8_told 24 = .ok (.iload_n 2, 1) := by decide +kernel
theorem dX8_told_25 : decode cX8_told 25 = .ok (.tableswitch 126 0 6 #[43, 50, 57, 98, 105, 112, 119], 43) := by decide +kernel
theorem dX8_told_68 : decode cX8_told 68 = .ok (.aload_n 0, 1) := by decide +kernel
theorem dX8_told_69 : decode cX8_told 69 = .ok (.getfield 24, 3) := by decide +kernel
theorem dX8_told_72 : decode cX8_told 72 = .ok (.iload_n 1, 1) := by decide +kernel
theorem dX8_told_73 : decode cX8_told 73 = .ok (.iaload, 1) := by decide +kernel
theorem dX8_told_74 : decode cX8_told 74 = .ok (.ireturn, 1) := by decide +kernel
theorem dX8_told_75 : decode cX8_told 75 = .ok (.aload_n 0, 1) := by decide +kernel
theorem dX8_told_76 : decode cX8_told 76 = .ok (.getfield 27, 3) := by decide +kernel
theorem dX8_told_79 : decode cX8_told 79 = .ok (.iload_n 1, 1) := by decide +kernel
theorem dX8_told_80 : decode cX8_told 80 = .ok (.iaload, 1) := by decide +kernel
theorem dX8_told_81 : decode cX8_told 81 = .ok (.ireturn, 1) := by decide +kernel
theorem dX8_told_82 : decode cX8_told 82 = .ok (.iconst 0, 1) := by decide +kernel
theorem dX8_told_83 : decode cX8_told 83 = .ok (.istore_n 3, 1) := by decide +kernel
theorem dX8_told_84 : decode cX8_told 84 = .ok (.iconst 0, 1) := by decide +kernel
theorem dX8_told_85 : decode cX8_told 85 = .ok (.istore 4, 2) := by decide +kernel
theorem dX8_told_87 : decode cX8_told 87 = .ok (.iload 4, 2) := by decide +kernel
theorem dX8_told_89 : decode cX8_told 89 = .ok (.aload_n 0, 1) := by decide +kernel
theorem dX8_told_90 : decode cX8_told 90 = .ok (.getfield 118, 3) := by decide +kernel
theorem dX8_told_93 : decode cX8_told 93 = .ok (.if_icmp .ge 28, 3) := by decide +kernel
theorem dX8_told_96 : decode cX8_told 96 = .ok (.iload_n 3, 1) := by decide +kernel
theorem dX8_told_97 : decode cX8_told 97 = .ok (.aload_n 0, 1) := by decide +kernel
theorem dX8_told_98 : decode cX8_told 98 = .ok (.getfield 27, 3) := by decide +kernel
theorem dX8_told_101 : decode cX8_told 101 = .ok (.iload 4, 2) := by decide +kernel
theorem dX8_told_103 : decode cX8_told 103 = .ok (.iaload, 1) := by decide +kernel
theorem dX8_told_104 : decode cX8_told 104 = .ok (.iload_n 1, 1) := by decide +kernel
theorem dX8_told_105 : decode cX8_told 105 = .ok (.if_icmp .ne 7, 3) := by decide +kernel
theorem dX8_told_108 : decode cX8_told 108 = .ok (.iconst 1, 1) := by decide +kernel
theorem dX8_told_109 : decode cX8_told 109 = .ok (.goto 4, 3) := by decide +kernel
theorem dX8_told_112 : decode cX8_told 112 = .ok (.iconst 0, 1) := by decide +kernel
theorem dX8_told_113 : decode cX8_told 113 = .ok (.iadd, 1) := by decide +kernel
theorem dX8_told_114 : decode cX8_told 114 = .ok (.istore_n 3, 1) := by decide +kernel
theorem dX8_told_115 : decode cX8_told 115 = .ok (.iinc 4 1, 3) := by decide +kernel
theorem dX8_told_118 : decode cX8_told 118 = .ok (.goto (-31), 3) := by decide +kernel
theorem dX8_told_121 : decode cX8_told 121 = .ok (.iload_n 3, 1) := by decide +kernel
theorem dX8_told_122 : decode cX8_told 122 = .ok (.ireturn, 1) := by decide +kernel
theorem dX8_told_123 : decode cX8_told 123 = .ok (.aload_n 0, 1) := by decide +kernel
theorem dX8_told_124 : decode cX8_told 124 = .ok (.getfield 30, 3) := by decide +kernel
theorem dX8_told_127 : decode cX8_told 127 = .ok (.iload_n 1, 1) := by decide +kernel
theorem dX8_told_128 : decode cX8_told 128 = .ok (.iaload, 1) := by decide +kernel
theorem dX8_told_129 : decode cX8_told 129 = .ok (.ireturn, 1) := by decide +kernel
theorem dX8_told_130 : decode cX8_told 130 = .ok (.aload_n 0, 1) := by decide +kernel
theorem dX8_told_131 : decode cX8_told 131 = .ok (.getfield 54, 3) := by decide +kernel
theorem dX8_told_134 : decode cX8_told 134 = .ok (.iload_n 1, 1) := by decide +kernel
theorem dX8_told_135 : decode cX8_told 135 = .ok (.iaload, 1) := by decide +kernel
theorem dX8_told_136 : decode cX8_told 136 = .ok (.ireturn, 1) := by decide +kernel
theorem dX8_told_137 : decode cX8_told 137 = .ok (.aload_n 0, 1) := by decide +kernel
theorem dX8_told_138 : decode cX8_told 138 = .ok (.getfield 57, 3) := by decide +kernel
theorem dX8_told_141 : decode cX8_told 141 = .ok (.iload_n 1, 1) := by decide +kernel
theorem dX8_told_142 : decode cX8_told 142 = .ok (.iaload, 1) := by decide +kernel
theorem dX8_told_143 : decode cX8_told 143 = .ok (.ireturn, 1) := by decide +kernel
theorem dX8_told_144 : decode cX8_told 144 = .ok (.aload_n 0, 1) := by decide +kernel
theorem dX8_told_145 : decode cX8_told 145 = .ok (.getfield 51, 3) := by decide +kernel
theorem dX8_told_148 : decode cX8_told 148 = .ok (.iload_n 1, 1) := by decide +kernel
theorem dX8_told_149 : decode cX8_told 149 = .ok (.iaload, 1) := by decide +kernel
theorem dX8_told_150 : decode cX8_told 150 = .ok (.ireturn, 1) := by decide +kernel
theorem dX8_told_151 : decode cX8_told 151 = .ok (.aload_n 0, 1) := by decide +kernel
theorem dX8_told_152 : decode cX8_told 152 = .ok (.iconst 5, 1) := by decide +kernel
theorem dX8_told_153 : decode cX8_told 153 = .ok (.invokevirtual 121, 3) := by decide +kernel
theorem dX8_told_156 : decode cX8_told 156 = .ok (.ireturn, 1) := by decide +kernel
theorem dX8_isField_0 : decode cX8_isField 0 = .ok (.iload_n 0, 1) := by decide +kernel
theorem dX8_isField_1 : decode cX8_isField 1 = .ok (.ifCond .lt 13, 3) := by decide +kernel
theorem dX8_isField_4 : decode cX8_isField 4 = .ok (.iload_n 0, 1) := by decide +kernel
theorem dX8_isField_5 : decode cX8_isField 5 = .ok (.bipush 6, 2) := by decide +kernel
theorem dX8_isField_7 : decode cX8_isField 7 = .ok (.if_icmp .ge 7, 3) := by decide +kernel
theorem dX8_isField_10 : decode cX8_isField 10 = .ok (.iconst 1, 1) := by decide +kernel
theorem dX8_isField_11 : decode cX8_isField 11 = .ok (.goto 4, 3) := by decide +kernel
theorem dX8_isField_14 : decode cX8_isField 14 = .ok (.iconst 0, 1) := by decide +kernel
theorem dX8_isField_15 : decode cX8_isField 15 = .ok (.ireturn, 1) := by decide +kernel
theorem dX8_say_0 : decode cX8_say 0 = .ok (.aload_n 0, 1) := by decide +kernel
theorem dX8_say_1 : decode cX8_say 1 = .ok (.iconst 0, 1) := by decide +kernel
theorem dX8_say_2 : decode cX8_say 2 = .ok (.putfield 93, 3) := by decide +kernel
theorem dX8_say_5 : decode cX8_say 5 = .ok (.aload_n 0, 1) := by decide +kernel
theorem dX8_say_6 : decode cX8_say 6 = .ok (.iconst 0, 1) := by decide +kernel
theorem dX8_say_7 : decode cX8_say 7 = .ok (.putfield 97, 3) := by decide +kernel
theorem dX8_say_10 : decode cX8_say 10 = .ok (.aload_n 0, 1) := by decide +kernel
theorem dX8_say_11 : decode cX8_say 11 = .ok (.iload_n 1, 1) := by decide +kernel
theorem dX8_say_12 : decode cX8_say 12 = .ok (.invokevirtual 124, 3) := by decide +kernel
theorem dX8_say_15 : decode cX8_say 15 = .ok (.ifCond .eq 10, 3) := by decide +kernel
theorem dX8_say_18 : decode cX8_say 18 = .ok (.iload_n 2, 1) := by decide +kernel
theorem dX8_say_19 : decode cX8_say 19 = .ok (.invokestatic 127, 3) := by decide +kernel
theorem dX8_say_22 : decode cX8_say 22 = .ok (.ifCond .ne 9, 3) := by decide +kernel
theorem dX8_say_25 : decode cX8_say 25 = .ok (.aload_n 0, 1) := by decide +kernel
theorem dX8_say_26 : decode cX8_say 26 = .ok (.iconst 2, 1) := by decide +kernel
theorem dX8_say_27 : decode cX8_say 27 = .ok (.invokevirtual 100, 3) := by decide +kernel
theorem dX8_say_30 : decode cX8_say 30 = .ok (.ireturn, 1) := by decide +kernel
theorem dX8_say_31 : decode cX8_say 31 = .ok (.iload_n 3, 1) := by decide +kernel
theorem dX8_say_32 : decode cX8_say 32 = .ok (.iconst (-1), 1) := by decide +kernel
theorem dX8_say_33 : decode cX8_say 33 = .ok (.if_icmp .lt 10, 3) := by decide +kernel
theorem dX8_say_36 : decode cX8_say 36 = .ok (.iload_n 3, 1) := by decide +kernel
theorem dX8_say_37 : decode cX8_say 37 = .ok (.sipush 999, 3) := by decide +kernel
theorem dX8_say_40 : decode cX8_say 40 = .ok (.if_icmp .le 9, 3) := by decide +kernel
theorem dX8_say_43 : decode cX8_say 43 = .ok (.aload_n 0, 1) := by decide +kernel
theorem dX8_say_44 : decode cX8_say 44 = .ok (.iconst 5, 1) := by decide +kernel
theorem dX8_say_45 : decode cX8_say 45 = .ok (.invokevirtual 100, 3) := by decide +kernel
theorem dX8_say_48 : decode cX8_say 48 = .ok (.ireturn, 1) := by decide +kernel
theorem dX8_say_49 : decode cX8_say 49 = .ok (.aload_n 0, 1) := by decide +kernel
theorem dX8_say_50 : decode cX8_say 50 = .ok (.getfield 36, 3) := by decide +kernel
theorem dX8_say_53 : decode cX8_say 53 = .ok (.bipush 6, 2) := by decide +kernel
theorem dX8_say_55 : decode cX8_say 55 = .ok (.iload_n 1, 1) := by decide +kernel
theorem dX8_say_56 : decode cX8_say 56 = .ok (.imul, 1) := by decide +kernel
theorem dX8_say_57 : decode cX8_say 57 = .ok (.iload_n 2, 1) := by decide +kernel
theorem dX8_say_58 : decode cX8_say 58 = .ok (.iadd, 1) := by decide +kernel
theorem dX8_say_59 : decode cX8_say 59 = .ok (.iload_n 3, 1) := by decide +kernel
theorem dX8_say_60 : decode cX8_say 60 = .ok (.iastore, 1) := by decide +kernel
theorem dX8_say_61 : decode cX8_say 61 = .ok (.iconst 1, 1) := by decide +kernel
theorem dX8_say_62 : decode cX8_say 62 = .ok (.ireturn, 1) := by decide +kernel
theorem dX8_hasOf_0 : decode cX8_hasOf 0 = .ok (.iload_n 1, 1) := by decide +kernel
theorem dX8_hasOf_1 : decode cX8_hasOf 1 = .ok (.istore_n 3, 1) := by decide +kernel
theorem dX8_hasOf_2 : decode cX8_hasOf 2 = .ok (.iload_n 3, 1) := by decide +kernel
theorem dX8_hasOf_3 : decode cX8_hasOf 3 = .ok (.ifCond .lt 27, 3) := by decide +kernel
theorem dX8_hasOf_6 : decode cX8_hasOf 6 = .ok (.aload_n 0, 1) := by decide +kernel
theorem dX8_hasOf_7 : decode cX8_hasOf 7 = .ok (.getfield 36, 3) := by decide +kernel
theorem dX8_hasOf_10 : decode cX8_hasOf 10 = .ok (.bipush 6, 2) := by decide +kernel
theorem dX8_hasOf_12 : decode cX8_hasOf 12 = .ok (.iload_n 3, 1) := by decide +kernel
theorem dX8_hasOf_13 : decode cX8_hasOf 13 = .ok (.imul, 1) := by decide +kernel
theorem dX8_hasOf_14 : decode cX8_hasOf 14 = .ok (.iload_n 2, 1) := by decide +kernel
theorem dX8_hasOf_15 : decode cX8_hasOf 15 = .ok (.iadd, 1) := by decide +kernel
theorem dX8_hasOf_16 : decode cX8_hasOf 16 = .ok (.iaload, 1) := by decide +kernel
theorem dX8_hasOf_17 : decode cX8_hasOf 17 = .ok (.ifCond .ge 13, 3) := by decide +kernel
theorem dX8_hasOf_20 : decode cX8_hasOf 20 = .ok (.aload_n 0, 1) := by decide +kernel
theorem dX8_hasOf_21 : decode cX8_hasOf 21 = .ok (.getfield 27, 3) := by decide +kernel
theorem dX8_hasOf_24 : decode cX8_hasOf 24 = .ok (.iload_n 3, 1) := by decide +kernel
theorem dX8_hasOf_25 : decode cX8_hasOf 25 = .ok (.iaload, 1) := by decide +kernel
theorem dX8_hasOf_26 : decode cX8_hasOf 26 = .ok (.istore_n 3, 1) := by decide +kernel
theorem dX8_hasOf_27 : decode cX8_hasOf 27 = .ok (.goto (-25), 3) := by decide +kernel
theorem dX8_hasOf_30 : decode cX8_hasOf 30 = .ok (.iload_n 3, 1) := by decide +kernel
theorem dX8_hasOf_31 : decode cX8_hasOf 31 = .ok (.ifCond .ge 7, 3) := by decide +kernel
theorem dX8_hasOf_34 : decode cX8_hasOf 34 = .ok (.iconst (-1), 1) := by decide +kernel
theorem dX8_hasOf_35 : decode cX8_hasOf 35 = .ok (.goto 14, 3) := by decide +kernel
theorem dX8_hasOf_38 : decode cX8_hasOf 38 = .ok (.aload_n 0, 1) := by decide +kernel
theorem dX8_hasOf_39 : decode cX8_hasOf 39 = .ok (.getfield 36, 3) := by decide +kernel
theorem dX8_hasOf_42 : decode cX8_hasOf 42 = .ok (.bipush 6, 2) := by decide +kernel
theorem dX8_hasOf_44 : decode cX8_hasOf 44 = .ok (.iload_n 3, 1) := by decide +kernel
theorem dX8_hasOf_45 : decode cX8_hasOf 45 = .ok (.imul, 1) := by decide +kernel
theorem dX8_hasOf_46 : decode cX8_hasOf 46 = .ok (.iload_n 2, 1) := by decide +kernel
theorem dX8_hasOf_47 : decode cX8_hasOf 47 = .ok (.iadd, 1) := by decide +kernel
theorem dX8_hasOf_48 : decode cX8_hasOf 48 = .ok (.iaload, 1) := by decide +kernel
theorem dX8_hasOf_49 : decode cX8_hasOf 49 = .ok (.ireturn, 1) := by decide +kernel
theorem dX8_has_0 : decode cX8_has 0 = .ok (.aload_n 0, 1) := by decide +kernel
theorem dX8_has_1 : decode cX8_has 1 = .ok (.iconst 0, 1) := by decide +kernel
theorem dX8_has_2 : decode cX8_has 2 = .ok (.putfield 93, 3) := by decide +kernel
theorem dX8_has_5 : decode cX8_has 5 = .ok (.aload_n 0, 1) := by decide +kernel
theorem dX8_has_6 : decode cX8_has 6 = .ok (.iconst 0, 1) := by decide +kernel
theorem dX8_has_7 : decode cX8_has 7 = .ok (.putfield 97, 3) := by decide +kernel
theorem dX8_has_10 : decode cX8_has 10 = .ok (.aload_n 0, 1) := by decide +kernel
theorem dX8_has_11 : decode cX8_has 11 = .ok (.iload_n 1, 1) := by decide +kernel
theorem dX8_has_12 : decode cX8_has 12 = .ok (.invokevirtual 124, 3) := by decide +kernel
theorem dX8_has_15 : decode cX8_has 15 = .ok (.ifCond .eq 10, 3) := by decide +kernel
theorem dX8_has_18 : decode cX8_has 18 = .ok (.iload_n 2, 1) := by decide +kernel
theorem dX8_has_19 : decode cX8_has 19 = .ok (.invokestatic 127, 3) := by decide +kernel
theorem dX8_has_22 : decode cX8_has 22 = .ok (.ifCond .ne 9, 3) := by decide +kernel
theorem dX8_has_25 : decode cX8_has 25 = .ok (.aload_n 0, 1) := by decide +kernel
theorem dX8_has_26 : decode cX8_has 26 = .ok (.iconst 2, 1) := by decide +kernel
theorem dX8_has_27 : decode cX8_has 27 = .ok (.invokevirtual 121, 3) := by decide +kernel
theorem dX8_has_30 : decode cX8_has 30 = .ok (.ireturn, 1) := by decide +kernel
theorem dX8_has_31 : decode cX8_has 31 = .ok (.aload_n 0, 1) := by decide +kernel
theorem dX8_has_32 : decode cX8_has 32 = .ok (.iload_n 1, 1) := by decide +kernel
theorem dX8_has_33 : decode cX8_has 33 = .ok (.iload_n 2, 1) := by decide +kernel
theorem dX8_has_34 : decode cX8_has 34 = .ok (.invokevirtual 130, 3) := by decide +kernel
theorem dX8_has_37 : decode cX8_has 37 = .ok (.istore_n 3, 1) := by decide +kernel
theorem dX8_has_38 : decode cX8_has 38 = .ok (.iload_n 3, 1) := by decide +kernel
theorem dX8_has_39 : decode cX8_has 39 = .ok (.ifCond .ge 12, 3) := by decide +kernel
theorem dX8_has_42 : decode cX8_has 42 = .ok (.aload_n 0, 1) := by decide +kernel
theorem dX8_has_43 : decode cX8_has 43 = .ok (.bipush 9, 2) := by decide +kernel
theorem dX8_has_45 : decode cX8_has 45 = .ok (.invokevirtual 121, 3) := by decide +kernel
theorem dX8_has_48 : decode cX8_has 48 = .ok (.goto 4, 3) := by decide +kernel
theorem dX8_has_51 : decode cX8_has 51 = .ok (.iload_n 3, 1) := by decide +kernel
theorem dX8_has_52 : decode cX8_has 52 = .ok (.ireturn, 1) := by decide +kernel
theorem dX8_span_0 : decode cX8_span 0 = .ok (.aload_n 0, 1) := by decide +kernel
theorem dX8_span_1 : decode cX8_span 1 = .ok (.iconst 0, 1) := by decide +kernel
theorem dX8_span_2 : decode cX8_span 2 = .ok (.putfield 93, 3) := by decide +kernel
theorem dX8_span_5 : decode cX8_span 5 = .ok (.aload_n 0, 1) := by decide +kernel
theorem dX8_span_6 : decode cX8_span 6 = .ok (.iconst 0, 1) := by decide +kernel
theorem dX8_span_7 : decode cX8_span 7 = .ok (.putfield 97, 3) := by decide +kernel
theorem dX8_span_10 : decode cX8_span 10 = .ok (.aload_n 0, 1) := by decide +kernel
theorem dX8_span_11 : decode cX8_span 11 = .ok (.iload_n 1, 1) := by decide +kernel
theorem dX8_span_12 : decode cX8_span 12 = .ok (.invokevirtual 124, 3) := by decide +kernel
theorem dX8_span_15 : decode cX8_span 15 = .ok (.ifCond .ne 9, 3) := by decide +kernel
theorem dX8_span_18 : decode cX8_span 18 = .ok (.aload_n 0, 1) := by decide +kernel
theorem dX8_span_19 : decode cX8_span 19 = .ok (.iconst 2, 1) := by decide +kernel
theorem dX8_span_20 : decode cX8_span 20 = .ok (.invokevirtual 100, 3) := by decide +kernel
theorem dX8_span_23 : decode cX8_span 23 = .ok (.ireturn, 1) := by decide +kernel
theorem dX8_span_24 : decode cX8_span 24 = .ok (.iload_n 2, 1) := by decide +kernel
theorem dX8_span_25 : decode cX8_span 25 = .ok (.ifCond .lt 14, 3) := by decide +kernel
theorem dX8_span_28 : decode cX8_span 28 = .ok (.iload_n 3, 1) := by decide +kernel
theorem dX8_span_29 : decode cX8_span 29 = .ok (.ldc 133, 2) := by decide +kernel
theorem dX8_span_31 : decode cX8_span 31 = .ok (.if_icmp .gt 8, 3) := by decide +kernel
theorem dX8_span_34 : decode cX8_span 34 = .ok (.iload_n 2, 1) := by decide +kernel
theorem dX8_span_35 : decode cX8_span 35 = .ok (.iload_n 3, 1) := by decide +kernel
theorem dX8_span_36 : decode cX8_span 36 = .ok (.if_icmp .le 9, 3) := by decide +kernel
theorem dX8_span_39 : decode cX8_span 39 = .ok (.aload_n 0, 1) := by decide +kernel
theorem dX8_span_40 : decode cX8_span 40 = .ok (.iconst 5, 1) := by decide +kernel
theorem dX8_span_41 : decode cX8_span 41 = .ok (.invokevirtual 100, 3) := by decide +kernel
theorem dX8_span_44 : decode cX8_span 44 = .ok (.ireturn, 1) := by decide +kernel
theorem dX8_span_45 : decode cX8_span 45 = .ok (.aload_n 0, 1) := by decide +kernel
theorem dX8_span_46 : decode cX8_span 46 = .ok (.getfield 39, 3) := by decide +kernel
theorem dX8_span_49 : decode cX8_span 49 = .ok (.iload_n 1, 1) := by decide +kernel
theorem dX8_span_50 : decode cX8_span 50 = .ok (.iload_n 2, 1) := by decide +kernel
theorem dX8_span_51 : decode cX8_span 51 = .ok (.iastore, 1) := by decide +kernel
theorem dX8_span_52 : decode cX8_span 52 = .ok (.aload_n 0, 1) := by decide +kernel
theorem dX8_span_53 : decode cX8_span 53 = .ok (.getfield 42, 3) := by decide +kernel
theorem dX8_span_56 : decode cX8_span 56 = .ok (.iload_n 1, 1) := by decide +kernel
theorem dX8_span_57 : decode cX8_span 57 = .ok (.iload_n 3, 1) := by decide +kernel
theorem dX8_span_58 : decode cX8_span 58 = .ok (.iastore, 1) := by decide +kernel
theorem dX8_span_59 : decode cX8_span 59 = .ok (.iconst 1, 1) := by decide +kernel
theorem dX8_span_60 : decode cX8_span 60 = .ok (.ireturn, 1) := by decide +kernel
theorem dX8_noSpan_0 : decode cX8_noSpan 0 = .ok (.aload_n 0, 1) := by decide +kernel
theorem dX8_noSpan_1 : decode cX8_noSpan 1 = .ok (.iconst 0, 1) := by decide +kernel
theorem dX8_noSpan_2 : decode cX8_noSpan 2 = .ok (.putfield 93, 3) := by decide +kernel
theorem dX8_noSpan_5 : decode cX8_noSpan 5 = .ok (.aload_n 0, 1) := by decide +kernel
theorem dX8_noSpan_6 : decode cX8_noSpan 6 = .ok (.iconst 0, 1) := by decide +kernel
theorem dX8_noSpan_7 : decode cX8_noSpan 7 = .ok (.putfield 97, 3) := by decide +kernel
theorem dX8_noSpan_10 : decode cX8_noSpan 10 = .ok (.aload_n 0, 1) := by decide +kernel
theorem dX8_noSpan_11 : decode cX8_noSpan 11 = .ok (.iload_n 1, 1) := by decide +kernel
theorem dX8_noSpan_12 : decode cX8_noSpan 12 = .ok (.invokevirtual 124, 3) := by decide +kernel
theorem dX8_noSpan_15 : decode cX8_noSpan 15 = .ok (.ifCond .ne 9, 3) := by decide +kernel
theorem dX8_noSpan_18 : decode cX8_noSpan 18 = .ok (.aload_n 0, 1) := by decide +kernel
theorem dX8_noSpan_19 : decode cX8_noSpan 19 = .ok (.iconst 2, 1) := by decide +kernel
theorem dX8_noSpan_20 : decode cX8_noSpan 20 = .ok (.invokevirtual 100, 3) := by decide +kernel
theorem dX8_noSpan_23 : decode cX8_noSpan 23 = .ok (.ireturn, 1) := by decide +kernel
theorem dX8_noSpan_24 : decode cX8_noSpan 24 = .ok (.aload_n 0, 1) := by decide +kernel
theorem dX8_noSpan_25 : decode cX8_noSpan 25 = .ok (.getfield 39, 3) := by decide +kernel
theorem dX8_noSpan_28 : decode cX8_noSpan 28 = .ok (.iload_n 1, 1) := by decide +kernel
theorem dX8_noSpan_29 : decode cX8_noSpan 29 = .ok (.iaload, 1) := by decide +kernel
theorem dX8_noSpan_30 : decode cX8_noSpan 30 = .ok (.ifCond .ge 10, 3) := by decide +kernel
theorem dX8_noSpan_33 : decode cX8_noSpan 33 = .ok (.aload_n 0, 1) := by decide +kernel
theorem dX8_noSpan_34 : decode cX8_noSpan 34 = .ok (.bipush 9, 2) := by decide +kernel
theorem dX8_noSpan_36 : decode cX8_noSpan 36 = .ok (.invokevirtual 100, 3) := by decide +kernel
theorem dX8_noSpan_39 : decode cX8_noSpan 39 = .ok (.ireturn, 1) := by decide +kernel
theorem dX8_noSpan_40 : decode cX8_noSpan 40 = .ok (.aload_n 0, 1) := by decide +kernel
theorem dX8_noSpan_41 : decode cX8_noSpan 41 = .ok (.getfield 39, 3) := by decide +kernel
theorem dX8_noSpan_44 : decode cX8_noSpan 44 = .ok (.iload_n 1, 1) := by decide +kernel
theorem dX8_noSpan_45 : decode cX8_noSpan 45 = .ok (.iconst (-1), 1) := by decide +kernel
theorem dX8_noSpan_46 : decode cX8_noSpan 46 = .ok (.iastore, 1) := by decide +kernel
theorem dX8_noSpan_47 : decode cX8_noSpan 47 = .ok (.iconst 1, 1) := by decide +kernel
theorem dX8_noSpan_48 : decode cX8_noSpan 48 = .ok (.ireturn, 1) := by decide +kernel
theorem dX8_holds_0 : decode cX8_holds 0 = .ok (.iconst 0, 1) := by decide +kernel
theorem dX8_holds_1 : decode cX8_holds 1 = .ok (.istore_n 1, 1) := by decide +kernel
theorem dX8_holds_2 : decode cX8_holds 2 = .ok (.iload_n 1, 1) := by decide +kernel
theorem dX8_holds_3 : decode cX8_holds 3 = .ok (.aload_n 0, 1) := by decide +kernel
theorem dX8_holds_4 : decode cX8_holds 4 = .ok (.getfield 118, 3) := by decide +kernel
theorem dX8_holds_7 : decode cX8_holds 7 = .ok (.if_icmp .ge 46, 3) := by decide +kernel
theorem dX8_holds_10 : decode cX8_holds 10 = .ok (.aload_n 0, 1) := by decide +kernel
theorem dX8_holds_11 : decode cX8_holds 11 = .ok (.getfield 60, 3) := by decide +kernel
theorem dX8_holds_14 : decode cX8_holds 14 = .ok (.iload_n 1, 1) := by decide +kernel
theorem dX8_holds_15 : decode cX8_holds 15 = .ok (.aload_n 0, 1) := by decide +kernel
theorem dX8_holds_16 : decode cX8_holds 16 = .ok (.getfield 39, 3) := by decide +kernel
theorem dX8_holds_19 : decode cX8_holds 19 = .ok (.iload_n 1, 1) := by decide +kernel
theorem dX8_holds_20 : decode cX8_holds 20 = .ok (.iaload, 1) := by decide +kernel
theorem dX8_holds_21 : decode cX8_holds 21 = .ok (.iastore, 1) := by decide +kernel
theorem dX8_holds_22 : decode cX8_holds 22 = .ok (.aload_n 0, 1) := by decide +kernel
theorem dX8_holds_23 : decode cX8_holds 23 = .ok (.getfield 63, 3) := by decide +kernel
theorem dX8_holds_26 : decode cX8_holds 26 = .ok (.iload_n 1, 1) := by decide +kernel
theorem dX8_holds_27 : decode cX8_holds 27 = .ok (.aload_n 0, 1) := by decide +kernel
theorem dX8_holds_28 : decode cX8_holds 28 = .ok (.getfield 39, 3) := by decide +kernel
theorem dX8_holds_31 : decode cX8_holds 31 = .ok (.iload_n 1, 1) := by decide +kernel
theorem dX8_holds_32 : decode cX8_holds 32 = .ok (.iaload, 1) := by decide +kernel
theorem dX8_holds_33 : decode cX8_holds 33 = .ok (.ifCond .ge 7, 3) := by decide +kernel
theorem dX8_holds_36 : decode cX8_holds 36 = .ok (.iconst (-1), 1) := by decide +kernel
theorem dX8_holds_37 : decode cX8_holds 37 = .ok (.goto 9, 3) := by decide +kernel
theorem dX8_holds_40 : decode cX8_holds 40 = .ok (.aload_n 0, 1) := by decide +kernel
theorem dX8_holds_41 : decode cX8_holds 41 = .ok (.getfield 42, 3) := by decide +kernel
theorem dX8_holds_44 : decode cX8_holds 44 = .ok (.iload_n 1, 1) := by decide +kernel
theorem dX8_holds_45 : decode cX8_holds 45 = .ok (.iaload, 1) := by decide +kernel
theorem dX8_holds_46 : decode cX8_holds 46 = .ok (.iastore, 1) := by decide +kernel
theorem dX8_holds_47 : decode cX8_holds 47 = .ok (.iinc 1 1, 3) := by decide +kernel
theorem dX8_holds_50 : decode cX8_holds 50 = .ok (.goto (-48), 3) := by decide +kernel
theorem dX8_holds_53 : decode cX8_holds 53 = .ok (.aload_n 0, 1) := by decide +kernel
theorem dX8_holds_54 : decode cX8_holds 54 = .ok (.getfield 118, 3) := by decide +kernel
theorem dX8_holds_57 : decode cX8_holds 57 = .ok (.iconst 1, 1) := by decide +kernel
theorem dX8_holds_58 : decode cX8_holds 58 = .ok (.isub, 1) := by decide +kernel
theorem dX8_holds_59 : decode cX8_holds 59 = .ok (.istore_n 1, 1) := by decide +kernel
theorem dX8_holds_60 : decode cX8_holds 60 = .ok (.iload_n 1, 1) := by decide +kernel
theorem dX8_holds_61 : decode cX8_holds 61 = .ok (.ifCond .lt 101, 3) := by decide +kernel
theorem dX8_holds_64 : decode cX8_holds 64 = .ok (.aload_n 0, 1) := by decide +kernel
theorem dX8_holds_65 : decode cX8_holds 65 = .ok (.getfield 27, 3) := by decide +kernel
theorem dX8_holds_68 : decode cX8_holds 68 = .ok (.iload_n 1, 1) := by decide +kernel
theorem dX8_holds_69 : decode cX8_holds 69 = .ok (.iaload, 1) := by decide +kernel
theorem dX8_holds_70 : decode cX8_holds 70 = .ok (.istore_n 2, 1) := by decide +kernel
theorem dX8_holds_71 : decode cX8_holds 71 = .ok (.iload_n 2, 1) := by decide +kernel
theorem dX8_holds_72 : decode cX8_holds 72 = .ok (.ifCond .lt 84, 3) := by decide +kernel
theorem dX8_holds_75 : decode cX8_holds 75 = .ok (.aload_n 0, 1) := by decide +kernel
theorem dX8_holds_76 : decode cX8_holds 76 = .ok (.getfield 39, 3) := by decide +kernel
theorem dX8_holds_79 : decode cX8_holds 79 = .ok (.iload_n 2, 1) := by decide +kernel
theorem dX8_holds_80 : decode cX8_holds 80 = .ok (.iaload, 1) := by decide +kernel
theorem dX8_holds_81 : decode cX8_holds 81 = .ok (.ifCond .ge 75, 3) := by decide +kernel
theorem dX8_holds_84 : decode cX8_holds 84 = .ok (.aload_n 0, 1) := by decide +kernel
theorem dX8_holds_85 : decode cX8_holds 85 = .ok (.getfield 60, 3) := by decide +kernel
theorem dX8_holds_88 : decode cX8_holds 88 = .ok (.iload_n 1, 1) := by decide +kernel
theorem dX8_holds_89 : decode cX8_holds 89 = .ok (.iaload, 1) := by decide +kernel
theorem dX8_holds_90 : decode cX8_holds 90 = .ok (.ifCond .ge 6, 3) := by decide +kernel
theorem dX8_holds_93 : decode cX8_holds 93 = .ok (.goto 63, 3) := by decide +kernel
theorem dX8_holds_96 : decode cX8_holds 96 = .ok (.aload_n 0, 1) := by decide +kernel
theorem dX8_holds_97 : decode cX8_holds 97 = .ok (.getfield 60, 3) := by decide +kernel
theorem dX8_holds_100 : decode cX8_holds 100 = .ok (.iload_n 2, 1) := by decide +kernel
theorem dX8_holds_101 : decode cX8_holds 101 = .ok (.aload_n 0, 1) := by decide +kernel
theorem dX8_holds_102 : decode cX8_holds 102 = .ok (.getfield 60, 3) := by decide +kernel
theorem dX8_holds_105 : decode cX8_holds 105 = .ok (.iload_n 2, 1) := by decide +kernel
theorem dX8_holds_106 : decode cX8_holds 106 = .ok (.iaload, 1) := by decide +kernel
theorem dX8_holds_107 : decode cX8_holds 107 = .ok (.ifCond .ge 12, 3) := by decide +kernel
theorem dX8_holds_110 : decode cX8_holds 110 = .ok (.aload_n 0, 1) := by decide +kernel
theorem dX8_holds_111 : decode cX8_holds 111 = .ok (.getfield 60, 3) := by decide +kernel
theorem dX8_holds_114 : decode cX8_holds 114 = .ok (.iload_n 1, 1) := by decide +kernel
theorem dX8_holds_115 : decode cX8_holds 115 = .ok (.iaload, 1) := by decide +kernel
theorem dX8_holds_116 : decode cX8_holds 116 = .ok (.goto 18, 3) := by decide +kernel
theorem dX8_holds_119 : decode cX8_holds 119 = .ok (.aload_n 0, 1) := by decide +kernel
theorem dX8_holds_120 : decode cX8_holds 120 = .ok (.getfield 60, 3) := by decide +kernel
theorem dX8_holds_123 : decode cX8_holds 123 = .ok (.iload_n 2, 1) := by decide +kernel
theorem dX8_holds_124 : decode cX8_holds 124 = .ok (.iaload, 1) := by decide +kernel
theorem dX8_holds_125 : decode cX8_holds 125 = .ok (.aload_n 0, 1) := by decide +kernel
theorem dX8_holds_126 : decode cX8_holds 126 = .ok (.getfield 60, 3) := by decide +kernel
theorem dX8_holds_129 : decode cX8_holds 129 = .ok (.iload_n 1, 1) := by decide +kernel
theorem dX8_holds_130 : decode cX8_holds 130 = .ok (.iaload, 1) := by decide +kernel
theorem dX8_holds_131 : decode cX8_holds 131 = .ok (.invokestatic 134, 3) := by decide +kernel
theorem dX8_holds_134 : decode cX8_holds 134 = .ok (.iastore, 1) := by decide +kernel
theorem dX8_holds_135 : decode cX8_holds 135 = .ok (.aload_n 0, 1) := by decide +kernel
theorem dX8_holds_136 : decode cX8_holds 136 = .ok (.getfield 63, 3) := by decide +kernel
theorem dX8_holds_139 : decode cX8_holds 139 = .ok (.iload_n 2, 1) := by decide +kernel
theorem dX8_holds_140 : decode cX8_holds 140 = .ok (.aload_n 0, 1) := by decide +kernel
theorem dX8_holds_141 : decode cX8_holds 141 = .ok (.getfield 63, 3) := by decide +kernel
theorem dX8_holds_144 : decode cX8_holds 144 = .ok (.iload_n 2, 1) := by decide +kernel
theorem dX8_holds_145 : decode cX8_holds 145 = .ok (.iaload, 1) := by decide +kernel
theorem dX8_holds_146 : decode cX8_holds 146 = .ok (.aload_n 0, 1) := by decide +kernel
theorem dX8_holds_147 : decode cX8_holds 147 = .ok (.getfield 63, 3) := by decide +kernel
theorem dX8_holds_150 : decode cX8_holds 150 = .ok (.iload_n 1, 1) := by decide +kernel
theorem dX8_holds_151 : decode cX8_holds 151 = .ok (.iaload, 1) := by decide +kernel
theorem dX8_holds_152 : decode cX8_holds 152 = .ok (.invokestatic 139, 3) := by decide +kernel
theorem dX8_holds_155 : decode cX8_holds 155 = .ok (.iastore, 1) := by decide +kernel
theorem dX8_holds_156 : decode cX8_holds 156 = .ok (.iinc 1 (-1), 3) := by decide +kernel
theorem dX8_holds_159 : decode cX8_holds 159 = .ok (.goto (-99), 3) := by decide +kernel
theorem dX8_holds_162 : decode cX8_holds 162 = .ok (.return_, 1) := by decide +kernel
theorem dX8_held_0 : decode cX8_held 0 = .ok (.aload_n 0, 1) := by decide +kernel
theorem dX8_held_1 : decode cX8_held 1 = .ok (.iconst 0, 1) := by decide +kernel
theorem dX8_held_2 : decode cX8_held 2 = .ok (.putfield 93, 3) := by decide +kernel
theorem dX8_held_5 : decode cX8_held 5 = .ok (.aload_n 0, 1) := by decide +kernel
theorem dX8_held_6 : decode cX8_held 6 = .ok (.iconst 0, 1) := by decide +kernel
theorem dX8_held_7 : decode cX8_held 7 = .ok (.putfield 97, 3) := by decide +kernel
theorem dX8_held_10 : decode cX8_held 10 = .ok (.aload_n 0, 1) := by decide +kernel
theorem dX8_held_11 : decode cX8_held 11 = .ok (.iload_n 1, 1) := by decide +kernel
theorem dX8_held_12 : decode cX8_held 12 = .ok (.invokevirtual 124, 3) := by decide +kernel
theorem dX8_held_15 : decode cX8_held 15 = .ok (.ifCond .ne 9, 3) := by decide +kernel
theorem dX8_held_18 : decode cX8_held 18 = .ok (.aload_n 0, 1) := by decide +kernel
theorem dX8_held_19 : decode cX8_held 19 = .ok (.iconst 2, 1) := by decide +kernel
theorem dX8_held_20 : decode cX8_held 20 = .ok (.invokevirtual 121, 3) := by decide +kernel
theorem dX8_held_23 : decode cX8_held 23 = .ok (.ireturn, 1) := by decide +kernel
theorem dX8_held_24 : decode cX8_held 24 = .ok (.aload_n 0, 1) := by decide +kernel
theorem dX8_held_25 : decode cX8_held 25 = .ok (.invokevirtual 142, 3) := by decide +kernel
theorem dX8_held_28 : decode cX8_held 28 = .ok (.aload_n 0, 1) := by decide +kernel
theorem dX8_held_29 : decode cX8_held 29 = .ok (.getfield 60, 3) := by decide +kernel
theorem dX8_held_32 : decode cX8_held 32 = .ok (.iload_n 1, 1) := by decide +kernel
theorem dX8_held_33 : decode cX8_held 33 = .ok (.iaload, 1) := by decide +kernel
theorem dX8_held_34 : decode cX8_held 34 = .ok (.ifCond .ge 12, 3) := by decide +kernel
theorem dX8_held_37 : decode cX8_held 37 = .ok (.aload_n 0, 1) := by decide +kernel
theorem dX8_held_38 : decode cX8_held 38 = .ok (.bipush 9, 2) := by decide +kernel
theorem dX8_held_40 : decode cX8_held 40 = .ok (.invokevirtual 121, 3) := by decide +kernel
theorem dX8_held_43 : decode cX8_held 43 = .ok (.goto 22, 3) := by decide +kernel
theorem dX8_held_46 : decode cX8_held 46 = .ok (.iload_n 2, 1) := by decide +kernel
theorem dX8_held_47 : decode cX8_held 47 = .ok (.ifCond .eq 12, 3) := by decide +kernel
theorem dX8_held_50 : decode cX8_held 50 = .ok (.aload_n 0, 1) := by decide +kernel
theorem dX8_held_51 : decode cX8_held 51 = .ok (.getfield 63, 3) := by decide +kernel
theorem dX8_held_54 : decode cX8_held 54 = .ok (.iload_n 1, 1) := by decide +kernel
theorem dX8_held_55 : decode cX8_held 55 = .ok (.iaload, 1) := by decide +kernel
theorem dX8_held_56 : decode cX8_held 56 = .ok (.goto 9, 3) := by decide +kernel
theorem dX8_held_59 : decode cX8_held 59 = .ok (.aload_n 0, 1) := by decide +kernel
theorem dX8_held_60 : decode cX8_held 60 = .ok (.getfield 60, 3) := by decide +kernel
theorem dX8_held_63 : decode cX8_held 63 = .ok (.iload_n 1, 1) := by decide +kernel
theorem dX8_held_64 : decode cX8_held 64 = .ok (.iaload, 1) := by decide +kernel
theorem dX8_held_65 : decode cX8_held 65 = .ok (.ireturn, 1) := by decide +kernel
theorem dX8_quarrel_0 : decode cX8_quarrel 0 = .ok (.aload_n 0, 1) := by decide +kernel
theorem dX8_quarrel_1 : decode cX8_quarrel 1 = .ok (.iconst 0, 1) := by decide +kernel
theorem dX8_quarrel_2 : decode cX8_quarrel 2 = .ok (.putfield 93, 3) := by decide +kernel
theorem dX8_quarrel_5 : decode cX8_quarrel 5 = .ok (.aload_n 0, 1) := by decide +kernel
theorem dX8_quarrel_6 : decode cX8_quarrel 6 = .ok (.iconst 0, 1) := by decide +kernel
theorem dX8_quarrel_7 : decode cX8_quarrel 7 = .ok (.putfield 97, 3) := by decide +kernel
theorem dX8_quarrel_10 : decode cX8_quarrel 10 = .ok (.iload_n 1, 1) := by decide +kernel
theorem dX8_quarrel_11 : decode cX8_quarrel 11 = .ok (.ifCond .ge 9, 3) := by decide +kernel
theorem dX8_quarrel_14 : decode cX8_quarrel 14 = .ok (.aload_n 0, 1) := by decide +kernel
theorem dX8_quarrel_15 : decode cX8_quarrel 15 = .ok (.iconst 5, 1) := by decide +kernel
theorem dX8_quarrel_16 : decode cX8_quarrel 16 = .ok (.invokevirtual 121, 3) := by decide +kernel
theorem dX8_quarrel_19 : decode cX8_quarrel 19 = .ok (.ireturn, 1) := by decide +kernel
theorem dX8_quarrel_20 : decode cX8_quarrel 20 = .ok (.iconst 0, 1) := by decide +kernel
theorem dX8_quarrel_21 : decode cX8_quarrel 21 = .ok (.istore_n 2, 1) := by decide +kernel
theorem dX8_quarrel_22 : decode cX8_quarrel 22 = .ok (.iconst 0, 1) := by decide +kernel
theorem dX8_quarrel_23 : decode cX8_quarrel 23 = .ok (.istore_n 3, 1) := by decide +kernel
theorem dX8_quarrel_24 : decode cX8_quarrel 24 = .ok (.iload_n 3, 1) := by decide +kernel
theorem dX8_quarrel_25 : decode cX8_quarrel 25 = .ok (.aload_n 0, 1) := by decide +kernel
theorem dX8_quarrel_26 : decode cX8_quarrel 26 = .ok (.getfield 118, 3) := by decide +kernel
theorem dX8_quarrel_29 : decode cX8_quarrel 29 = .ok (.if_icmp .ge 106, 3) := by decide +kernel
theorem dX8_quarrel_32 : decode cX8_quarrel 32 = .ok (.aload_n 0, 1) := by decide +kernel
theorem dX8_quarrel_33 : decode cX8_quarrel 33 = .ok (.getfield 39, 3) := by decide +kernel
theorem dX8_quarrel_36 : decode cX8_quarrel 36 = .ok (.iload_n 3, 1) := by decide +kernel
theorem dX8_quarrel_37 : decode cX8_quarrel 37 = .ok (.iaload, 1) := by decide +kernel
theorem dX8_quarrel_38 : decode cX8_quarrel 38 = .ok (.ifCond .ge 6, 3) := by decide +kernel
theorem dX8_quarrel_41 : decode cX8_quarrel 41 = .ok (.goto 88, 3) := by decide +kernel
theorem dX8_quarrel_44 : decode cX8_quarrel 44 = .ok (.aload_n 0, 1) := by decide +kernel
theorem dX8_quarrel_45 : decode cX8_quarrel 45 = .ok (.getfield 27, 3) := by decide +kernel
theorem dX8_quarrel_48 : decode cX8_quarrel 48 = .ok (.iload_n 3, 1) := by decide +kernel
theorem dX8_quarrel_49 : decode cX8_quarrel 49 = .ok (.iaload, 1) := by decide +kernel
theorem dX8_quarrel_50 : decode cX8_quarrel 50 = .ok (.istore 4, 2) := by decide +kernel
theorem dX8_quarrel_52 : decode cX8_quarrel 52 = .ok (.iload 4, 2) := by decide +kernel
theorem dX8_quarrel_54 : decode cX8_quarrel 54 = .ok (.ifCond .lt 25, 3) := by decide +kernel
theorem dX8_quarrel_57 : decode cX8_quarrel 57 = .ok (.aload_n 0, 1) := by decide +kernel
theorem dX8_quarrel_58 : decode cX8_quarrel 58 = .ok (.getfield 39, 3) := by decide +kernel
theorem dX8_quarrel_61 : decode cX8_quarrel 61 = .ok (.iload 4, 2) := by decide +kernel
theorem dX8_quarrel_63 : decode cX8_quarrel 63 = .ok (.iaload, 1) := by decide +kernel
theorem dX8_quarrel_64 : decode cX8_quarrel 64 = .ok (.ifCond .ge 15, 3) := by decide +kernel
theorem dX8_quarrel_67 : decode cX8_quarrel 67 = .ok (.aload_n 0, 1) := by decide +kernel
theorem dX8_quarrel_68 : decode cX8_quarrel 68 = .ok (.getfield 27, 3) := by decide +kernel
theorem dX8_quarrel_71 : decode cX8_quarrel 71 = .ok (.iload 4, 2) := by decide +kernel
theorem dX8_quarrel_73 : decode cX8_quarrel 73 = .ok (.iaload, 1) := by decide +kernel
theorem dX8_quarrel_74 : decode cX8_quarrel 74 = .ok (.istore 4, 2) := by decide +kernel
theorem dX8_quarrel_76 : decode cX8_quarrel 76 = .ok (.goto (-24), 3) := by decide +kernel
theorem dX8_quarrel_79 : decode cX8_quarrel 79 = .ok (.iload 4, 2) := by decide +kernel
theorem dX8_quarrel_81 : decode cX8_quarrel 81 = .ok (.ifCond .lt 48, 3) := by decide +kernel
theorem dX8_quarrel_84 : decode cX8_quarrel 84 = .ok (.aload_n 0, 1) := by decide +kernel
theorem dX8_quarrel_85 : decode cX8_quarrel 85 = .ok (.getfield 39, 3) := by decide +kernel
theorem dX8_quarrel_88 : decode cX8_quarrel 88 = .ok (.iload_n 3, 1) := by decide +kernel
theorem dX8_quarrel_89 : decode cX8_quarrel 89 = .ok (.iaload, 1) := by decide +kernel
theorem dX8_quarrel_90 : decode cX8_quarrel 90 = .ok (.aload_n 0, 1) := by decide +kernel
theorem dX8_quarrel_91 : decode cX8_quarrel 91 = .ok (.getfield 39, 3) := by decide +kernel
theorem dX8_quarrel_94 : decode cX8_quarrel 94 = .ok (.iload 4, 2) := by decide +kernel
theorem dX8_quarrel_96 : decode cX8_quarrel 96 = .ok (.iaload, 1) := by decide +kernel
theorem dX8_quarrel_97 : decode cX8_quarrel 97 = .ok (.if_icmp .lt 22, 3) := by decide +kernel
theorem dX8_quarrel_100 : decode cX8_quarrel 100 = .ok (.aload_n 0, 1) := by decide +kernel
theorem dX8_quarrel_101 : decode cX8_quarrel 101 = .ok (.getfield 42, 3) := by decide +kernel
theorem dX8_quarrel_104 : decode cX8_quarrel 104 = .ok (.iload_n 3, 1) := by decide +kernel
theorem dX8_quarrel_105 : decode cX8_quarrel 105 = .ok (.iaload, 1) := by decide +kernel
theorem dX8_quarrel_106 : decode cX8_quarrel 106 = .ok (.aload_n 0, 1) := by decide +kernel
theorem dX8_quarrel_107 : decode cX8_quarrel 107 = .ok (.getfield 42, 3) := by decide +kernel
theorem dX8_quarrel_110 : decode cX8_quarrel 110 = .ok (.iload 4, 2) := by decide +kernel
theorem dX8_quarrel_112 : decode cX8_quarrel 112 = .ok (.iaload, 1) := by decide +kernel
theorem dX8_quarrel_113 : decode cX8_quarrel 113 = .ok (.if_icmp .gt 6, 3) := by decide +kernel
theorem dX8_quarrel_116 : decode cX8_quarrel 116 = .ok (.goto 13, 3) := by decide +kernel
theorem dX8_quarrel_119 : decode cX8_quarrel 119 = .ok (.iload_n 2, 1) := by decide +kernel
theorem dX8_quarrel_120 : decode cX8_quarrel 120 = .ok (.iload_n 1, 1) := by decide +kernel
theorem dX8_quarrel_121 : decode cX8_quarrel 121 = .ok (.if_icmp .ne 5, 3) := by decide +kernel
theorem dX8_quarrel_124 : decode cX8_quarrel 124 = .ok (.iload_n 3, 1) := by decide +kernel
theorem dX8_quarrel_125 : decode cX8_quarrel 125 = .ok (.ireturn, 1) := by decide +kernel
theorem dX8_quarrel_126 : decode cX8_quarrel 126 = .ok (.iinc 2 1, 3) := by decide +kernel
theorem dX8_quarrel_129 : decode cX8_quarrel 129 = .ok (.iinc 3 1, 3) := by decide +kernel
theorem dX8_quarrel_132 : decode cX8_quarrel 132 = .ok (.goto (-108), 3) := by decide +kernel
theorem dX8_quarrel_135 : decode cX8_quarrel 135 = .ok (.aload_n 0, 1) := by decide +kernel
theorem dX8_quarrel_136 : decode cX8_quarrel 136 = .ok (.bipush 9, 2) := by decide +kernel
theorem dX8_quarrel_138 : decode cX8_quarrel 138 = .ok (.invokevirtual 121, 3) := by decide +kernel
theorem dX8_quarrel_141 : decode cX8_quarrel 141 = .ok (.ireturn, 1) := by decide +kernel
theorem dX8_count_0 : decode cX8_count 0 = .ok (.aload_n 0, 1) := by decide +kernel
theorem dX8_count_1 : decode cX8_count 1 = .ok (.iconst 0, 1) := by decide +kernel
theorem dX8_count_2 : decode cX8_count 2 = .ok (.putfield 93, 3) := by decide +kernel
theorem dX8_count_5 : decode cX8_count 5 = .ok (.aload_n 0, 1) := by decide +kernel
theorem dX8_count_6 : decode cX8_count 6 = .ok (.iconst 0, 1) := by decide +kernel
theorem dX8_count_7 : decode cX8_count 7 = .ok (.putfield 97, 3) := by decide +kernel
theorem dX8_count_10 : decode cX8_count 10 = .ok (.aload_n 0, 1) := by decide +kernel
theorem dX8_count_11 : decode cX8_count 11 = .ok (.iload_n 1, 1) := by decide +kernel
theorem dX8_count_12 : decode cX8_count 12 = .ok (.invokevirtual 124, 3) := by decide +kernel
theorem dX8_count_15 : decode cX8_count 15 = .ok (.ifCond .ne 9, 3) := by decide +kernel
theorem dX8_count_18 : decode cX8_count 18 = .ok (.aload_n 0, 1) := by decide +kernel
theorem dX8_count_19 : decode cX8_count 19 = .ok (.iconst 2, 1) := by decide +kernel
theorem dX8_count_20 : decode cX8_count 20 = .ok (.invokevirtual 100, 3) := by decide +kernel
theorem dX8_count_23 : decode cX8_count 23 = .ok (.ireturn, 1) := by decide +kernel
theorem dX8_count_24 : decode cX8_count 24 = .ok (.iload_n 2, 1) := by decide +kernel
theorem dX8_count_25 : decode cX8_count 25 = .ok (.iconst (-1), 1) := by decide +kernel
theorem dX8_count_26 : decode cX8_count 26 = .ok (.if_icmp .lt 10, 3) := by decide +kernel
theorem dX8_count_29 : decode cX8_count 29 = .ok (.iload_n 2, 1) := by decide +kernel
theorem dX8_count_30 : decode cX8_count 30 = .ok (.sipush 999, 3) := by decide +kernel
theorem dX8_count_33 : decode cX8_count 33 = .ok (.if_icmp .le 9, 3) := by decide +kernel
theorem dX8_count_36 : decode cX8_count 36 = .ok (.aload_n 0, 1) := by decide +kernel
theorem dX8_count_37 : decode cX8_count 37 = .ok (.iconst 5, 1) := by decide +kernel
theorem dX8_count_38 : decode cX8_count 38 = .ok (.invokevirtual 100, 3) := by decide +kernel
theorem dX8_count_41 : decode cX8_count 41 = .ok (.ireturn, 1) := by decide +kernel
theorem dX8_count_42 : decode cX8_count 42 = .ok (.aload_n 0, 1) := by decide +kernel
theorem dX8_count_43 : decode cX8_count 43 = .ok (.getfield 24, 3) := by decide +kernel
theorem dX8_count_46 : decode cX8_count 46 = .ok (.iload_n 1, 1) := by decide +kernel
theorem dX8_count_47 : decode cX8_count 47 = .ok (.iaload, 1) := by decide +kernel
theorem dX8_count_48 : decode cX8_count 48 = .ok (.iconst 2, 1) := by decide +kernel
theorem dX8_count_49 : decode cX8_count 49 = .ok (.if_icmp .eq 10, 3) := by decide +kernel
theorem dX8_count_52 : decode cX8_count 52 = .ok (.aload_n 0, 1) := by decide +kernel
theorem dX8_count_53 : decode cX8_count 53 = .ok (.bipush 8, 2) := by decide +kernel
theorem dX8_count_55 : decode cX8_count 55 = .ok (.invokevirtual 100, 3) := by decide +kernel
theorem dX8_count_58 : decode cX8_count 58 = .ok (.ireturn, 1) := by decide +kernel
theorem dX8_count_59 : decode cX8_count 59 = .ok (.aload_n 0, 1) := by decide +kernel
theorem dX8_count_60 : decode cX8_count 60 = .ok (.getfield 30, 3) := by decide +kernel
theorem dX8_count_63 : decode cX8_count 63 = .ok (.iload_n 1, 1) := by decide +kernel
theorem dX8_count_64 : decode cX8_count 64 = .ok (.iload_n 2, 1) := by decide +kernel
theorem dX8_count_65 : decode cX8_count 65 = .ok (.iastore, 1) := by decide +kernel
theorem dX8_count_66 : decode cX8_count 66 = .ok (.iconst 1, 1) := by decide +kernel
theorem dX8_count_67 : decode cX8_count 67 = .ok (.ireturn, 1) := by decide +kernel
theorem dX8_join_0 : decode cX8_join 0 = .ok (.aload_n 0, 1) := by decide +kernel
theorem dX8_join_1 : decode cX8_join 1 = .ok (.iconst 0, 1) := by decide +kernel
theorem dX8_join_2 : decode cX8_join 2 = .ok (.putfield 93, 3) := by decide +kernel
theorem dX8_join_5 : decode cX8_join 5 = .ok (.aload_n 0, 1) := by decide +kernel
theorem dX8_join_6 : decode cX8_join 6 = .ok (.iconst 0, 1) := by decide +kernel
theorem dX8_join_7 : decode cX8_join 7 = .ok (.putfield 97, 3) := by decide +kernel
theorem dX8_join_10 : decode cX8_join 10 = .ok (.aload_n 0, 1) := by decide +kernel
theorem dX8_join_11 : decode cX8_join 11 = .ok (.iload_n 1, 1) := by decide +kernel
theorem dX8_join_12 : decode cX8_join 12 = .ok (.invokevirtual 124, 3) := by decide +kernel
theorem dX8_join_15 : decode cX8_join 15 = .ok (.ifCond .eq 11, 3) := by decide +kernel
theorem dX8_join_18 : decode cX8_join 18 = .ok (.aload_n 0, 1) := by decide +kernel
theorem dX8_join_19 : decode cX8_join 19 = .ok (.iload_n 2, 1) := by decide +kernel
theorem dX8_join_20 : decode cX8_join 20 = .ok (.invokevirtual 124, 3) := by decide +kernel
theorem dX8_join_23 : decode cX8_join 23 = .ok (.ifCond .ne 9, 3) := by decide +kernel
theorem dX8_join_26 : decode cX8_join 26 = .ok (.aload_n 0, 1) := by decide +kernel
theorem dX8_join_27 : decode cX8_join 27 = .ok (.iconst 2, 1) := by decide +kernel
theorem dX8_join_28 : decode cX8_join 28 = .ok (.invokevirtual 100, 3) := by decide +kernel
theorem dX8_join_31 : decode cX8_join 31 = .ok (.ireturn, 1) := by decide +kernel
theorem dX8_join_32 : decode cX8_join 32 = .ok (.iload_n 1, 1) := by decide +kernel
theorem dX8_join_33 : decode cX8_join 33 = .ok (.iload_n 2, 1) := by decide +kernel
theorem dX8_join_34 : decode cX8_join 34 = .ok (.if_icmp .ne 9, 3) := by decide +kernel
theorem dX8_join_37 : decode cX8_join 37 = .ok (.aload_n 0, 1) := by decide +kernel
theorem dX8_join_38 : decode cX8_join 38 = .ok (.iconst 5, 1) := by decide +kernel
theorem dX8_join_39 : decode cX8_join 39 = .ok (.invokevirtual 100, 3) := by decide +kernel
theorem dX8_join_42 : decode cX8_join 42 = .ok (.ireturn, 1) := by decide +kernel
theorem dX8_join_43 : decode cX8_join 43 = .ok (.aload_n 0, 1) := by decide +kernel
theorem dX8_join_44 : decode cX8_join 44 = .ok (.getfield 24, 3) := by decide +kernel
theorem dX8_join_47 : decode cX8_join 47 = .ok (.iload_n 1, 1) := by decide +kernel
theorem dX8_join_48 : decode cX8_join 48 = .ok (.iaload, 1) := by decide +kernel
theorem dX8_join_49 : decode cX8_join 49 = .ok (.iconst 3, 1) := by decide +kernel
theorem dX8_join_50 : decode cX8_join 50 = .ok (.if_icmp .ne 13, 3) := by decide +kernel
theorem dX8_join_53 : decode cX8_join 53 = .ok (.aload_n 0, 1) := by decide +kernel
theorem dX8_join_54 : decode cX8_join 54 = .ok (.getfield 24, 3) := by decide +kernel
theorem dX8_join_57 : decode cX8_join 57 = .ok (.iload_n 2, 1) := by decide +kernel
theorem dX8_join_58 : decode cX8_join 58 = .ok (.iaload, 1) := by decide +kernel
theorem dX8_join_59 : decode cX8_join 59 = .ok (.iconst 3, 1) := by decide +kernel
theorem dX8_join_60 : decode cX8_join 60 = .ok (.if_icmp .eq 10, 3) := by decide +kernel
theorem dX8_join_63 : decode cX8_join 63 = .ok (.aload_n 0, 1) := by decide +kernel
theorem dX8_join_64 : decode cX8_join 64 = .ok (.bipush 8, 2) := by decide +kernel
theorem dX8_join_66 : decode cX8_join 66 = .ok (.invokevirtual 100, 3) := by decide +kernel
theorem dX8_join_69 : decode cX8_join 69 = .ok (.ireturn, 1) := by decide +kernel
theorem dX8_join_70 : decode cX8_join 70 = .ok (.aload_n 0, 1) := by decide +kernel
theorem dX8_join_71 : decode cX8_join 71 = .ok (.getfield 33, 3) := by decide +kernel
theorem dX8_join_74 : decode cX8_join 74 = .ok (.iload_n 1, 1) := by decide +kernel
theorem dX8_join_75 : decode cX8_join 75 = .ok (.iaload, 1) := by decide +kernel
theorem dX8_join_76 : decode cX8_join 76 = .ok (.aload_n 0, 1) := by decide +kernel
theorem dX8_join_77 : decode cX8_join 77 = .ok (.getfield 33, 3) := by decide +kernel
theorem dX8_join_80 : decode cX8_join 80 = .ok (.iload_n 2, 1) := by decide +kernel
theorem dX8_join_81 : decode cX8_join 81 = .ok (.iaload, 1) := by decide +kernel
theorem dX8_join_82 : decode cX8_join 82 = .ok (.if_icmp .ne 10, 3) := by decide +kernel
theorem dX8_join_85 : decode cX8_join 85 = .ok (.aload_n 0, 1) := by decide +kernel
theorem dX8_join_86 : decode cX8_join 86 = .ok (.bipush 10, 2) := by decide +kernel
theorem dX8_join_88 : decode cX8_join 88 = .ok (.invokevirtual 100, 3) := by decide +kernel
theorem dX8_join_91 : decode cX8_join 91 = .ok (.ireturn, 1) := by decide +kernel
theorem dX8_join_92 : decode cX8_join 92 = .ok (.aload_n 0, 1) := by decide +kernel
theorem dX8_join_93 : decode cX8_join 93 = .ok (.getfield 33, 3) := by decide +kernel
theorem dX8_join_96 : decode cX8_join 96 = .ok (.iload_n 1, 1) := by decide +kernel
theorem dX8_join_97 : decode cX8_join 97 = .ok (.iaload, 1) := by decide +kernel
theorem dX8_join_98 : decode cX8_join 98 = .ok (.aload_n 0, 1) := by decide +kernel
theorem dX8_join_99 : decode cX8_join 99 = .ok (.getfield 33, 3) := by decide +kernel
theorem dX8_join_102 : decode cX8_join 102 = .ok (.iload_n 2, 1) := by decide +kernel
theorem dX8_join_103 : decode cX8_join 103 = .ok (.iaload, 1) := by decide +kernel
theorem dX8_join_104 : decode cX8_join 104 = .ok (.invokestatic 134, 3) := by decide +kernel
theorem dX8_join_107 : decode cX8_join 107 = .ok (.istore_n 3, 1) := by decide +kernel
theorem dX8_join_108 : decode cX8_join 108 = .ok (.aload_n 0, 1) := by decide +kernel
theorem dX8_join_109 : decode cX8_join 109 = .ok (.getfield 33, 3) := by decide +kernel
theorem dX8_join_112 : decode cX8_join 112 = .ok (.iload_n 1, 1) := by decide +kernel
theorem dX8_join_113 : decode cX8_join 113 = .ok (.iaload, 1) := by decide +kernel
theorem dX8_join_114 : decode cX8_join 114 = .ok (.aload_n 0, 1) := by decide +kernel
theorem dX8_join_115 : decode cX8_join 115 = .ok (.getfield 33, 3) := by decide +kernel
theorem dX8_join_118 : decode cX8_join 118 = .ok (.iload_n 2, 1) := by decide +kernel
theorem dX8_join_119 : decode cX8_join 119 = .ok (.iaload, 1) := by decide +kernel
theorem dX8_join_120 : decode cX8_join 120 = .ok (.invokestatic 139, 3) := by decide +kernel
theorem dX8_join_123 : decode cX8_join 123 = .ok (.istore 4, 2) := by decide +kernel
theorem dX8_join_125 : decode cX8_join 125 = .ok (.iconst 0, 1) := by decide +kernel
theorem dX8_join_126 : decode cX8_join 126 = .ok (.istore 5, 2) := by decide +kernel
theorem dX8_join_128 : decode cX8_join 128 = .ok (.iload 5, 2) := by decide +kernel
theorem dX8_join_130 : decode cX8_join 130 = .ok (.aload_n 0, 1) := by decide +kernel
theorem dX8_join_131 : decode cX8_join 131 = .ok (.getfield 118, 3) := by decide +kernel
theorem dX8_join_134 : decode cX8_join 134 = .ok (.if_icmp .ge 29, 3) := by decide +kernel
theorem dX8_join_137 : decode cX8_join 137 = .ok (.aload_n 0, 1) := by decide +kernel
theorem dX8_join_138 : decode cX8_join 138 = .ok (.getfield 33, 3) := by decide +kernel
theorem dX8_join_141 : decode cX8_join 141 = .ok (.iload 5, 2) := by decide +kernel
theorem dX8_join_143 : decode cX8_join 143 = .ok (.iaload, 1) := by decide +kernel
theorem dX8_join_144 : decode cX8_join 144 = .ok (.iload 4, 2) := by decide +kernel
theorem dX8_join_146 : decode cX8_join 146 = .ok (.if_icmp .ne 11, 3) := by decide +kernel
theorem dX8_join_149 : decode cX8_join 149 = .ok (.aload_n 0, 1) := by decide +kernel
theorem dX8_join_150 : decode cX8_join 150 = .ok (.getfield 33, 3) := by decide +kernel
theorem dX8_join_153 : decode cX8_join 153 = .ok (.iload 5, 2) := by decide +kernel
theorem dX8_join_155 : decode cX8_join 155 = .ok (.iload_n 3, 1) := by decide +kernel
theorem dX8_join_156 : decode cX8_join 156 = .ok (.iastore, 1) := by decide +kernel
theorem dX8_join_157 : decode cX8_join 157 = .ok (.iinc 5 1, 3) := by decide +kernel
theorem dX8_join_160 : decode cX8_join 160 = .ok (.goto (-32), 3) := by decide +kernel
theorem dX8_join_163 : decode cX8_join 163 = .ok (.iconst 1, 1) := by decide +kernel
theorem dX8_join_164 : decode cX8_join 164 = .ok (.ireturn, 1) := by decide +kernel
theorem dX8_isPerson_0 : decode cX8_isPerson 0 = .ok (.iload_n 0, 1) := by decide +kernel
theorem dX8_isPerson_1 : decode cX8_isPerson 1 = .ok (.ifCond .lt 13, 3) := by decide +kernel
theorem dX8_isPerson_4 : decode cX8_isPerson 4 = .ok (.iload_n 0, 1) := by decide +kernel
theorem dX8_isPerson_5 : decode cX8_isPerson 5 = .ok (.bipush 16, 2) := by decide +kernel
theorem dX8_isPerson_7 : decode cX8_isPerson 7 = .ok (.if_icmp .ge 7, 3) := by decide +kernel
theorem dX8_isPerson_10 : decode cX8_isPerson 10 = .ok (.iconst 1, 1) := by decide +kernel
theorem dX8_isPerson_11 : decode cX8_isPerson 11 = .ok (.goto 4, 3) := by decide +kernel
theorem dX8_isPerson_14 : decode cX8_isPerson 14 = .ok (.iconst 0, 1) := by decide +kernel
theorem dX8_isPerson_15 : decode cX8_isPerson 15 = .ok (.ireturn, 1) := by decide +kernel
theorem dX8_isDay_0 : decode cX8_isDay 0 = .ok (.iload_n 0, 1) := by decide +kernel
theorem dX8_isDay_1 : decode cX8_isDay 1 = .ok (.ifCond .lt 13, 3) := by decide +kernel
theorem dX8_isDay_4 : decode cX8_isDay 4 = .ok (.iload_n 0, 1) := by decide +kernel
theorem dX8_isDay_5 : decode cX8_isDay 5 = .ok (.ldc 145, 2) := by decide +kernel
theorem dX8_isDay_7 : decode cX8_isDay 7 = .ok (.if_icmp .gt 7, 3) := by decide +kernel
theorem dX8_isDay_10 : decode cX8_isDay 10 = .ok (.iconst 1, 1) := by decide +kernel
theorem dX8_isDay_11 : decode cX8_isDay 11 = .ok (.goto 4, 3) := by decide +kernel
theorem dX8_isDay_14 : decode cX8_isDay 14 = .ok (.iconst 0, 1) := by decide +kernel
theorem dX8_isDay_15 : decode cX8_isDay 15 = .ok (.ireturn, 1) := by decide +kernel
theorem dX8_close_0 : decode cX8_close 0 = .ok (.aload_n 0, 1) := by decide +kernel
theorem dX8_close_1 : decode cX8_close 1 = .ok (.iconst 0, 1) := by decide +kernel
theorem dX8_close_2 : decode cX8_close 2 = .ok (.putfield 93, 3) := by decide +kernel
theorem dX8_close_5 : decode cX8_close 5 = .ok (.aload_n 0, 1) := by decide +kernel
theorem dX8_close_6 : decode cX8_close 6 = .ok (.iconst 0, 1) := by decide +kernel
theorem dX8_close_7 : decode cX8_close 7 = .ok (.putfield 97, 3) := by decide +kernel
theorem dX8_close_10 : decode cX8_close 10 = .ok (.aload_n 0, 1) := by decide +kernel
theorem dX8_close_11 : decode cX8_close 11 = .ok (.iload_n 1, 1) := by decide +kernel
theorem dX8_close_12 : decode cX8_close 12 = .ok (.invokevirtual 124, 3) := by decide +kernel
theorem dX8_close_15 : decode cX8_close 15 = .ok (.ifCond .ne 9, 3) := by decide +kernel
theorem dX8_close_18 : decode cX8_close 18 = .ok (.aload_n 0, 1) := by decide +kernel
theorem dX8_close_19 : decode cX8_close 19 = .ok (.iconst 2, 1) := by decide +kernel
theorem dX8_close_20 : decode cX8_close 20 = .ok (.invokevirtual 100, 3) := by decide +kernel
theorem dX8_close_23 : decode cX8_close 23 = .ok (.ireturn, 1) := by decide +kernel
theorem dX8_close_24 : decode cX8_close 24 = .ok (.iload_n 2, 1) := by decide +kernel
theorem dX8_close_25 : decode cX8_close 25 = .ok (.iconst (-1), 1) := by decide +kernel
theorem dX8_close_26 : decode cX8_close 26 = .ok (.if_icmp .lt 19, 3) := by decide +kernel
theorem dX8_close_29 : decode cX8_close 29 = .ok (.iload_n 2, 1) := by decide +kernel
theorem dX8_close_30 : decode cX8_close 30 = .ok (.ldc 146, 2) := by decide +kernel
theorem dX8_close_32 : decode cX8_close 32 = .ok (.if_icmp .gt 13, 3) := by decide +kernel
theorem dX8_close_35 : decode cX8_close 35 = .ok (.iload_n 3, 1) := by decide +kernel
theorem dX8_close_36 : decode cX8_close 36 = .ok (.ifCond .lt 9, 3) := by decide +kernel
theorem dX8_close_39 : decode cX8_close 39 = .ok (.iload_n 3, 1) := by decide +kernel
theorem dX8_close_40 : decode cX8_close 40 = .ok (.ldc 147, 2) := by decide +kernel
theorem dX8_close_42 : decode cX8_close 42 = .ok (.if_icmp .le 9, 3) := by decide +kernel
theorem dX8_close_45 : decode cX8_close 45 = .ok (.aload_n 0, 1) := by decide +kernel
theorem dX8_close_46 : decode cX8_close 46 = .ok (.iconst 5, 1) := by decide +kernel
theorem dX8_close_47 : decode cX8_close 47 = .ok (.invokevirtual 100, 3) := by decide +kernel
theorem dX8_close_50 : decode cX8_close 50 = .ok (.ireturn, 1) := by decide +kernel
theorem dX8_close_51 : decode cX8_close 51 = .ok (.aload_n 0, 1) := by decide +kernel
theorem dX8_close_52 : decode cX8_close 52 = .ok (.getfield 45, 3) := by decide +kernel
theorem dX8_close_55 : decode cX8_close 55 = .ok (.iload_n 1, 1) := by decide +kernel
theorem dX8_close_56 : decode cX8_close 56 = .ok (.iload_n 2, 1) := by decide +kernel
theorem dX8_close_57 : decode cX8_close 57 = .ok (.iastore, 1) := by decide +kernel
theorem dX8_close_58 : decode cX8_close 58 = .ok (.aload_n 0, 1) := by decide +kernel
theorem dX8_close_59 : decode cX8_close 59 = .ok (.getfield 48, 3) := by decide +kernel
theorem dX8_close_62 : decode cX8_close 62 = .ok (.iload_n 1, 1) := by decide +kernel
theorem dX8_close_63 : decode cX8_close 63 = .ok (.iload_n 3, 1) := by decide +kernel
theorem dX8_close_64 : decode cX8_close 64 = .ok (.iastore, 1) := by decide +kernel
theorem dX8_close_65 : decode cX8_close 65 = .ok (.iconst 1, 1) := by decide +kernel
theorem dX8_close_66 : decode cX8_close 66 = .ok (.ireturn, 1) := by decide +kernel
theorem dX8_seesOf_0 : decode cX8_seesOf 0 = .ok (.iload_n 1, 1) := by decide +kernel
theorem dX8_seesOf_1 : decode cX8_seesOf 1 = .ok (.istore 4, 2) := by decide +kernel
theorem dX8_seesOf_3 : decode cX8_seesOf 3 = .ok (.iload 4, 2) := by decide +kernel
theorem dX8_seesOf_5 : decode cX8_seesOf 5 = .ok (.ifCond .lt 42, 3) := by decide +kernel
theorem dX8_seesOf_8 : decode cX8_seesOf 8 = .ok (.aload_n 0, 1) := by decide +kernel
theorem dX8_seesOf_9 : decode cX8_seesOf 9 = .ok (.getfield 45, 3) := by decide +kernel
theorem dX8_seesOf_12 : decode cX8_seesOf 12 = .ok (.iload 4, 2) := by decide +kernel
theorem dX8_seesOf_14 : decode cX8_seesOf 14 = .ok (.iaload, 1) := by decide +kernel
theorem dX8_seesOf_15 : decode cX8_seesOf 15 = .ok (.iload_n 3, 1) := by decide +kernel
theorem dX8_seesOf_16 : decode cX8_seesOf 16 = .ok (.if_icmp .le 19, 3) := by decide +kernel
theorem dX8_seesOf_19 : decode cX8_seesOf 19 = .ok (.aload_n 0, 1) := by decide +kernel
theorem dX8_seesOf_20 : decode cX8_seesOf 20 = .ok (.getfield 48, 3) := by decide +kernel
theorem dX8_seesOf_23 : decode cX8_seesOf 23 = .ok (.iload 4, 2) := by decide +kernel
theorem dX8_seesOf_25 : decode cX8_seesOf 25 = .ok (.iaload, 1) := by decide +kernel
theorem dX8_seesOf_26 : decode cX8_seesOf 26 = .ok (.iload_n 2, 1) := by decide +kernel
theorem dX8_seesOf_27 : decode cX8_seesOf 27 = .ok (.ishr, 1) := by decide +kernel
theorem dX8_seesOf_28 : decode cX8_seesOf 28 = .ok (.iconst 1, 1) := by decide +kernel
theorem dX8_seesOf_29 : decode cX8_seesOf 29 = .ok (.iand, 1) := by decide +kernel
theorem dX8_seesOf_30 : decode cX8_seesOf 30 = .ok (.ifCond .ne 5, 3) := by decide +kernel
theorem dX8_seesOf_33 : decode cX8_seesOf 33 = .ok (.iconst 0, 1) := by decide +kernel
theorem dX8_seesOf_34 : decode cX8_seesOf 34 = .ok (.ireturn, 1) := by decide +kernel
theorem dX8_seesOf_35 : decode cX8_seesOf 35 = .ok (.aload_n 0, 1) := by decide +kernel
theorem dX8_seesOf_36 : decode cX8_seesOf 36 = .ok (.getfield 27, 3) := by decide +kernel
theorem dX8_seesOf_39 : decode cX8_seesOf 39 = .ok (.iload 4, 2) := by decide +kernel
theorem dX8_seesOf_41 : decode cX8_seesOf 41 = .ok (.iaload, 1) := by decide +kernel
theorem dX8_seesOf_42 : decode cX8_seesOf 42 = .ok (.istore 4, 2) := by decide +kernel
theorem dX8_seesOf_44 : decode cX8_seesOf 44 = .ok (.goto (-41), 3) := by decide +kernel
theorem dX8_seesOf_47 : decode cX8_seesOf 47 = .ok (.iconst 1, 1) := by decide +kernel
theorem dX8_seesOf_48 : decode cX8_seesOf 48 = .ok (.ireturn, 1) := by decide +kernel
theorem dX8_sees_0 : decode cX8_sees 0 = .ok (.aload_n 0, 1) := by decide +kernel
theorem dX8_sees_1 : decode cX8_sees 1 = .ok (.iconst 0, 1) := by decide +kernel
theorem dX8_sees_2 : decode cX8_sees 2 = .ok (.putfield 93, 3) := by decide +kernel
theorem dX8_sees_5 : decode cX8_sees 5 = .ok (.aload_n 0, 1) := by decide +kernel
theorem dX8_sees_6 : decode cX8_sees 6 = .ok (.iconst 0, 1) := by decide +kernel
theorem dX8_sees_7 : decode cX8_sees 7 = .ok (.putfield 97, 3) := by decide +kernel
theorem dX8_sees_10 : decode cX8_sees 10 = .ok (.aload_n 0, 1) := by decide +kernel
theorem dX8_sees_11 : decode cX8_sees 11 = .ok (.iload_n 1, 1) := by decide +kernel
theorem dX8_sees_12 : decode cX8_sees 12 = .ok (.invokevirtual 124, 3) := by decide +kernel
theorem dX8_sees_15 : decode cX8_sees 15 = .ok (.ifCond .eq 10, 3) := by decide +kernel
theorem dX8_sees_18 : decode cX8_sees 18 = .ok (.iload_n 2, 1) := by decide +kernel
theorem dX8_sees_19 : decode cX8_sees 19 = .ok (.invokestatic 148, 3) := by decide +kernel
theorem dX8_sees_22 : decode cX8_sees 22 = .ok (.ifCond .ne 9, 3) := by decide +kernel
theorem dX8_sees_25 : decode cX8_sees 25 = .ok (.aload_n 0, 1) := by decide +kernel
theorem dX8_sees_26 : decode cX8_sees 26 = .ok (.iconst 2, 1) := by decide +kernel
theorem dX8_sees_27 : decode cX8_sees 27 = .ok (.invokevirtual 121, 3) := by decide +kernel
theorem dX8_sees_30 : decode cX8_sees 30 = .ok (.ireturn, 1) := by decide +kernel
theorem dX8_sees_31 : decode cX8_sees 31 = .ok (.iload_n 3, 1) := by decide +kernel
theorem dX8_sees_32 : decode cX8_sees 32 = .ok (.invokestatic 151, 3) := by decide +kernel
theorem dX8_sees_35 : decode cX8_sees 35 = .ok (.ifCond .ne 9, 3) := by decide +kernel
theorem dX8_sees_38 : decode cX8_sees 38 = .ok (.aload_n 0, 1) := by decide +kernel
theorem dX8_sees_39 : decode cX8_sees 39 = .ok (.iconst 5, 1) := by decide +kernel
theorem dX8_sees_40 : decode cX8_sees 40 = .ok (.invokevirtual 121, 3) := by decide +kernel
theorem dX8_sees_43 : decode cX8_sees 43 = .ok (.ireturn, 1) := by decide +kernel
theorem dX8_sees_44 : decode cX8_sees 44 = .ok (.aload_n 0, 1) := by decide +kernel
theorem dX8_sees_45 : decode cX8_sees 45 = .ok (.iload_n 1, 1) := by decide +kernel
theorem dX8_sees_46 : decode cX8_sees 46 = .ok (.iload_n 2, 1) := by decide +kernel
theorem dX8_sees_47 : decode cX8_sees 47 = .ok (.iload_n 3, 1) := by decide +kernel
theorem dX8_sees_48 : decode cX8_sees 48 = .ok (.invokevirtual 154, 3) := by decide +kernel
theorem dX8_sees_51 : decode cX8_sees 51 = .ok (.ifCond .eq 7, 3) := by decide +kernel
theorem dX8_sees_54 : decode cX8_sees 54 = .ok (.iconst 1, 1) := by decide +kernel
theorem dX8_sees_55 : decode cX8_sees 55 = .ok (.goto 4, 3) := by decide +kernel
theorem dX8_sees_58 : decode cX8_sees 58 = .ok (.iconst 0, 1) := by decide +kernel
theorem dX8_sees_59 : decode cX8_sees 59 = .ok (.ireturn, 1) := by decide +kernel
theorem dX8_isPart_0 : decode cX8_isPart 0 = .ok (.iload_n 1, 1) := by decide +kernel
theorem dX8_isPart_1 : decode cX8_isPart 1 = .ok (.istore_n 3, 1) := by decide +kernel
theorem dX8_isPart_2 : decode cX8_isPart 2 = .ok (.iload_n 3, 1) := by decide +kernel
theorem dX8_isPart_3 : decode cX8_isPart 3 = .ok (.ifCond .lt 18, 3) := by decide +kernel
theorem dX8_isPart_6 : decode cX8_isPart 6 = .ok (.iload_n 3, 1) := by decide +kernel
theorem dX8_isPart_7 : decode cX8_isPart 7 = .ok (.iload_n 2, 1) := by decide +kernel
theorem dX8_isPart_8 : decode cX8_isPart 8 = .ok (.if_icmp .eq 13, 3) := by decide +kernel
theorem dX8_isPart_11 : decode cX8_isPart 11 = .ok (.aload_n 0, 1) := by decide +kernel
theorem dX8_isPart_12 : decode cX8_isPart 12 = .ok (.getfield 27, 3) := by decide +kernel
theorem dX8_isPart_15 : decode cX8_isPart 15 = .ok (.iload_n 3, 1) := by decide +kernel
theorem dX8_isPart_16 : decode cX8_isPart 16 = .ok (.iaload, 1) := by decide +kernel
theorem dX8_isPart_17 : decode cX8_isPart 17 = .ok (.istore_n 3, 1) := by decide +kernel
theorem dX8_isPart_18 : decode cX8_isPart 18 = .ok (.goto (-16), 3) := by decide +kernel
theorem dX8_isPart_21 : decode cX8_isPart 21 = .ok (.iload_n 3, 1) := by decide +kernel
theorem dX8_isPart_22 : decode cX8_isPart 22 = .ok (.iload_n 2, 1) := by decide +kernel
theorem dX8_isPart_23 : decode cX8_isPart 23 = .ok (.if_icmp .ne 7, 3) := by decide +kernel
theorem dX8_isPart_26 : decode cX8_isPart 26 = .ok (.iconst 1, 1) := by decide +kernel
theorem dX8_isPart_27 : decode cX8_isPart 27 = .ok (.goto 4, 3) := by decide +kernel
theorem dX8_isPart_30 : decode cX8_isPart 30 = .ok (.iconst 0, 1) := by decide +kernel
theorem dX8_isPart_31 : decode cX8_isPart 31 = .ok (.ireturn, 1) := by decide +kernel
theorem dX8_number_0 : decode cX8_number 0 = .ok (.aload_n 0, 1) := by decide +kernel
theorem dX8_number_1 : decode cX8_number 1 = .ok (.iconst 0, 1) := by decide +kernel
theorem dX8_number_2 : decode cX8_number 2 = .ok (.putfield 93, 3) := by decide +kernel
theorem dX8_number_5 : decode cX8_number 5 = .ok (.aload_n 0, 1) := by decide +kernel
theorem dX8_number_6 : decode cX8_number 6 = .ok (.iconst 0, 1) := by decide +kernel
theorem dX8_number_7 : decode cX8_number 7 = .ok (.putfield 97, 3) := by decide +kernel
theorem dX8_number_10 : decode cX8_number 10 = .ok (.aload_n 0, 1) := by decide +kernel
theorem dX8_number_11 : decode cX8_number 11 = .ok (.iload_n 1, 1) := by decide +kernel
theorem dX8_number_12 : decode cX8_number 12 = .ok (.invokevirtual 124, 3) := by decide +kernel
theorem dX8_number_15 : decode cX8_number 15 = .ok (.ifCond .eq 10, 3) := by decide +kernel
theorem dX8_number_18 : decode cX8_number 18 = .ok (.iload_n 3, 1) := by decide +kernel
theorem dX8_number_19 : decode cX8_number 19 = .ok (.invokestatic 148, 3) := by decide +kernel
theorem dX8_number_22 : decode cX8_number 22 = .ok (.ifCond .ne 9, 3) := by decide +kernel
theorem dX8_number_25 : decode cX8_number 25 = .ok (.aload_n 0, 1) := by decide +kernel
theorem dX8_number_26 : decode cX8_number 26 = .ok (.iconst 2, 1) := by decide +kernel
theorem dX8_number_27 : decode cX8_number 27 = .ok (.invokevirtual 121, 3) := by decide +kernel
theorem dX8_number_30 : decode cX8_number 30 = .ok (.ireturn, 1) := by decide +kernel
theorem dX8_number_31 : decode cX8_number 31 = .ok (.iload_n 2, 1) := by decide +kernel
theorem dX8_number_32 : decode cX8_number 32 = .ok (.ifCond .lt 16, 3) := by decide +kernel
theorem dX8_number_35 : decode cX8_number 35 = .ok (.iload_n 2, 1) := by decide +kernel
theorem dX8_number_36 : decode cX8_number 36 = .ok (.iconst 3, 1) := by decide +kernel
theorem dX8_number_37 : decode cX8_number 37 = .ok (.if_icmp .gt 11, 3) := by decide +kernel
theorem dX8_number_40 : decode cX8_number 40 = .ok (.iload 4, 2) := by decide +kernel
theorem dX8_number_42 : decode cX8_number 42 = .ok (.invokestatic 151, 3) := by decide +kernel
theorem dX8_number_45 : decode cX8_number 45 = .ok (.ifCond .ne 9, 3) := by decide +kernel
theorem dX8_number_48 : decode cX8_number 48 = .ok (.aload_n 0, 1) := by decide +kernel
theorem dX8_number_49 : decode cX8_number 49 = .ok (.iconst 5, 1) := by decide +kernel
theorem dX8_number_50 : decode cX8_number 50 = .ok (.invokevirtual 121, 3) := by decide +kernel
theorem dX8_number_53 : decode cX8_number 53 = .ok (.ireturn, 1) := by decide +kernel
theorem dX8_number_54 : decode cX8_number 54 = .ok (.iconst 0, 1) := by decide +kernel
theorem dX8_number_55 : decode cX8_number 55 = .ok (.istore 5, 2) := by decide +kernel
theorem dX8_number_57 : decode cX8_number 57 = .ok (.iconst 0, 1) := by decide +kernel
theorem dX8_number_58 : decode cX8_number 58 = .ok (.istore 6, 2) := by decide +kernel
theorem dX8_number_60 : decode cX8_number 60 = .ok (.iload 6, 2) := by decide +kernel
theorem dX8_number_62 : decode cX8_number 62 = .ok (.aload_n 0, 1) := by decide +kernel
theorem dX8_number_63 : decode cX8_number 63 = .ok (.getfield 118, 3) := by decide +kernel
theorem dX8_number_66 : decode cX8_number 66 = .ok (.if_icmp .ge 127, 3) := by decide +kernel
theorem dX8_number_69 : decode cX8_number 69 = .ok (.aload_n 0, 1) := by decide +kernel
theorem dX8_number_70 : decode cX8_number 70 = .ok (.iload 6, 2) := by decide +kernel
theorem dX8_number_72 : decode cX8_number 72 = .ok (.iload_n 1, 1) := by decide +kernel
theorem dX8_number_73 : decode cX8_number 73 = .ok (.invokevirtual 158, 3) := by decide +kernel
theorem dX8_number_76 : decode cX8_number 76 = .ok (.ifCond .eq 111, 3) := by decide +kernel
theorem dX8_number_79 : decode cX8_number 79 = .ok (.aload_n 0, 1) := by decide +kernel
theorem dX8_number_80 : decode cX8_number 80 = .ok (.iload 6, 2) := by decide +kernel
theorem dX8_number_82 : decode cX8_number 82 = .ok (.iload_n 3, 1) := by decide +kernel
theorem dX8_number_83 : decode cX8_number 83 = .ok (.iload 4, 2) := by decide +kernel
theorem dX8_number_85 : decode cX8_number 85 = .ok (.invokevirtual 154, 3) := by decide +kernel
theorem dX8_number_88 : decode cX8_number 88 = .ok (.ifCond .ne 6, 3) := by decide +kernel
theorem dX8_number_91 : decode cX8_number 91 = .ok (.goto 96, 3) := by decide +kernel
theorem dX8_number_94 : decode cX8_number 94 = .ok (.iload_n 2, 1) := by decide +kernel
theorem dX8_number_95 : decode cX8_number 95 = .ok (.iconst 3, 1) := by decide +kernel
theorem dX8_number_96 : decode cX8_number 96 = .ok (.if_icmp .ge 27, 3) := by decide +kernel
theorem dX8_number_99 : decode cX8_number 99 = .ok (.iload 5, 2) := by decide +kernel
theorem dX8_number_101 : decode cX8_number 101 = .ok (.aload_n 0, 1) := by decide +kernel
theorem dX8_number_102 : decode cX8_number 102 = .ok (.getfield 24, 3) := by decide +kernel
theorem dX8_number_105 : decode cX8_number 105 = .ok (.iload 6, 2) := by decide +kernel
theorem dX8_number_107 : decode cX8_number 107 = .ok (.iaload, 1) := by decide +kernel
theorem dX8_number_108 : decode cX8_number 108 = .ok (.iload_n 2, 1) := by decide +kernel
theorem dX8_number_109 : decode cX8_number 109 = .ok (.if_icmp .ne 7, 3) := by decide +kernel
theorem dX8_number_112 : decode cX8_number 112 = .ok (.iconst 1, 1) := by decide +kernel
theorem dX8_number_113 : decode cX8_number 113 = .ok (.goto 4, 3) := by decide +kernel
theorem dX8_number_116 : decode cX8_number 116 = .ok (.iconst 0, 1) := by decide +kernel
theorem dX8_number_117 : decode cX8_number 117 = .ok (.iadd, 1) := by decide +kernel
theorem dX8_number_118 : decode cX8_number 118 = .ok (.istore 5, 2) := by decide +kernel
theorem dX8_number_120 : decode cX8_number 120 = .ok (.goto 67, 3) := by decide +kernel
theorem dX8_number_123 : decode cX8_number 123 = .ok (.aload_n 0, 1) := by decide +kernel
theorem dX8_number_124 : decode cX8_number 124 = .ok (.getfield 24, 3) := by decide +kernel
theorem dX8_number_127 : decode cX8_number 127 = .ok (.iload 6, 2) := by decide +kernel
theorem dX8_number_129 : decode cX8_number 129 = .ok (.iaload, 1) := by decide +kernel
theorem dX8_number_130 : decode cX8_number 130 = .ok (.iconst 2, 1) := by decide +kernel
theorem dX8_number_131 : decode cX8_number 131 = .ok (.if_icmp .ne 22, 3) := by decide +kernel
theorem dX8_number_134 : decode cX8_number 134 = .ok (.iload 5, 2) := by decide +kernel
theorem dX8_number_136 : decode cX8_number 136 = .ok (.iconst 0, 1) := by decide +kernel
theorem dX8_number_137 : decode cX8_number 137 = .ok (.aload_n 0, 1) := by decide +kernel
theorem dX8_number_138 : decode cX8_number 138 = .ok (.getfield 30, 3) := by decide +kernel
theorem dX8_number_141 : decode cX8_number 141 = .ok (.iload 6, 2) := by decide +kernel
theorem dX8_number_143 : decode cX8_number 143 = .ok (.iaload, 1) := by decide +kernel
theorem dX8_number_144 : decode cX8_number 144 = .ok (.invokestatic 139, 3) := by decide +kernel
theorem dX8_number_147 : decode cX8_number 147 = .ok (.iadd, 1) := by decide +kernel
theorem dX8_number_148 : decode cX8_number 148 = .ok (.istore 5, 2) := by decide +kernel
theorem dX8_number_150 : decode cX8_number 150 = .ok (.goto 37, 3) := by decide +kernel
theorem dX8_number_153 : decode cX8_number 153 = .ok (.aload_n 0, 1) := by decide +kernel
theorem dX8_number_154 : decode cX8_number 154 = .ok (.getfield 24, 3) := by decide +kernel
theorem dX8_number_157 : decode cX8_number 157 = .ok (.iload 6, 2) := by decide +kernel
theorem dX8_number_159 : decode cX8_number 159 = .ok (.iaload, 1) := by decide +kernel
theorem dX8_number_160 : decode cX8_number 160 = .ok (.iconst 3, 1) := by decide +kernel
theorem dX8_number_161 : decode cX8_number 161 = .ok (.if_icmp .ne 26, 3) := by decide +kernel
theorem dX8_number_164 : decode cX8_number 164 = .ok (.iload 5, 2) := by decide +kernel
theorem dX8_number_166 : decode cX8_number 166 = .ok (.aload_n 0, 1) := by decide +kernel
theorem dX8_number_167 : decode cX8_number 167 = .ok (.iload 6, 2) := by decide +kernel
theorem dX8_number_169 : decode cX8_number 169 = .ok (.iload_n 1, 1) := by decide +kernel
theorem dX8_number_170 : decode cX8_number 170 = .ok (.iload_n 3, 1) := by decide +kernel
theorem dX8_number_171 : decode cX8_number 171 = .ok (.iload 4, 2) := by decide +kernel
theorem dX8_number_173 : decode cX8_number 173 = .ok (.invokevirtual 162, 3) := by decide +kernel
theorem dX8_number_176 : decode cX8_number 176 = .ok (.ifCond .eq 7, 3) := by decide +kernel
theorem dX8_number_179 : decode cX8_number 179 = .ok (.iconst 1, 1) := by decide +kernel
theorem dX8_number_180 : decode cX8_number 180 = .ok (.goto 4, 3) := by decide +kernel
theorem dX8_number_183 : decode cX8_number 183 = .ok (.iconst 0, 1) := by decide +kernel
theorem dX8_number_184 : decode cX8_number 184 = .ok (.iadd, 1) := by decide +kernel
theorem dX8_number_185 : decode cX8_number 185 = .ok (.istore 5, 2) := by decide +kernel
theorem dX8_number_187 : decode cX8_number 187 = .ok (.iinc 6 1, 3) := by decide +kernel
theorem dX8_number_190 : decode cX8_number 190 = .ok (.goto (-130), 3) := by decide +kernel
theorem dX8_number_193 : decode cX8_number 193 = .ok (.iload 5, 2) := by decide +kernel
theorem dX8_number_195 : decode cX8_number 195 = .ok (.ireturn, 1) := by decide +kernel
theorem dX8_isFirst_0 : decode cX8_isFirst 0 = .ok (.iconst 0, 1) := by decide +kernel
theorem dX8_isFirst_1 : decode cX8_isFirst 1 = .ok (.istore 5, 2) := by decide +kernel
theorem dX8_isFirst_3 : decode cX8_isFirst 3 = .ok (.iload 5, 2) := by decide +kernel
theorem dX8_isFirst_5 : decode cX8_isFirst 5 = .ok (.iload_n 1, 1) := by decide +kernel
theorem dX8_isFirst_6 : decode cX8_isFirst 6 = .ok (.if_icmp .ge 60, 3) := by decide +kernel
theorem dX8_isFirst_9 : decode cX8_isFirst 9 = .ok (.aload_n 0, 1) := by decide +kernel
theorem dX8_isFirst_10 : decode cX8_isFirst 10 = .ok (.getfield 24, 3) := by decide +kernel
theorem dX8_isFirst_13 : decode cX8_isFirst 13 = .ok (.iload 5, 2) := by decide +kernel
theorem dX8_isFirst_15 : decode cX8_isFirst 15 = .ok (.iaload, 1) := by decide +kernel
theorem dX8_isFirst_16 : decode cX8_isFirst 16 = .ok (.iconst 3, 1) := by decide +kernel
theorem dX8_isFirst_17 : decode cX8_isFirst 17 = .ok (.if_icmp .ne 43, 3) := by decide +kernel
theorem dX8_isFirst_20 : decode cX8_isFirst 20 = .ok (.aload_n 0, 1) := by decide +kernel
theorem dX8_isFirst_21 : decode cX8_isFirst 21 = .ok (.getfield 33, 3) := by decide +kernel
theorem dX8_isFirst_24 : decode cX8_isFirst 24 = .ok (.iload 5, 2) := by decide +kernel
theorem dX8_isFirst_26 : decode cX8_isFirst 26 = .ok (.iaload, 1) := by decide +kernel
theorem dX8_isFirst_27 : decode cX8_isFirst 27 = .ok (.aload_n 0, 1) := by decide +kernel
theorem dX8_isFirst_28 : decode cX8_isFirst 28 = .ok (.getfield 33, 3) := by decide +kernel
theorem dX8_isFirst_31 : decode cX8_isFirst 31 = .ok (.iload_n 1, 1) := by decide +kernel
theorem dX8_isFirst_32 : decode cX8_isFirst 32 = .ok (.iaload, 1) := by decide +kernel
theorem dX8_isFirst_33 : decode cX8_isFirst 33 = .ok (.if_icmp .ne 27, 3) := by decide +kernel
theorem dX8_isFirst_36 : decode cX8_isFirst 36 = .ok (.aload_n 0, 1) := by decide +kernel
theorem dX8_isFirst_37 : decode cX8_isFirst 37 = .ok (.iload 5, 2) := by decide +kernel
theorem dX8_isFirst_39 : decode cX8_isFirst 39 = .ok (.iload_n 2, 1) := by decide +kernel
theorem dX8_isFirst_40 : decode cX8_isFirst 40 = .ok (.invokevirtual 158, 3) := by decide +kernel
theorem dX8_isFirst_43 : decode cX8_isFirst 43 = .ok (.ifCond .eq 17, 3) := by decide +kernel
theorem dX8_isFirst_46 : decode cX8_isFirst 46 = .ok (.aload_n 0, 1) := by decide +kernel
theorem dX8_isFirst_47 : decode cX8_isFirst 47 = .ok (.iload 5, 2) := by decide +kernel
theorem dX8_isFirst_49 : decode cX8_isFirst 49 = .ok (.iload_n 3, 1) := by decide +kernel
theorem dX8_isFirst_50 : decode cX8_isFirst 50 = .ok (.iload 4, 2) := by decide +kernel
theorem dX8_isFirst_52 : decode cX8_isFirst 52 = .ok (.invokevirtual 154, 3) := by decide +kernel
theorem dX8_isFirst_55 : decode cX8_isFirst 55 = .ok (.ifCond .eq 5, 3) := by decide +kernel
theorem dX8_isFirst_58 : decode cX8_isFirst 58 = .ok (.iconst 0, 1) := by decide +kernel
theorem dX8_isFirst_59 : decode cX8_isFirst 59 = .ok (.ireturn, 1) := by decide +kernel
theorem dX8_isFirst_60 : decode cX8_isFirst 60 = .ok (.iinc 5 1, 3) := by decide +kernel
theorem dX8_isFirst_63 : decode cX8_isFirst 63 = .ok (.goto (-60), 3) := by decide +kernel
theorem dX8_isFirst_66 : decode cX8_isFirst 66 = .ok (.iconst 1, 1) := by decide +kernel
theorem dX8_isFirst_67 : decode cX8_isFirst 67 = .ok (.ireturn, 1) := by decide +kernel
theorem dX8_find_0 : decode cX8_find 0 = .ok (.aload_n 0, 1) := by decide +kernel
theorem dX8_find_1 : decode cX8_find 1 = .ok (.iconst 0, 1) := by decide +kernel
theorem dX8_find_2 : decode cX8_find 2 = .ok (.putfield 93, 3) := by decide +kernel
theorem dX8_find_5 : decode cX8_find 5 = .ok (.aload_n 0, 1) := by decide +kernel
theorem dX8_find_6 : decode cX8_find 6 = .ok (.iconst 0, 1) := by decide +kernel
theorem dX8_find_7 : decode cX8_find 7 = .ok (.putfield 97, 3) := by decide +kernel
theorem dX8_find_10 : decode cX8_find 10 = .ok (.iload 5, 2) := by decide +kernel
theorem dX8_find_12 : decode cX8_find 12 = .ok (.ifCond .lt 9, 3) := by decide +kernel
theorem dX8_find_15 : decode cX8_find 15 = .ok (.iload 5, 2) := by decide +kernel
theorem dX8_find_17 : decode cX8_find 17 = .ok (.iconst 4, 1) := by decide +kernel
theorem dX8_find_18 : decode cX8_find 18 = .ok (.if_icmp .lt 9, 3) := by decide +kernel
theorem dX8_find_21 : decode cX8_find 21 = .ok (.aload_n 0, 1) := by decide +kernel
theorem dX8_find_22 : decode cX8_find 22 = .ok (.iconst 1, 1) := by decide +kernel
theorem dX8_find_23 : decode cX8_find 23 = .ok (.invokevirtual 121, 3) := by decide +kernel
theorem dX8_find_26 : decode cX8_find 26 = .ok (.ireturn, 1) := by decide +kernel
theorem dX8_find_27 : decode cX8_find 27 = .ok (.iload_n 1, 1) := by decide +kernel
theorem dX8_find_28 : decode cX8_find 28 = .ok (.invokestatic 127, 3) := by decide +kernel
theorem dX8_find_31 : decode cX8_find 31 = .ok (.ifCond .eq 10, 3) := by decide +kernel
theorem dX8_find_34 : decode cX8_find 34 = .ok (.iload_n 3, 1) := by decide +kernel
theorem dX8_find_35 : decode cX8_find 35 = .ok (.invokestatic 148, 3) := by decide +kernel
theorem dX8_find_38 : decode cX8_find 38 = .ok (.ifCond .ne 9, 3) := by decide +kernel
theorem dX8_find_41 : decode cX8_find 41 = .ok (.aload_n 0, 1) := by decide +kernel
theorem dX8_find_42 : decode cX8_find 42 = .ok (.iconst 2, 1) := by decide +kernel
theorem dX8_find_43 : decode cX8_find 43 = .ok (.invokevirtual 121, 3) := by decide +kernel
theorem dX8_find_46 : decode cX8_find 46 = .ok (.ireturn, 1) := by decide +kernel
theorem dX8_find_47 : decode cX8_find 47 = .ok (.aload_n 0, 1) := by decide +kernel
theorem dX8_find_48 : decode cX8_find 48 = .ok (.getfield 17, 3) := by decide +kernel
theorem dX8_find_51 : decode cX8_find 51 = .ok (.iload 5, 2) := by decide +kernel
theorem dX8_find_53 : decode cX8_find 53 = .ok (.iaload, 1) := by decide +kernel
theorem dX8_find_54 : decode cX8_find 54 = .ok (.ifCond .ge 9, 3) := by decide +kernel
theorem dX8_find_57 : decode cX8_find 57 = .ok (.aload_n 0, 1) := by decide +kernel
theorem dX8_find_58 : decode cX8_find 58 = .ok (.iconst 3, 1) := by decide +kernel
theorem dX8_find_59 : decode cX8_find 59 = .ok (.invokevirtual 121, 3) := by decide +kernel
theorem dX8_find_62 : decode cX8_find 62 = .ok (.ireturn, 1) := by decide +kernel
theorem dX8_find_63 : decode cX8_find 63 = .ok (.iload_n 2, 1) := by decide +kernel
theorem dX8_find_64 : decode cX8_find 64 = .ok (.ifCond .lt 18, 3) := by decide +kernel
theorem dX8_find_67 : decode cX8_find 67 = .ok (.iload_n 2, 1) := by decide +kernel
theorem dX8_find_68 : decode cX8_find 68 = .ok (.sipush 999, 3) := by decide +kernel
theorem dX8_find_71 : decode cX8_find 71 = .ok (.if_icmp .gt 11, 3) := by decide +kernel
theorem dX8_find_74 : decode cX8_find 74 = .ok (.iload 4, 2) := by decide +kernel
theorem dX8_find_76 : decode cX8_find 76 = .ok (.invokestatic 151, 3) := by decide +kernel
theorem dX8_find_79 : decode cX8_find 79 = .ok (.ifCond .ne 9, 3) := by decide +kernel
theorem dX8_find_82 : decode cX8_find 82 = .ok (.aload_n 0, 1) := by decide +kernel
theorem dX8_find_83 : decode cX8_find 83 = .ok (.iconst 5, 1) := by decide +kernel
theorem dX8_find_84 : decode cX8_find 84 = .ok (.invokevirtual 121, 3) := by decide +kernel
theorem dX8_find_87 : decode cX8_find 87 = .ok (.ireturn, 1) := by decide +kernel
theorem dX8_find_88 : decode cX8_find 88 = .ok (.iconst 0, 1) := by decide +kernel
theorem dX8_find_89 : decode cX8_find 89 = .ok (.istore 6, 2) := by decide +kernel
theorem dX8_find_91 : decode cX8_find 91 = .ok (.iconst 0, 1) := by decide +kernel
theorem dX8_find_92 : decode cX8_find 92 = .ok (.istore 7, 2) := by decide +kernel
theorem dX8_find_94 : decode cX8_find 94 = .ok (.iload 7, 2) := by decide +kernel
theorem dX8_find_96 : decode cX8_find 96 = .ok (.aload_n 0, 1) := by decide +kernel
theorem dX8_find_97 : decode cX8_find 97 = .ok (.getfield 118, 3) := by decide +kernel
theorem dX8_find_100 : decode cX8_find 100 = .ok (.if_icmp .ge 87, 3) := by decide +kernel
theorem dX8_find_103 : decode cX8_find 103 = .ok (.aload_n 0, 1) := by decide +kernel
theorem dX8_find_104 : decode cX8_find 104 = .ok (.getfield 24, 3) := by decide +kernel
theorem dX8_find_107 : decode cX8_find 107 = .ok (.iload 7, 2) := by decide +kernel
theorem dX8_find_109 : decode cX8_find 109 = .ok (.iaload, 1) := by decide +kernel
theorem dX8_find_110 : decode cX8_find 110 = .ok (.iconst 3, 1) := by decide +kernel
theorem dX8_find_111 : decode cX8_find 111 = .ok (.if_icmp .ne 70, 3) := by decide +kernel
theorem dX8_find_114 : decode cX8_find 114 = .ok (.aload_n 0, 1) := by decide +kernel
theorem dX8_find_115 : decode cX8_find 115 = .ok (.iload 7, 2) := by decide +kernel
theorem dX8_find_117 : decode cX8_find 117 = .ok (.iload_n 1, 1) := by decide +kernel
theorem dX8_find_118 : decode cX8_find 118 = .ok (.invokevirtual 130, 3) := by decide +kernel
theorem dX8_find_121 : decode cX8_find 121 = .ok (.iload_n 2, 1) := by decide +kernel
theorem dX8_find_122 : decode cX8_find 122 = .ok (.if_icmp .ne 59, 3) := by decide +kernel
theorem dX8_find_125 : decode cX8_find 125 = .ok (.aload_n 0, 1) := by decide +kernel
theorem dX8_find_126 : decode cX8_find 126 = .ok (.iload 7, 2) := by decide +kernel
theorem dX8_find_128 : decode cX8_find 128 = .ok (.iload_n 3, 1) := by decide +kernel
theorem dX8_find_129 : decode cX8_find 129 = .ok (.iload 4, 2) := by decide +kernel
theorem dX8_find_131 : decode cX8_find 131 = .ok (.invokevirtual 154, 3) := by decide +kernel
theorem dX8_find_134 : decode cX8_find 134 = .ok (.ifCond .ne 6, 3) := by decide +kernel
theorem dX8_find_137 : decode cX8_find 137 = .ok (.goto 44, 3) := by decide +kernel
theorem dX8_find_140 : decode cX8_find 140 = .ok (.iload 6, 2) := by decide +kernel
theorem dX8_find_142 : decode cX8_find 142 = .ok (.aload_n 0, 1) := by decide +kernel
theorem dX8_find_143 : decode cX8_find 143 = .ok (.getfield 17, 3) := by decide +kernel
theorem dX8_find_146 : decode cX8_find 146 = .ok (.iload 5, 2) := by decide +kernel
theorem dX8_find_148 : decode cX8_find 148 = .ok (.iaload, 1) := by decide +kernel
theorem dX8_find_149 : decode cX8_find 149 = .ok (.if_icmp .ge 29, 3) := by decide +kernel
theorem dX8_find_152 : decode cX8_find 152 = .ok (.aload_n 0, 1) := by decide +kernel
theorem dX8_find_153 : decode cX8_find 153 = .ok (.getfield 20, 3) := by decide +kernel
theorem dX8_find_156 : decode cX8_find 156 = .ok (.bipush 40, 2) := by decide +kernel
theorem dX8_find_158 : decode cX8_find 158 = .ok (.iload 5, 2) := by decide +kernel
theorem dX8_find_160 : decode cX8_find 160 = .ok (.imul, 1) := by decide +kernel
theorem dX8_find_161 : decode cX8_find 161 = .ok (.iload 6, 2) := by decide +kernel
theorem dX8_find_163 : decode cX8_find 163 = .ok (.iadd, 1) := by decide +kernel
theorem dX8_find_164 : decode cX8_find 164 = .ok (.aload_n 0, 1) := by decide +kernel
theorem dX8_find_165 : decode cX8_find 165 = .ok (.getfield 13, 3) := by decide +kernel
theorem dX8_find_168 : decode cX8_find 168 = .ok (.iload 5, 2) := by decide +kernel
theorem dX8_find_170 : decode cX8_find 170 = .ok (.iaload, 1) := by decide +kernel
theorem dX8_find_171 : decode cX8_find 171 = .ok (.iload 7, 2) := by decide +kernel
theorem dX8_find_173 : decode cX8_find 173 = .ok (.i2l, 1) := by decide +kernel
theorem dX8_find_174 : decode cX8_find 174 = .ok (.invokestatic 112, 3) := by decide +kernel
theorem dX8_find_177 : decode cX8_find 177 = .ok (.lastore, 1) := by decide +kernel
theorem dX8_find_178 : decode cX8_find 178 = .ok (.iinc 6 1, 3) := by decide +kernel
theorem dX8_find_181 : decode cX8_find 181 = .ok (.iinc 7 1, 3) := by decide +kernel
theorem dX8_find_184 : decode cX8_find 184 = .ok (.goto (-90), 3) := by decide +kernel
theorem dX8_find_187 : decode cX8_find 187 = .ok (.iload 6, 2) := by decide +kernel
theorem dX8_find_189 : decode cX8_find 189 = .ok (.ireturn, 1) := by decide +kernel
theorem dX8_mark_0 : decode cX8_mark 0 = .ok (.aload_n 0, 1) := by decide +kernel
theorem dX8_mark_1 : decode cX8_mark 1 = .ok (.iconst 0, 1) := by decide +kernel
theorem dX8_mark_2 : decode cX8_mark 2 = .ok (.putfield 93, 3) := by decide +kernel
theorem dX8_mark_5 : decode cX8_mark 5 = .ok (.aload_n 0, 1) := by decide +kernel
theorem dX8_mark_6 : decode cX8_mark 6 = .ok (.iconst 0, 1) := by decide +kernel
theorem dX8_mark_7 : decode cX8_mark 7 = .ok (.putfield 97, 3) := by decide +kernel
theorem dX8_mark_10 : decode cX8_mark 10 = .ok (.aload_n 0, 1) := by decide +kernel
theorem dX8_mark_11 : decode cX8_mark 11 = .ok (.iload_n 1, 1) := by decide +kernel
theorem dX8_mark_12 : decode cX8_mark 12 = .ok (.invokevirtual 124, 3) := by decide +kernel
theorem dX8_mark_15 : decode cX8_mark 15 = .ok (.ifCond .ne 9, 3) := by decide +kernel
theorem dX8_mark_18 : decode cX8_mark 18 = .ok (.aload_n 0, 1) := by decide +kernel
theorem dX8_mark_19 : decode cX8_mark 19 = .ok (.iconst 2, 1) := by decide +kernel
theorem dX8_mark_20 : decode cX8_mark 20 = .ok (.invokevirtual 100, 3) := by decide +kernel
theorem dX8_mark_23 : decode cX8_mark 23 = .ok (.ireturn, 1) := by decide +kernel
theorem dX8_mark_24 : decode cX8_mark 24 = .ok (.iload_n 2, 1) := by decide +kernel
theorem dX8_mark_25 : decode cX8_mark 25 = .ok (.iconst (-1), 1) := by decide +kernel
theorem dX8_mark_26 : decode cX8_mark 26 = .ok (.if_icmp .lt 10, 3) := by decide +kernel
theorem dX8_mark_29 : decode cX8_mark 29 = .ok (.iload_n 2, 1) := by decide +kernel
theorem dX8_mark_30 : decode cX8_mark 30 = .ok (.sipush 9999, 3) := by decide +kernel
theorem dX8_mark_33 : decode cX8_mark 33 = .ok (.if_icmp .le 9, 3) := by decide +kernel
theorem dX8_mark_36 : decode cX8_mark 36 = .ok (.aload_n 0, 1) := by decide +kernel
theorem dX8_mark_37 : decode cX8_mark 37 = .ok (.iconst 5, 1) := by decide +kernel
theorem dX8_mark_38 : decode cX8_mark 38 = .ok (.invokevirtual 100, 3) := by decide +kernel
theorem dX8_mark_41 : decode cX8_mark 41 = .ok (.ireturn, 1) := by decide +kernel
theorem dX8_mark_42 : decode cX8_mark 42 = .ok (.iconst 0, 1) := by decide +kernel
theorem dX8_mark_43 : decode cX8_mark 43 = .ok (.istore_n 3, 1) := by decide +kernel
theorem dX8_mark_44 : decode cX8_mark 44 = .ok (.iload_n 3, 1) := by decide +kernel
theorem dX8_mark_45 : decode cX8_mark 45 = .ok (.aload_n 0, 1) := by decide +kernel
theorem dX8_mark_46 : decode cX8_mark 46 = .ok (.getfield 118, 3) := by decide +kernel
theorem dX8_mark_49 : decode cX8_mark 49 = .ok (.if_icmp .ge 35, 3) := by decide +kernel
theorem dX8_mark_52 : decode cX8_mark 52 = .ok (.iload_n 2, 1) := by decide +kernel
theorem dX8_mark_53 : decode cX8_mark 53 = .ok (.ifCond .lt 25, 3) := by decide +kernel
theorem dX8_mark_56 : decode cX8_mark 56 = .ok (.iload_n 3, 1) := by decide +kernel
theorem dX8_mark_57 : decode cX8_mark 57 = .ok (.iload_n 1, 1) := by decide +kernel
theorem dX8_mark_58 : decode cX8_mark 58 = .ok (.if_icmp .eq 20, 3) := by decide +kernel
theorem dX8_mark_61 : decode cX8_mark 61 = .ok (.aload_n 0, 1) := by decide +kernel
theorem dX8_mark_62 : decode cX8_mark 62 = .ok (.getfield 51, 3) := by decide +kernel
theorem dX8_mark_65 : decode cX8_mark 65 = .ok (.iload_n 3, 1) := by decide +kernel
theorem dX8_mark_66 : decode cX8_mark 66 = .ok (.iaload, 1) := by decide +kernel
theorem dX8_mark_67 : decode cX8_mark 67 = .ok (.iload_n 2, 1) := by decide +kernel
theorem dX8_mark_68 : decode cX8_mark 68 = .ok (.if_icmp .ne 10, 3) := by decide +kernel
theorem dX8_mark_71 : decode cX8_mark 71 = .ok (.aload_n 0, 1) := by decide +kernel
theorem dX8_mark_72 : decode cX8_mark 72 = .ok (.bipush 10, 2) := by decide +kernel
theorem dX8_mark_74 : decode cX8_mark 74 = .ok (.invokevirtual 100, 3) := by decide +kernel
theorem dX8_mark_77 : decode cX8_mark 77 = .ok (.ireturn, 1) := by decide +kernel
theorem dX8_mark_78 : decode cX8_mark 78 = .ok (.iinc 3 1, 3) := by decide +kernel
theorem dX8_mark_81 : decode cX8_mark 81 = .ok (.goto (-37), 3) := by decide +kernel
theorem dX8_mark_84 : decode cX8_mark 84 = .ok (.aload_n 0, 1) := by decide +kernel
theorem dX8_mark_85 : decode cX8_mark 85 = .ok (.getfield 51, 3) := by decide +kernel
theorem dX8_mark_88 : decode cX8_mark 88 = .ok (.iload_n 1, 1) := by decide +kernel
theorem dX8_mark_89 : decode cX8_mark 89 = .ok (.iload_n 2, 1) := by decide +kernel
theorem dX8_mark_90 : decode cX8_mark 90 = .ok (.iastore, 1) := by decide +kernel
theorem dX8_mark_91 : decode cX8_mark 91 = .ok (.iconst 1, 1) := by decide +kernel
theorem dX8_mark_92 : decode cX8_mark 92 = .ok (.ireturn, 1) := by decide +kernel
theorem dX8_walk_0 : decode cX8_walk 0 = .ok (.aload_n 0, 1) := by decide +kernel
theorem dX8_walk_1 : decode cX8_walk 1 = .ok (.iconst 0, 1) := by decide +kernel
theorem dX8_walk_2 : decode cX8_walk 2 = .ok (.putfield 93, 3) := by decide +kernel
theorem dX8_walk_5 : decode cX8_walk 5 = .ok (.aload_n 0, 1) := by decide +kernel
theorem dX8_walk_6 : decode cX8_walk 6 = .ok (.iconst 0, 1) := by decide +kernel
theorem dX8_walk_7 : decode cX8_walk 7 = .ok (.putfield 97, 3) := by decide +kernel
theorem dX8_walk_10 : decode cX8_walk 10 = .ok (.iload_n 2, 1) := by decide +kernel
theorem dX8_walk_11 : decode cX8_walk 11 = .ok (.invokestatic 148, 3) := by decide +kernel
theorem dX8_walk_14 : decode cX8_walk 14 = .ok (.ifCond .ne 9, 3) := by decide +kernel
theorem dX8_walk_17 : decode cX8_walk 17 = .ok (.aload_n 0, 1) := by decide +kernel
theorem dX8_walk_18 : decode cX8_walk 18 = .ok (.iconst 2, 1) := by decide +kernel
theorem dX8_walk_19 : decode cX8_walk 19 = .ok (.invokevirtual 121, 3) := by decide +kernel
theorem dX8_walk_22 : decode cX8_walk 22 = .ok (.ireturn, 1) := by decide +kernel
theorem dX8_walk_23 : decode cX8_walk 23 = .ok (.iload_n 1, 1) := by decide +kernel
theorem dX8_walk_24 : decode cX8_walk 24 = .ok (.ifCond .lt 10, 3) := by decide +kernel
theorem dX8_walk_27 : decode cX8_walk 27 = .ok (.iload_n 3, 1) := by decide +kernel
theorem dX8_walk_28 : decode cX8_walk 28 = .ok (.invokestatic 151, 3) := by decide +kernel
theorem dX8_walk_31 : decode cX8_walk 31 = .ok (.ifCond .ne 9, 3) := by decide +kernel
theorem dX8_walk_34 : decode cX8_walk 34 = .ok (.aload_n 0, 1) := by decide +kernel
theorem dX8_walk_35 : decode cX8_walk 35 = .ok (.iconst 5, 1) := by decide +kernel
theorem dX8_walk_36 : decode cX8_walk 36 = .ok (.invokevirtual 121, 3) := by decide +kernel
theorem dX8_walk_39 : decode cX8_walk 39 = .ok (.ireturn, 1) := by decide +kernel
theorem dX8_walk_40 : decode cX8_walk 40 = .ok (.iconst (-1), 1) := by decide +kernel
theorem dX8_walk_41 : decode cX8_walk 41 = .ok (.istore 4, 2) := by decide +kernel
theorem dX8_walk_43 : decode cX8_walk 43 = .ok (.iconst 0, 1) := by decide +kernel
theorem dX8_walk_44 : decode cX8_walk 44 = .ok (.istore 5, 2) := by decide +kernel
theorem dX8_walk_46 : decode cX8_walk 46 = .ok (.iload 5, 2) := by decide +kernel
theorem dX8_walk_48 : decode cX8_walk 48 = .ok (.iload_n 1, 1) := by decide +kernel
theorem dX8_walk_49 : decode cX8_walk 49 = .ok (.if_icmp .gt 115, 3) := by decide +kernel
theorem dX8_walk_52 : decode cX8_walk 52 = .ok (.iconst (-1), 1) := by decide +kernel
theorem dX8_walk_53 : decode cX8_walk 53 = .ok (.istore 6, 2) := by decide +kernel
theorem dX8_walk_55 : decode cX8_walk 55 = .ok (.iconst 0, 1) := by decide +kernel
theorem dX8_walk_56 : decode cX8_walk 56 = .ok (.istore 7, 2) := by decide +kernel
theorem dX8_walk_58 : decode cX8_walk 58 = .ok (.iload 7, 2) := by decide +kernel
theorem dX8_walk_60 : decode cX8_walk 60 = .ok (.aload_n 0, 1) := by decide +kernel
theorem dX8_walk_61 : decode cX8_walk 61 = .ok (.getfield 118, 3) := by decide +kernel
theorem dX8_walk_64 : decode cX8_walk 64 = .ok (.if_icmp .ge 78, 3) := by decide +kernel
theorem dX8_walk_67 : decode cX8_walk 67 = .ok (.aload_n 0, 1) := by decide +kernel
theorem dX8_walk_68 : decode cX8_walk 68 = .ok (.getfield 51, 3) := by decide +kernel
theorem dX8_walk_71 : decode cX8_walk 71 = .ok (.iload 7, 2) := by decide +kernel
theorem dX8_walk_73 : decode cX8_walk 73 = .ok (.iaload, 1) := by decide +kernel
theorem dX8_walk_74 : decode cX8_walk 74 = .ok (.ifCond .lt 62, 3) := by decide +kernel
theorem dX8_walk_77 : decode cX8_walk 77 = .ok (.iload 4, 2) := by decide +kernel
theorem dX8_walk_79 : decode cX8_walk 79 = .ok (.ifCond .lt 20, 3) := by decide +kernel
theorem dX8_walk_82 : decode cX8_walk 82 = .ok (.aload_n 0, 1) := by decide +kernel
theorem dX8_walk_83 : decode cX8_walk 83 = .ok (.getfield 51, 3) := by decide +kernel
theorem dX8_walk_86 : decode cX8_walk 86 = .ok (.iload 7, 2) := by decide +kernel
theorem dX8_walk_88 : decode cX8_walk 88 = .ok (.iaload, 1) := by decide +kernel
theorem dX8_walk_89 : decode cX8_walk 89 = .ok (.aload_n 0, 1) := by decide +kernel
theorem dX8_walk_90 : decode cX8_walk 90 = .ok (.getfield 51, 3) := by decide +kernel
theorem dX8_walk_93 : decode cX8_walk 93 = .ok (.iload 4, 2) := by decide +kernel
theorem dX8_walk_95 : decode cX8_walk 95 = .ok (.iaload, 1) := by decide +kernel
theorem dX8_walk_96 : decode cX8_walk 96 = .ok (.if_icmp .le 40, 3) := by decide +kernel
theorem dX8_walk_99 : decode cX8_walk 99 = .ok (.iload 6, 2) := by decide +kernel
theorem dX8_walk_101 : decode cX8_walk 101 = .ok (.ifCond .lt 20, 3) := by decide +kernel
theorem dX8_walk_104 : decode cX8_walk 104 = .ok (.aload_n 0, 1) := by decide +kernel
theorem dX8_walk_105 : decode cX8_walk 105 = .ok (.getfield 51, 3) := by decide +kernel
theorem dX8_walk_108 : decode cX8_walk 108 = .ok (.iload 7, 2) := by decide +kernel
theorem dX8_walk_110 : decode cX8_walk 110 = .ok (.iaload, 1) := by decide +kernel
theorem dX8_walk_111 : decode cX8_walk 111 = .ok (.aload_n 0, 1) := by decide +kernel
theorem dX8_walk_112 : decode cX8_walk 112 = .ok (.getfield 51, 3) := by decide +kernel
theorem dX8_walk_115 : decode cX8_walk 115 = .ok (.iload 6, 2) := by decide +kernel
theorem dX8_walk_117 : decode cX8_walk 117 = .ok (.iaload, 1) := by decide +kernel
theorem dX8_walk_118 : decode cX8_walk 118 = .ok (.if_icmp .ge 18, 3) := by decide +kernel
theorem dX8_walk_121 : decode cX8_walk 121 = .ok (.aload_n 0, 1) := by decide +kernel
theorem dX8_walk_122 : decode cX8_walk 122 = .ok (.iload 7, 2) := by decide +kernel
theorem dX8_walk_124 : decode cX8_walk 124 = .ok (.iload_n 2, 1) := by decide +kernel
theorem dX8_walk_125 : decode cX8_walk 125 = .ok (.iload_n 3, 1) := by decide +kernel
theorem dX8_walk_126 : decode cX8_walk 126 = .ok (.invokevirtual 154, 3) := by decide +kernel
theorem dX8_walk_129 : decode cX8_walk 129 = .ok (.ifCond .eq 7, 3) := by decide +kernel
theorem dX8_walk_132 : decode cX8_walk 132 = .ok (.iload 7, 2) := by decide +kernel
theorem dX8_walk_134 : decode cX8_walk 134 = .ok (.istore 6, 2) := by decide +kernel
theorem dX8_walk_136 : decode cX8_walk 136 = .ok (.iinc 7 1, 3) := by decide +kernel
theorem dX8_walk_139 : decode cX8_walk 139 = .ok (.goto (-81), 3) := by decide +kernel
theorem dX8_walk_142 : decode cX8_walk 142 = .ok (.iload 6, 2) := by decide +kernel
theorem dX8_walk_144 : decode cX8_walk 144 = .ok (.ifCond .ge 10, 3) := by decide +kernel
theorem dX8_walk_147 : decode cX8_walk 147 = .ok (.aload_n 0, 1) := by decide +kernel
theorem dX8_walk_148 : decode cX8_walk 148 = .ok (.bipush 9, 2) := by decide +kernel
theorem dX8_walk_150 : decode cX8_walk 150 = .ok (.invokevirtual 121, 3) := by decide +kernel
theorem dX8_walk_153 : decode cX8_walk 153 = .ok (.ireturn, 1) := by decide +kernel
theorem dX8_walk_154 : decode cX8_walk 154 = .ok (.iload 6, 2) := by decide +kernel
theorem dX8_walk_156 : decode cX8_walk 156 = .ok (.istore 4, 2) := by decide +kernel
theorem dX8_walk_158 : decode cX8_walk 158 = .ok (.iinc 5 1, 3) := by decide +kernel
theorem dX8_walk_161 : decode cX8_walk 161 = .ok (.goto (-115), 3) := by decide +kernel
theorem dX8_walk_164 : decode cX8_walk 164 = .ok (.iload 4, 2) := by decide +kernel
theorem dX8_walk_166 : decode cX8_walk 166 = .ok (.ireturn, 1) := by decide +kernel
theorem dX8_lastTick_0 : decode cX8_lastTick 0 = .ok (.aload_n 0, 1) := by decide +kernel
theorem dX8_lastTick_1 : decode cX8_lastTick 1 = .ok (.getfield 166, 3) := by decide +kernel
theorem dX8_lastTick_4 : decode cX8_lastTick 4 = .ok (.ifCond .ne 7, 3) := by decide +kernel
theorem dX8_lastTick_7 : decode cX8_lastTick 7 = .ok (.iconst 0, 1) := by decide +kernel
theorem dX8_lastTick_8 : decode cX8_lastTick 8 = .ok (.goto 14, 3) := by decide +kernel
theorem dX8_lastTick_11 : decode cX8_lastTick 11 = .ok (.aload_n 0, 1) := by decide +kernel
theorem dX8_lastTick_12 : decode cX8_lastTick 12 = .ok (.getfield 72, 3) := by decide +kernel
theorem dX8_lastTick_15 : decode cX8_lastTick 15 = .ok (.aload_n 0, 1) := by decide +kernel
theorem dX8_lastTick_16 : decode cX8_lastTick 16 = .ok (.getfield 166, 3) := by decide +kernel
theorem dX8_lastTick_19 : decode cX8_lastTick 19 = .ok (.iconst 1, 1) := by decide +kernel
theorem dX8_lastTick_20 : decode cX8_lastTick 20 = .ok (.isub, 1) := by decide +kernel
theorem dX8_lastTick_21 : decode cX8_lastTick 21 = .ok (.iaload, 1) := by decide +kernel
theorem dX8_lastTick_22 : decode cX8_lastTick 22 = .ok (.ireturn, 1) := by decide +kernel
theorem dX8_latest_0 : decode cX8_latest 0 = .ok (.iconst (-1), 1) := by decide +kernel
theorem dX8_latest_1 : decode cX8_latest 1 = .ok (.istore_n 3, 1) := by decide +kernel
theorem dX8_latest_2 : decode cX8_latest 2 = .ok (.iconst 0, 1) := by decide +kernel
theorem dX8_latest_3 : decode cX8_latest 3 = .ok (.istore 4, 2) := by decide +kernel
theorem dX8_latest_5 : decode cX8_latest 5 = .ok (.iload 4, 2) := by decide +kernel
theorem dX8_latest_7 : decode cX8_latest 7 = .ok (.aload_n 0, 1) := by decide +kernel
theorem dX8_latest_8 : decode cX8_latest 8 = .ok (.getfield 166, 3) := by decide +kernel
theorem dX8_latest_11 : decode cX8_latest 11 = .ok (.if_icmp .ge 34, 3) := by decide +kernel
theorem dX8_latest_14 : decode cX8_latest 14 = .ok (.aload_n 0, 1) := by decide +kernel
theorem dX8_latest_15 : decode cX8_latest 15 = .ok (.getfield 66, 3) := by decide +kernel
theorem dX8_latest_18 : decode cX8_latest 18 = .ok (.iload 4, 2) := by decide +kernel
theorem dX8_latest_20 : decode cX8_latest 20 = .ok (.iaload, 1) := by decide +kernel
theorem dX8_latest_21 : decode cX8_latest 21 = .ok (.iload_n 1, 1) := by decide +kernel
theorem dX8_latest_22 : decode cX8_latest 22 = .ok (.if_icmp .ne 17, 3) := by decide +kernel
theorem dX8_latest_25 : decode cX8_latest 25 = .ok (.aload_n 0, 1) := by decide +kernel
theorem dX8_latest_26 : decode cX8_latest 26 = .ok (.getfield 72, 3) := by decide +kernel
theorem dX8_latest_29 : decode cX8_latest 29 = .ok (.iload 4, 2) := by decide +kernel
theorem dX8_latest_31 : decode cX8_latest 31 = .ok (.iaload, 1) := by decide +kernel
theorem dX8_latest_32 : decode cX8_latest 32 = .ok (.iload_n 2, 1) := by decide +kernel
theorem dX8_latest_33 : decode cX8_latest 33 = .ok (.if_icmp .gt 6, 3) := by decide +kernel
theorem dX8_latest_36 : decode cX8_latest 36 = .ok (.iload 4, 2) := by decide +kernel
theorem dX8_latest_38 : decode cX8_latest 38 = .ok (.istore_n 3, 1) := by decide +kernel
theorem dX8_latest_39 : decode cX8_latest 39 = .ok (.iinc 4 1, 3) := by decide +kernel
theorem dX8_latest_42 : decode cX8_latest 42 = .ok (.goto (-37), 3) := by decide +kernel
theorem dX8_latest_45 : decode cX8_latest 45 = .ok (.iload_n 3, 1) := by decide +kernel
theorem dX8_latest_46 : decode cX8_latest 46 = .ok (.ireturn, 1) := by decide +kernel
theorem dX8_isOut_0 : decode cX8_isOut 0 = .ok (.aload_n 0, 1) := by decide +kernel
theorem dX8_isOut_1 : decode cX8_isOut 1 = .ok (.iload_n 1, 1) := by decide +kernel
theorem dX8_isOut_2 : decode cX8_isOut 2 = .ok (.ldc 133, 2) := by decide +kernel
theorem dX8_isOut_4 : decode cX8_isOut 4 = .ok (.invokevirtual 169, 3) := by decide +kernel
theorem dX8_isOut_7 : decode cX8_isOut 7 = .ok (.istore_n 2, 1) := by decide +kernel
theorem dX8_isOut_8 : decode cX8_isOut 8 = .ok (.iload_n 2, 1) := by decide +kernel
theorem dX8_isOut_9 : decode cX8_isOut 9 = .ok (.ifCond .lt 16, 3) := by decide +kernel
theorem dX8_isOut_12 : decode cX8_isOut 12 = .ok (.aload_n 0, 1) := by decide +kernel
theorem dX8_isOut_13 : decode cX8_isOut 13 = .ok (.getfield 69, 3) := by decide +kernel
theorem dX8_isOut_16 : decode cX8_isOut 16 = .ok (.iload_n 2, 1) := by decide +kernel
theorem dX8_isOut_17 : decode cX8_isOut 17 = .ok (.iaload, 1) := by decide +kernel
theorem dX8_isOut_18 : decode cX8_isOut 18 = .ok (.ifCond .lt 7, 3) := by decide +kernel
theorem dX8_isOut_21 : decode cX8_isOut 21 = .ok (.iconst 1, 1) := by decide +kernel
theorem dX8_isOut_22 : decode cX8_isOut 22 = .ok (.goto 4, 3) := by decide +kernel
theorem dX8_isOut_25 : decode cX8_isOut 25 = .ok (.iconst 0, 1) := by decide +kernel
theorem dX8_isOut_26 : decode cX8_isOut 26 = .ok (.ireturn, 1) := by decide +kernel
theorem dX8_enter_0 : decode cX8_enter 0 = .ok (.aload_n 0, 1) := by decide +kernel
theorem dX8_enter_1 : decode cX8_enter 1 = .ok (.getfield 66, 3) := by decide +kernel
theorem dX8_enter_4 : decode cX8_enter 4 = .ok (.aload_n 0, 1) := by decide +kernel
theorem dX8_enter_5 : decode cX8_enter 5 = .ok (.getfield 166, 3) := by decide +kernel
theorem dX8_enter_8 : decode cX8_enter 8 = .ok (.iload_n 1, 1) := by decide +kernel
theorem dX8_enter_9 : decode cX8_enter 9 = .ok (.iastore, 1) := by decide +kernel
theorem dX8_enter_10 : decode cX8_enter 10 = .ok (.aload_n 0, 1) := by decide +kernel
theorem dX8_enter_11 : decode cX8_enter 11 = .ok (.getfield 69, 3) := by decide +kernel
theorem dX8_enter_14 : decode cX8_enter 14 = .ok (.aload_n 0, 1) := by decide +kernel
theorem dX8_enter_15 : decode cX8_enter 15 = .ok (.getfield 166, 3) := by decide +kernel
theorem dX8_enter_18 : decode cX8_enter 18 = .ok (.iload_n 2, 1) := by decide +kernel
theorem dX8_enter_19 : decode cX8_enter 19 = .ok (.iastore, 1) := by decide +kernel
theorem dX8_enter_20 : decode cX8_enter 20 = .ok (.aload_n 0, 1) := by decide +kernel
theorem dX8_enter_21 : decode cX8_enter 21 = .ok (.getfield 72, 3) := by decide +kernel
theorem dX8_enter_24 : decode cX8_enter 24 = .ok (.aload_n 0, 1) := by decide +kernel
theorem dX8_enter_25 : decode cX8_enter 25 = .ok (.getfield 166, 3) := by decide +kernel
theorem dX8_enter_28 : decode cX8_enter 28 = .ok (.iload_n 3, 1) := by decide +kernel
theorem dX8_enter_29 : decode cX8_enter 29 = .ok (.iastore, 1) := by decide +kernel
theorem dX8_enter_30 : decode cX8_enter 30 = .ok (.aload_n 0, 1) := by decide +kernel
theorem dX8_enter_31 : decode cX8_enter 31 = .ok (.dup, 1) := by decide +kernel
theorem dX8_enter_32 : decode cX8_enter 32 = .ok (.getfield 166, 3) := by decide +kernel
theorem dX8_enter_35 : decode cX8_enter 35 = .ok (.iconst 1, 1) := by decide +kernel
theorem dX8_enter_36 : decode cX8_enter 36 = .ok (.iadd, 1) := by decide +kernel
theorem dX8_enter_37 : decode cX8_enter 37 = .ok (.putfield 166, 3) := by decide +kernel
theorem dX8_enter_40 : decode cX8_enter 40 = .ok (.return_, 1) := by decide +kernel
theorem dX8_fetch_0 : decode cX8_fetch 0 = .ok (.aload_n 0, 1) := by decide +kernel
theorem dX8_fetch_1 : decode cX8_fetch 1 = .ok (.iconst 0, 1) := by decide +kernel
theorem dX8_fetch_2 : decode cX8_fetch 2 = .ok (.putfield 93, 3) := by decide +kernel
theorem dX8_fetch_5 : decode cX8_fetch 5 = .ok (.aload_n 0, 1) := by decide +kernel
theorem dX8_fetch_6 : decode cX8_fetch 6 = .ok (.iconst 0, 1) := by decide +kernel
theorem dX8_fetch_7 : decode cX8_fetch 7 = .ok (.putfield 97, 3) := by decide +kernel
theorem dX8_fetch_10 : decode cX8_fetch 10 = .ok (.aload_n 0, 1) := by decide +kernel
theorem dX8_fetch_11 : decode cX8_fetch 11 = .ok (.iload_n 1, 1) := by decide +kernel
theorem dX8_fetch_12 : decode cX8_fetch 12 = .ok (.invokevirtual 124, 3) := by decide +kernel
theorem dX8_fetch_15 : decode cX8_fetch 15 = .ok (.ifCond .eq 10, 3) := by decide +kernel
theorem dX8_fetch_18 : decode cX8_fetch 18 = .ok (.iload_n 2, 1) := by decide +kernel
theorem dX8_fetch_19 : decode cX8_fetch 19 = .ok (.invokestatic 148, 3) := by decide +kernel
theorem dX8_fetch_22 : decode cX8_fetch 22 = .ok (.ifCond .ne 9, 3) := by decide +kernel
theorem dX8_fetch_25 : decode cX8_fetch 25 = .ok (.aload_n 0, 1) := by decide +kernel
theorem dX8_fetch_26 : decode cX8_fetch 26 = .ok (.iconst 2, 1) := by decide +kernel
theorem dX8_fetch_27 : decode cX8_fetch 27 = .ok (.invokevirtual 100, 3) := by decide +kernel
theorem dX8_fetch_30 : decode cX8_fetch 30 = .ok (.ireturn, 1) := by decide +kernel
theorem dX8_fetch_31 : decode cX8_fetch 31 = .ok (.iload_n 3, 1) := by decide +kernel
theorem dX8_fetch_32 : decode cX8_fetch 32 = .ok (.aload_n 0, 1) := by decide +kernel
theorem dX8_fetch_33 : decode cX8_fetch 33 = .ok (.invokevirtual 172, 3) := by decide +kernel
theorem dX8_fetch_36 : decode cX8_fetch 36 = .ok (.if_icmp .lt 9, 3) := by decide +kernel
theorem dX8_fetch_39 : decode cX8_fetch 39 = .ok (.iload_n 3, 1) := by decide +kernel
theorem dX8_fetch_40 : decode cX8_fetch 40 = .ok (.ldc 133, 2) := by decide +kernel
theorem dX8_fetch_42 : decode cX8_fetch 42 = .ok (.if_icmp .le 9, 3) := by decide +kernel
theorem dX8_fetch_45 : decode cX8_fetch 45 = .ok (.aload_n 0, 1) := by decide +kernel
theorem dX8_fetch_46 : decode cX8_fetch 46 = .ok (.iconst 5, 1) := by decide +kernel
theorem dX8_fetch_47 : decode cX8_fetch 47 = .ok (.invokevirtual 100, 3) := by decide +kernel
theorem dX8_fetch_50 : decode cX8_fetch 50 = .ok (.ireturn, 1) := by decide +kernel
theorem dX8_fetch_51 : decode cX8_fetch 51 = .ok (.aload_n 0, 1) := by decide +kernel
theorem dX8_fetch_52 : decode cX8_fetch 52 = .ok (.getfield 166, 3) := by decide +kernel
theorem dX8_fetch_55 : decode cX8_fetch 55 = .ok (.sipush 200, 3) := by decide +kernel
theorem dX8_fetch_58 : decode cX8_fetch 58 = .ok (.if_icmp .ne 10, 3) := by decide +kernel
theorem dX8_fetch_61 : decode cX8_fetch 61 = .ok (.aload_n 0, 1) := by decide +kernel
theorem dX8_fetch_62 : decode cX8_fetch 62 = .ok (.bipush 7, 2) := by decide +kernel
theorem dX8_fetch_64 : decode cX8_fetch 64 = .ok (.invokevirtual 100, 3) := by decide +kernel
theorem dX8_fetch_67 : decode cX8_fetch 67 = .ok (.ireturn, 1) := by decide +kernel
theorem dX8_fetch_68 : decode cX8_fetch 68 = .ok (.aload_n 0, 1) := by decide +kernel
theorem dX8_fetch_69 : decode cX8_fetch 69 = .ok (.iload_n 1, 1) := by decide +kernel
theorem dX8_fetch_70 : decode cX8_fetch 70 = .ok (.invokevirtual 176, 3) := by decide +kernel
theorem dX8_fetch_73 : decode cX8_fetch 73 = .ok (.ifCond .eq 10, 3) := by decide +kernel
theorem dX8_fetch_76 : decode cX8_fetch 76 = .ok (.aload_n 0, 1) := by decide +kernel
theorem dX8_fetch_77 : decode cX8_fetch 77 = .ok (.bipush 10, 2) := by decide +kernel
theorem dX8_fetch_79 : decode cX8_fetch 79 = .ok (.invokevirtual 100, 3) := by decide +kernel
theorem dX8_fetch_82 : decode cX8_fetch 82 = .ok (.ireturn, 1) := by decide +kernel
theorem dX8_fetch_83 : decode cX8_fetch 83 = .ok (.aload_n 0, 1) := by decide +kernel
theorem dX8_fetch_84 : decode cX8_fetch 84 = .ok (.iload_n 1, 1) := by decide +kernel
theorem dX8_fetch_85 : decode cX8_fetch 85 = .ok (.iload_n 2, 1) := by decide +kernel
theorem dX8_fetch_86 : decode cX8_fetch 86 = .ok (.iload_n 3, 1) := by decide +kernel
theorem dX8_fetch_87 : decode cX8_fetch 87 = .ok (.invokevirtual 179, 3) := by decide +kernel
theorem dX8_fetch_90 : decode cX8_fetch 90 = .ok (.iconst 1, 1) := by decide +kernel
theorem dX8_fetch_91 : decode cX8_fetch 91 = .ok (.ireturn, 1) := by decide +kernel
theorem dX8_back_0 : decode cX8_back 0 = .ok (.aload_n 0, 1) := by decide +kernel
theorem dX8_back_1 : decode cX8_back 1 = .ok (.iconst 0, 1) := by decide +kernel
theorem dX8_back_2 : decode cX8_back 2 = .ok (.putfield 93, 3) := by decide +kernel
theorem dX8_back_5 : decode cX8_back 5 = .ok (.aload_n 0, 1) := by decide +kernel
theorem dX8_back_6 : decode cX8_back 6 = .ok (.iconst 0, 1) := by decide +kernel
theorem dX8_back_7 : decode cX8_back 7 = .ok (.putfield 97, 3) := by decide +kernel
theorem dX8_back_10 : decode cX8_back 10 = .ok (.aload_n 0, 1) := by decide +kernel
theorem dX8_back_11 : decode cX8_back 11 = .ok (.iload_n 1, 1) := by decide +kernel
theorem dX8_back_12 : decode cX8_back 12 = .ok (.invokevirtual 124, 3) := by decide +kernel
theorem dX8_back_15 : decode cX8_back 15 = .ok (.ifCond .ne 9, 3) := by decide +kernel
theorem dX8_back_18 : decode cX8_back 18 = .ok (.aload_n 0, 1) := by decide +kernel
theorem dX8_back_19 : decode cX8_back 19 = .ok (.iconst 2, 1) := by decide +kernel
theorem dX8_back_20 : decode cX8_back 20 = .ok (.invokevirtual 100, 3) := by decide +kernel
theorem dX8_back_23 : decode cX8_back 23 = .ok (.ireturn, 1) := by decide +kernel
theorem dX8_back_24 : decode cX8_back 24 = .ok (.iload_n 2, 1) := by decide +kernel
theorem dX8_back_25 : decode cX8_back 25 = .ok (.aload_n 0, 1) := by decide +kernel
theorem dX8_back_26 : decode cX8_back 26 = .ok (.invokevirtual 172, 3) := by decide +kernel
theorem dX8_back_29 : decode cX8_back 29 = .ok (.if_icmp .lt 9, 3) := by decide +kernel
theorem dX8_back_32 : decode cX8_back 32 = .ok (.iload_n 2, 1) := by decide +kernel
theorem dX8_back_33 : decode cX8_back 33 = .ok (.ldc 133, 2) := by decide +kernel
theorem dX8_back_35 : decode cX8_back 35 = .ok (.if_icmp .le 9, 3) := by decide +kernel
theorem dX8_back_38 : decode cX8_back 38 = .ok (.aload_n 0, 1) := by decide +kernel
theorem dX8_back_39 : decode cX8_back 39 = .ok (.iconst 5, 1) := by decide +kernel
theorem dX8_back_40 : decode cX8_back 40 = .ok (.invokevirtual 100, 3) := by decide +kernel
theorem dX8_back_43 : decode cX8_back 43 = .ok (.ireturn, 1) := by decide +kernel
theorem dX8_back_44 : decode cX8_back 44 = .ok (.aload_n 0, 1) := by decide +kernel
theorem dX8_back_45 : decode cX8_back 45 = .ok (.getfield 166, 3) := by decide +kernel
theorem dX8_back_48 : decode cX8_back 48 = .ok (.sipush 200, 3) := by decide +kernel
theorem dX8_back_51 : decode cX8_back 51 = .ok (.if_icmp .ne 10, 3) := by decide +kernel
theorem dX8_back_54 : decode cX8_back 54 = .ok (.aload_n 0, 1) := by decide +kernel
theorem dX8_back_55 : decode cX8_back 55 = .ok (.bipush 7, 2) := by decide +kernel
theorem dX8_back_57 : decode cX8_back 57 = .ok (.invokevirtual 100, 3) := by decide +kernel
theorem dX8_back_60 : decode cX8_back 60 = .ok (.ireturn, 1) := by decide +kernel
theorem dX8_back_61 : decode cX8_back 61 = .ok (.aload_n 0, 1) := by decide +kernel
theorem dX8_back_62 : decode cX8_back 62 = .ok (.iload_n 1, 1) := by decide +kernel
theorem dX8_back_63 : decode cX8_back 63 = .ok (.invokevirtual 176, 3) := by decide +kernel
theorem dX8_back_66 : decode cX8_back 66 = .ok (.ifCond .ne 10, 3) := by decide +kernel
theorem dX8_back_69 : decode cX8_back 69 = .ok (.aload_n 0, 1) := by decide +kernel
theorem dX8_back_70 : decode cX8_back 70 = .ok (.bipush 10, 2) := by decide +kernel
theorem dX8_back_72 : decode cX8_back 72 = .ok (.invokevirtual 100, 3) := by decide +kernel
theorem dX8_back_75 : decode cX8_back 75 = .ok (.ireturn, 1) := by decide +kernel
theorem dX8_back_76 : decode cX8_back 76 = .ok (.aload_n 0, 1) := by decide +kernel
theorem dX8_back_77 : decode cX8_back 77 = .ok (.iload_n 1, 1) := by decide +kernel
theorem dX8_back_78 : decode cX8_back 78 = .ok (.iconst (-1), 1) := by decide +kernel
theorem dX8_back_79 : decode cX8_back 79 = .ok (.iload_n 2, 1) := by decide +kernel
theorem dX8_back_80 : decode cX8_back 80 = .ok (.invokevirtual 179, 3) := by decide +kernel
theorem dX8_back_83 : decode cX8_back 83 = .ok (.iconst 1, 1) := by decide +kernel
theorem dX8_back_84 : decode cX8_back 84 = .ok (.ireturn, 1) := by decide +kernel
theorem dX8_where_0 : decode cX8_where 0 = .ok (.aload_n 0, 1) := by decide +kernel
theorem dX8_where_1 : decode cX8_where 1 = .ok (.iconst 0, 1) := by decide +kernel
theorem dX8_where_2 : decode cX8_where 2 = .ok (.putfield 93, 3) := by decide +kernel
theorem dX8_where_5 : decode cX8_where 5 = .ok (.aload_n 0, 1) := by decide +kernel
theorem dX8_where_6 : decode cX8_where 6 = .ok (.iconst 0, 1) := by decide +kernel
theorem dX8_where_7 : decode cX8_where 7 = .ok (.putfield 97, 3) := by decide +kernel
theorem dX8_where_10 : decode cX8_where 10 = .ok (.aload_n 0, 1) := by decide +kernel
theorem dX8_where_11 : decode cX8_where 11 = .ok (.iload_n 1, 1) := by decide +kernel
theorem dX8_where_12 : decode cX8_where 12 = .ok (.invokevirtual 124, 3) := by decide +kernel
theorem dX8_where_15 : decode cX8_where 15 = .ok (.ifCond .ne 9, 3) := by decide +kernel
theorem dX8_where_18 : decode cX8_where 18 = .ok (.aload_n 0, 1) := by decide +kernel
theorem dX8_where_19 : decode cX8_where 19 = .ok (.iconst 2, 1) := by decide +kernel
theorem dX8_where_20 : decode cX8_where 20 = .ok (.invokevirtual 121, 3) := by decide +kernel
theorem dX8_where_23 : decode cX8_where 23 = .ok (.ireturn, 1) := by decide +kernel
theorem dX8_where_24 : decode cX8_where 24 = .ok (.iload_n 2, 1) := by decide +kernel
theorem dX8_where_25 : decode cX8_where 25 = .ok (.ifCond .lt 9, 3) := by decide +kernel
theorem dX8_where_28 : decode cX8_where 28 = .ok (.iload_n 2, 1) := by decide +kernel
theorem dX8_where_29 : decode cX8_where 29 = .ok (.ldc 133, 2) := by decide +kernel
theorem dX8_where_31 : decode cX8_where 31 = .ok (.if_icmp .le 9, 3) := by decide +kernel
theorem dX8_where_34 : decode cX8_where 34 = .ok (.aload_n 0, 1) := by decide +kernel
theorem dX8_where_35 : decode cX8_where 35 = .ok (.iconst 5, 1) := by decide +kernel
theorem dX8_where_36 : decode cX8_where 36 = .ok (.invokevirtual 121, 3) := by decide +kernel
theorem dX8_where_39 : decode cX8_where 39 = .ok (.ireturn, 1) := by decide +kernel
theorem dX8_where_40 : decode cX8_where 40 = .ok (.iload_n 1, 1) := by decide +kernel
theorem dX8_where_41 : decode cX8_where 41 = .ok (.istore_n 3, 1) := by decide +kernel
theorem dX8_where_42 : decode cX8_where 42 = .ok (.iload_n 3, 1) := by decide +kernel
theorem dX8_where_43 : decode cX8_where 43 = .ok (.ifCond .lt 44, 3) := by decide +kernel
theorem dX8_where_46 : decode cX8_where 46 = .ok (.aload_n 0, 1) := by decide +kernel
theorem dX8_where_47 : decode cX8_where 47 = .ok (.iload_n 3, 1) := by decide +kernel
theorem dX8_where_48 : decode cX8_where 48 = .ok (.iload_n 2, 1) := by decide +kernel
theorem dX8_where_49 : decode cX8_where 49 = .ok (.invokevirtual 169, 3) := by decide +kernel
theorem dX8_where_52 : decode cX8_where 52 = .ok (.istore 4, 2) := by decide +kernel
theorem dX8_where_54 : decode cX8_where 54 = .ok (.iload 4, 2) := by decide +kernel
theorem dX8_where_56 : decode cX8_where 56 = .ok (.ifCond .lt 21, 3) := by decide +kernel
theorem dX8_where_59 : decode cX8_where 59 = .ok (.aload_n 0, 1) := by decide +kernel
theorem dX8_where_60 : decode cX8_where 60 = .ok (.getfield 69, 3) := by decide +kernel
theorem dX8_where_63 : decode cX8_where 63 = .ok (.iload 4, 2) := by decide +kernel
theorem dX8_where_65 : decode cX8_where 65 = .ok (.iaload, 1) := by decide +kernel
theorem dX8_where_66 : decode cX8_where 66 = .ok (.ifCond .lt 11, 3) := by decide +kernel
theorem dX8_where_69 : decode cX8_where 69 = .ok (.aload_n 0, 1) := by decide +kernel
theorem dX8_where_70 : decode cX8_where 70 = .ok (.getfield 69, 3) := by decide +kernel
theorem dX8_where_73 : decode cX8_where 73 = .ok (.iload 4, 2) := by decide +kernel
theorem dX8_where_75 : decode cX8_where 75 = .ok (.iaload, 1) := by decide +kernel
theorem dX8_where_76 : decode cX8_where 76 = .ok (.ireturn, 1) := by decide +kernel
theorem dX8_where_77 : decode cX8_where 77 = .ok (.aload_n 0, 1) := by decide +kernel
theorem dX8_where_78 : decode cX8_where 78 = .ok (.getfield 27, 3) := by decide +kernel
theorem dX8_where_81 : decode cX8_where 81 = .ok (.iload_n 3, 1) := by decide +kernel
theorem dX8_where_82 : decode cX8_where 82 = .ok (.iaload, 1) := by decide +kernel
theorem dX8_where_83 : decode cX8_where 83 = .ok (.istore_n 3, 1) := by decide +kernel
theorem dX8_where_84 : decode cX8_where 84 = .ok (.goto (-42), 3) := by decide +kernel
theorem dX8_where_87 : decode cX8_where 87 = .ok (.iconst (-1), 1) := by decide +kernel
theorem dX8_where_88 : decode cX8_where 88 = .ok (.ireturn, 1) := by decide +kernel
theorem dX8_boxed_0 : decode cX8_boxed 0 = .ok (.aload_n 0, 1) := by decide +kernel
theorem dX8_boxed_1 : decode cX8_boxed 1 = .ok (.iload_n 1, 1) := by decide +kernel
theorem dX8_boxed_2 : decode cX8_boxed 2 = .ok (.invokevirtual 124, 3) := by decide +kernel
theorem dX8_boxed_5 : decode cX8_boxed 5 = .ok (.ifCond .eq 14, 3) := by decide +kernel
theorem dX8_boxed_8 : decode cX8_boxed 8 = .ok (.iload_n 2, 1) := by decide +kernel
theorem dX8_boxed_9 : decode cX8_boxed 9 = .ok (.iconst (-1), 1) := by decide +kernel
theorem dX8_boxed_10 : decode cX8_boxed 10 = .ok (.if_icmp .lt 9, 3) := by decide +kernel
theorem dX8_boxed_13 : decode cX8_boxed 13 = .ok (.iload_n 2, 1) := by decide +kernel
theorem dX8_boxed_14 : decode cX8_boxed 14 = .ok (.bipush 40, 2) := by decide +kernel
theorem dX8_boxed_16 : decode cX8_boxed 16 = .ok (.if_icmp .lt 5, 3) := by decide +kernel
theorem dX8_boxed_19 : decode cX8_boxed 19 = .ok (.iconst 2, 1) := by decide +kernel
theorem dX8_boxed_20 : decode cX8_boxed 20 = .ok (.ireturn, 1) := by decide +kernel
theorem dX8_boxed_21 : decode cX8_boxed 21 = .ok (.aload_n 0, 1) := by decide +kernel
theorem dX8_boxed_22 : decode cX8_boxed 22 = .ok (.getfield 24, 3) := by decide +kernel
theorem dX8_boxed_25 : decode cX8_boxed 25 = .ok (.iload_n 1, 1) := by decide +kernel
theorem dX8_boxed_26 : decode cX8_boxed 26 = .ok (.iaload, 1) := by decide +kernel
theorem dX8_boxed_27 : decode cX8_boxed 27 = .ok (.iconst 1, 1) := by decide +kernel
theorem dX8_boxed_28 : decode cX8_boxed 28 = .ok (.if_icmp .ne 7, 3) := by decide +kernel
theorem dX8_boxed_31 : decode cX8_boxed 31 = .ok (.iconst 0, 1) := by decide +kernel
theorem dX8_boxed_32 : decode cX8_boxed 32 = .ok (.goto 5, 3) := by decide +kernel
theorem dX8_boxed_35 : decode cX8_boxed 35 = .ok (.bipush 8, 2) := by decide +kernel
theorem dX8_boxed_37 : decode cX8_boxed 37 = .ok (.ireturn, 1) := by decide +kernel
theorem dX8_stand_0 : decode cX8_stand 0 = .ok (.aload_n 0, 1) := by decide +kernel
theorem dX8_stand_1 : decode cX8_stand 1 = .ok (.iconst 0, 1) := by decide +kernel
theorem dX8_stand_2 : decode cX8_stand 2 = .ok (.putfield 93, 3) := by decide +kernel
theorem dX8_stand_5 : decode cX8_stand 5 = .ok (.aload_n 0, 1) := by decide +kernel
theorem dX8_stand_6 : decode cX8_stand 6 = .ok (.aload_n 0, 1) := by decide +kernel
theorem dX8_stand_7 : decode cX8_stand 7 = .ok (.iload_n 1, 1) := by decide +kernel
theorem dX8_stand_8 : decode cX8_stand 8 = .ok (.iload_n 2, 1) := by decide +kernel
theorem dX8_stand_9 : decode cX8_stand 9 = .ok (.invokevirtual 183, 3) := by decide +kernel
theorem dX8_stand_12 : decode cX8_stand 12 = .ok (.putfield 97, 3) := by decide +kernel
theorem dX8_stand_15 : decode cX8_stand 15 = .ok (.aload_n 0, 1) := by decide +kernel
theorem dX8_stand_16 : decode cX8_stand 16 = .ok (.getfield 97, 3) := by decide +kernel
theorem dX8_stand_19 : decode cX8_stand 19 = .ok (.ifCond .le 5, 3) := by decide +kernel
theorem dX8_stand_22 : decode cX8_stand 22 = .ok (.iconst 0, 1) := by decide +kernel
theorem dX8_stand_23 : decode cX8_stand 23 = .ok (.ireturn, 1) := by decide +kernel
theorem dX8_stand_24 : decode cX8_stand 24 = .ok (.iconst 0, 1) := by decide +kernel
theorem dX8_stand_25 : decode cX8_stand 25 = .ok (.istore_n 3, 1) := by decide +kernel
theorem dX8_stand_26 : decode cX8_stand 26 = .ok (.iload_n 3, 1) := by decide +kernel
theorem dX8_stand_27 : decode cX8_stand 27 = .ok (.aload_n 0, 1) := by decide +kernel
theorem dX8_stand_28 : decode cX8_stand 28 = .ok (.getfield 118, 3) := by decide +kernel
theorem dX8_stand_31 : decode cX8_stand 31 = .ok (.if_icmp .ge 35, 3) := by decide +kernel
theorem dX8_stand_34 : decode cX8_stand 34 = .ok (.iload_n 2, 1) := by decide +kernel
theorem dX8_stand_35 : decode cX8_stand 35 = .ok (.ifCond .lt 25, 3) := by decide +kernel
theorem dX8_stand_38 : decode cX8_stand 38 = .ok (.iload_n 3, 1) := by decide +kernel
theorem dX8_stand_39 : decode cX8_stand 39 = .ok (.iload_n 1, 1) := by decide +kernel
theorem dX8_stand_40 : decode cX8_stand 40 = .ok (.if_icmp .eq 20, 3) := by decide +kernel
theorem dX8_stand_43 : decode cX8_stand 43 = .ok (.aload_n 0, 1) := by decide +kernel
theorem dX8_stand_44 : decode cX8_stand 44 = .ok (.getfield 54, 3) := by decide +kernel
theorem dX8_stand_47 : decode cX8_stand 47 = .ok (.iload_n 3, 1) := by decide +kernel
theorem dX8_stand_48 : decode cX8_stand 48 = .ok (.iaload, 1) := by decide +kernel
theorem dX8_stand_49 : decode cX8_stand 49 = .ok (.iload_n 2, 1) := by decide +kernel
theorem dX8_stand_50 : decode cX8_stand 50 = .ok (.if_icmp .ne 10, 3) := by decide +kernel
theorem dX8_stand_53 : decode cX8_stand 53 = .ok (.aload_n 0, 1) := by decide +kernel
theorem dX8_stand_54 : decode cX8_stand 54 = .ok (.bipush 10, 2) := by decide +kernel
theorem dX8_stand_56 : decode cX8_stand 56 = .ok (.invokevirtual 100, 3) := by decide +kernel
theorem dX8_stand_59 : decode cX8_stand 59 = .ok (.ireturn, 1) := by decide +kernel
theorem dX8_stand_60 : decode cX8_stand 60 = .ok (.iinc 3 1, 3) := by decide +kernel
theorem dX8_stand_63 : decode cX8_stand 63 = .ok (.goto (-37), 3) := by decide +kernel
theorem dX8_stand_66 : decode cX8_stand 66 = .ok (.aload_n 0, 1) := by decide +kernel
theorem dX8_stand_67 : decode cX8_stand 67 = .ok (.getfield 54, 3) := by decide +kernel
theorem dX8_stand_70 : decode cX8_stand 70 = .ok (.iload_n 1, 1) := by decide +kernel
theorem dX8_stand_71 : decode cX8_stand 71 = .ok (.iload_n 2, 1) := by decide +kernel
theorem dX8_stand_72 : decode cX8_stand 72 = .ok (.iastore, 1) := by decide +kernel
theorem dX8_stand_73 : decode cX8_stand 73 = .ok (.iconst 1, 1) := by decide +kernel
theorem dX8_stand_74 : decode cX8_stand 74 = .ok (.ireturn, 1) := by decide +kernel
theorem dX8_goal_0 : decode cX8_goal 0 = .ok (.aload_n 0, 1) := by decide +kernel
theorem dX8_goal_1 : decode cX8_goal 1 = .ok (.iconst 0, 1) := by decide +kernel
theorem dX8_goal_2 : decode cX8_goal 2 = .ok (.putfield 93, 3) := by decide +kernel
theorem dX8_goal_5 : decode cX8_goal 5 = .ok (.aload_n 0, 1) := by decide +kernel
theorem dX8_goal_6 : decode cX8_goal 6 = .ok (.aload_n 0, 1) := by decide +kernel
theorem dX8_goal_7 : decode cX8_goal 7 = .ok (.iload_n 1, 1) := by decide +kernel
theorem dX8_goal_8 : decode cX8_goal 8 = .ok (.iload_n 2, 1) := by decide +kernel
theorem dX8_goal_9 : decode cX8_goal 9 = .ok (.invokevirtual 183, 3) := by decide +kernel
theorem dX8_goal_12 : decode cX8_goal 12 = .ok (.putfield 97, 3) := by decide +kernel
theorem dX8_goal_15 : decode cX8_goal 15 = .ok (.aload_n 0, 1) := by decide +kernel
theorem dX8_goal_16 : decode cX8_goal 16 = .ok (.getfield 97, 3) := by decide +kernel
theorem dX8_goal_19 : decode cX8_goal 19 = .ok (.ifCond .le 5, 3) := by decide +kernel
theorem dX8_goal_22 : decode cX8_goal 22 = .ok (.iconst 0, 1) := by decide +kernel
theorem dX8_goal_23 : decode cX8_goal 23 = .ok (.ireturn, 1) := by decide +kernel
theorem dX8_goal_24 : decode cX8_goal 24 = .ok (.iconst 0, 1) := by decide +kernel
theorem dX8_goal_25 : decode cX8_goal 25 = .ok (.istore_n 3, 1) := by decide +kernel
theorem dX8_goal_26 : decode cX8_goal 26 = .ok (.iload_n 3, 1) := by decide +kernel
theorem dX8_goal_27 : decode cX8_goal 27 = .ok (.aload_n 0, 1) := by decide +kernel
theorem dX8_goal_28 : decode cX8_goal 28 = .ok (.getfield 118, 3) := by decide +kernel
theorem dX8_goal_31 : decode cX8_goal 31 = .ok (.if_icmp .ge 35, 3) := by decide +kernel
theorem dX8_goal_34 : decode cX8_goal 34 = .ok (.iload_n 2, 1) := by decide +kernel
theorem dX8_goal_35 : decode cX8_goal 35 = .ok (.ifCond .lt 25, 3) := by decide +kernel
theorem dX8_goal_38 : decode cX8_goal 38 = .ok (.iload_n 3, 1) := by decide +kernel
theorem dX8_goal_39 : decode cX8_goal 39 = .ok (.iload_n 1, 1) := by decide +kernel
theorem dX8_goal_40 : decode cX8_goal 40 = .ok (.if_icmp .eq 20, 3) := by decide +kernel
theorem dX8_goal_43 : decode cX8_goal 43 = .ok (.aload_n 0, 1) := by decide +kernel
theorem dX8_goal_44 : decode cX8_goal 44 = .ok (.getfield 57, 3) := by decide +kernel
theorem dX8_goal_47 : decode cX8_goal 47 = .ok (.iload_n 3, 1) := by decide +kernel
theorem dX8_goal_48 : decode cX8_goal 48 = .ok (.iaload, 1) := by decide +kernel
theorem dX8_goal_49 : decode cX8_goal 49 = .ok (.iload_n 2, 1) := by decide +kernel
theorem dX8_goal_50 : decode cX8_goal 50 = .ok (.if_icmp .ne 10, 3) := by decide +kernel
theorem dX8_goal_53 : decode cX8_goal 53 = .ok (.aload_n 0, 1) := by decide +kernel
theorem dX8_goal_54 : decode cX8_goal 54 = .ok (.bipush 10, 2) := by decide +kernel
theorem dX8_goal_56 : decode cX8_goal 56 = .ok (.invokevirtual 100, 3) := by decide +kernel
theorem dX8_goal_59 : decode cX8_goal 59 = .ok (.ireturn, 1) := by decide +kernel
theorem dX8_goal_60 : decode cX8_goal 60 = .ok (.iinc 3 1, 3) := by decide +kernel
theorem dX8_goal_63 : decode cX8_goal 63 = .ok (.goto (-37), 3) := by decide +kernel
theorem dX8_goal_66 : decode cX8_goal 66 = .ok (.aload_n 0, 1) := by decide +kernel
theorem dX8_goal_67 : decode cX8_goal 67 = .ok (.getfield 57, 3) := by decide +kernel
theorem dX8_goal_70 : decode cX8_goal 70 = .ok (.iload_n 1, 1) := by decide +kernel
theorem dX8_goal_71 : decode cX8_goal 71 = .ok (.iload_n 2, 1) := by decide +kernel
theorem dX8_goal_72 : decode cX8_goal 72 = .ok (.iastore, 1) := by decide +kernel
theorem dX8_goal_73 : decode cX8_goal 73 = .ok (.iconst 1, 1) := by decide +kernel
theorem dX8_goal_74 : decode cX8_goal 74 = .ok (.ireturn, 1) := by decide +kernel
theorem dX8_isAway_0 : decode cX8_isAway 0 = .ok (.aload_n 0, 1) := by decide +kernel
theorem dX8_isAway_1 : decode cX8_isAway 1 = .ok (.getfield 78, 3) := by decide +kernel
theorem dX8_isAway_4 : decode cX8_isAway 4 = .ok (.iload_n 1, 1) := by decide +kernel
theorem dX8_isAway_5 : decode cX8_isAway 5 = .ok (.iaload, 1) := by decide +kernel
theorem dX8_isAway_6 : decode cX8_isAway 6 = .ok (.ifCond .lt 31, 3) := by decide +kernel
theorem dX8_isAway_9 : decode cX8_isAway 9 = .ok (.aload_n 0, 1) := by decide +kernel
theorem dX8_isAway_10 : decode cX8_isAway 10 = .ok (.getfield 57, 3) := by decide +kernel
theorem dX8_isAway_13 : decode cX8_isAway 13 = .ok (.iload_n 1, 1) := by decide +kernel
theorem dX8_isAway_14 : decode cX8_isAway 14 = .ok (.iaload, 1) := by decide +kernel
theorem dX8_isAway_15 : decode cX8_isAway 15 = .ok (.ifCond .lt 22, 3) := by decide +kernel
theorem dX8_isAway_18 : decode cX8_isAway 18 = .ok (.aload_n 0, 1) := by decide +kernel
theorem dX8_isAway_19 : decode cX8_isAway 19 = .ok (.getfield 78, 3) := by decide +kernel
theorem dX8_isAway_22 : decode cX8_isAway 22 = .ok (.iload_n 1, 1) := by decide +kernel
theorem dX8_isAway_23 : decode cX8_isAway 23 = .ok (.iaload, 1) := by decide +kernel
theorem dX8_isAway_24 : decode cX8_isAway 24 = .ok (.aload_n 0, 1) := by decide +kernel
theorem dX8_isAway_25 : decode cX8_isAway 25 = .ok (.getfield 57, 3) := by decide +kernel
theorem dX8_isAway_28 : decode cX8_isAway 28 = .ok (.iload_n 1, 1) := by decide +kernel
theorem dX8_isAway_29 : decode cX8_isAway 29 = .ok (.iaload, 1) := by decide +kernel
theorem dX8_isAway_30 : decode cX8_isAway 30 = .ok (.if_icmp .eq 7, 3) := by decide +kernel
theorem dX8_isAway_33 : decode cX8_isAway 33 = .ok (.iconst 1, 1) := by decide +kernel
theorem dX8_isAway_34 : decode cX8_isAway 34 = .ok (.goto 4, 3) := by decide +kernel
theorem dX8_isAway_37 : decode cX8_isAway 37 = .ok (.iconst 0, 1) := by decide +kernel
theorem dX8_isAway_38 : decode cX8_isAway 38 = .ok (.ireturn, 1) := by decide +kernel
theorem dX8_take_0 : decode cX8_take 0 = .ok (.aload_n 0, 1) := by decide +kernel
theorem dX8_take_1 : decode cX8_take 1 = .ok (.getfield 81, 3) := by decide +kernel
theorem dX8_take_4 : decode cX8_take 4 = .ok (.aload_n 0, 1) := by decide +kernel
theorem dX8_take_5 : decode cX8_take 5 = .ok (.getfield 186, 3) := by decide +kernel
theorem dX8_take_8 : decode cX8_take 8 = .ok (.iload_n 1, 1) := by decide +kernel
theorem dX8_take_9 : decode cX8_take 9 = .ok (.iastore, 1) := by decide +kernel
theorem dX8_take_10 : decode cX8_take 10 = .ok (.aload_n 0, 1) := by decide +kernel
theorem dX8_take_11 : decode cX8_take 11 = .ok (.getfield 84, 3) := by decide +kernel
theorem dX8_take_14 : decode cX8_take 14 = .ok (.aload_n 0, 1) := by decide +kernel
theorem dX8_take_15 : decode cX8_take 15 = .ok (.getfield 186, 3) := by decide +kernel
theorem dX8_take_18 : decode cX8_take 18 = .ok (.aload_n 0, 1) := by decide +kernel
theorem dX8_take_19 : decode cX8_take 19 = .ok (.getfield 78, 3) := by decide +kernel
theorem dX8_take_22 : decode cX8_take 22 = .ok (.iload_n 1, 1) := by decide +kernel
theorem dX8_take_23 : decode cX8_take 23 = .ok (.iaload, 1) := by decide +kernel
theorem dX8_take_24 : decode cX8_take 24 = .ok (.iastore, 1) := by decide +kernel
theorem dX8_take_25 : decode cX8_take 25 = .ok (.aload_n 0, 1) := by decide +kernel
theorem dX8_take_26 : decode cX8_take 26 = .ok (.getfield 87, 3) := by decide +kernel
theorem dX8_take_29 : decode cX8_take 29 = .ok (.aload_n 0, 1) := by decide +kernel
theorem dX8_take_30 : decode cX8_take 30 = .ok (.getfield 186, 3) := by decide +kernel
theorem dX8_take_33 : decode cX8_take 33 = .ok (.iload_n 2, 1) := by decide +kernel
theorem dX8_take_34 : decode cX8_take 34 = .ok (.iastore, 1) := by decide +kernel
theorem dX8_take_35 : decode cX8_take 35 = .ok (.aload_n 0, 1) := by decide +kernel
theorem dX8_take_36 : decode cX8_take 36 = .ok (.dup, 1) := by decide +kernel
theorem dX8_take_37 : decode cX8_take 37 = .ok (.getfield 186, 3) := by decide +kernel
theorem dX8_take_40 : decode cX8_take 40 = .ok (.iconst 1, 1) := by decide +kernel
theorem dX8_take_41 : decode cX8_take 41 = .ok (.iadd, 1) := by decide +kernel
theorem dX8_take_42 : decode cX8_take 42 = .ok (.putfield 186, 3) := by decide +kernel
theorem dX8_take_45 : decode cX8_take 45 = .ok (.aload_n 0, 1) := by decide +kernel
theorem dX8_take_46 : decode cX8_take 46 = .ok (.getfield 75, 3) := by decide +kernel
theorem dX8_take_49 : decode cX8_take 49 = .ok (.aload_n 0, 1) := by decide +kernel
theorem dX8_take_50 : decode cX8_take 50 = .ok (.getfield 78, 3) := by decide +kernel
theorem dX8_take_53 : decode cX8_take 53 = .ok (.iload_n 1, 1) := by decide +kernel
theorem dX8_take_54 : decode cX8_take 54 = .ok (.iaload, 1) := by decide +kernel
theorem dX8_take_55 : decode cX8_take 55 = .ok (.iconst (-1), 1) := by decide +kernel
theorem dX8_take_56 : decode cX8_take 56 = .ok (.iastore, 1) := by decide +kernel
theorem dX8_take_57 : decode cX8_take 57 = .ok (.aload_n 0, 1) := by decide +kernel
theorem dX8_take_58 : decode cX8_take 58 = .ok (.getfield 75, 3) := by decide +kernel
theorem dX8_take_61 : decode cX8_take 61 = .ok (.iload_n 2, 1) := by decide +kernel
theorem dX8_take_62 : decode cX8_take 62 = .ok (.iload_n 1, 1) := by decide +kernel
theorem dX8_take_63 : decode cX8_take 63 = .ok (.iastore, 1) := by decide +kernel
theorem dX8_take_64 : decode cX8_take 64 = .ok (.aload_n 0, 1) := by decide +kernel
theorem dX8_take_65 : decode cX8_take 65 = .ok (.getfield 78, 3) := by decide +kernel
theorem dX8_take_68 : decode cX8_take 68 = .ok (.iload_n 1, 1) := by decide +kernel
theorem dX8_take_69 : decode cX8_take 69 = .ok (.iload_n 2, 1) := by decide +kernel
theorem dX8_take_70 : decode cX8_take 70 = .ok (.iastore, 1) := by decide +kernel
theorem dX8_take_71 : decode cX8_take 71 = .ok (.return_, 1) := by decide +kernel
theorem dX8_plans_0 : decode cX8_plans 0 = .ok (.aload_n 0, 1) := by decide +kernel
theorem dX8_plans_1 : decode cX8_plans 1 = .ok (.iconst 0, 1) := by decide +kernel
theorem dX8_plans_2 : decode cX8_plans 2 = .ok (.putfield 186, 3) := by decide +kernel
theorem dX8_plans_5 : decode cX8_plans 5 = .ok (.iconst 0, 1) := by decide +kernel
theorem dX8_plans_6 : decode cX8_plans 6 = .ok (.istore_n 1, 1) := by decide +kernel
theorem dX8_plans_7 : decode cX8_plans 7 = .ok (.iload_n 1, 1) := by decide +kernel
theorem dX8_plans_8 : decode cX8_plans 8 = .ok (.bipush 40, 2) := by decide +kernel
theorem dX8_plans_10 : decode cX8_plans 10 = .ok (.if_icmp .ge 16, 3) := by decide +kernel
theorem dX8_plans_13 : decode cX8_plans 13 = .ok (.aload_n 0, 1) := by decide +kernel
theorem dX8_plans_14 : decode cX8_plans 14 = .ok (.getfield 75, 3) := by decide +kernel
theorem dX8_plans_17 : decode cX8_plans 17 = .ok (.iload_n 1, 1) := by decide +kernel
theorem dX8_plans_18 : decode cX8_plans 18 = .ok (.iconst (-1), 1) := by decide +kernel
theorem dX8_plans_19 : decode cX8_plans 19 = .ok (.iastore, 1) := by decide +kernel
theorem dX8_plans_20 : decode cX8_plans 20 = .ok (.iinc 1 1, 3) := by decide +kernel
theorem dX8_plans_23 : decode cX8_plans 23 = .ok (.goto (-16), 3) := by decide +kernel
theorem dX8_plans_26 : decode cX8_plans 26 = .ok (.iconst 0, 1) := by decide +kernel
theorem dX8_plans_27 : decode cX8_plans 27 = .ok (.istore_n 1, 1) := by decide +kernel
theorem dX8_plans_28 : decode cX8_plans 28 = .ok (.iload_n 1, 1) := by decide +kernel
theorem dX8_plans_29 : decode cX8_plans 29 = .ok (.aload_n 0, 1) := by decide +kernel
theorem dX8_plans_30 : decode cX8_plans 30 = .ok (.getfield 118, 3) := by decide +kernel
theorem dX8_plans_33 : decode cX8_plans 33 = .ok (.if_icmp .ge 42, 3) := by decide +kernel
theorem dX8_plans_36 : decode cX8_plans 36 = .ok (.aload_n 0, 1) := by decide +kernel
theorem dX8_plans_37 : decode cX8_plans 37 = .ok (.getfield 78, 3) := by decide +kernel
theorem dX8_plans_40 : decode cX8_plans 40 = .ok (.iload_n 1, 1) := by decide +kernel
theorem dX8_plans_41 : decode cX8_plans 41 = .ok (.aload_n 0, 1) := by decide +kernel
theorem dX8_plans_42 : decode cX8_plans 42 = .ok (.getfield 54, 3) := by decide +kernel
theorem dX8_plans_45 : decode cX8_plans 45 = .ok (.iload_n 1, 1) := by decide +kernel
theorem dX8_plans_46 : decode cX8_plans 46 = .ok (.iaload, 1) := by decide +kernel
theorem dX8_plans_47 : decode cX8_plans 47 = .ok (.iastore, 1) := by decide +kernel
theorem dX8_plans_48 : decode cX8_plans 48 = .ok (.aload_n 0, 1) := by decide +kernel
theorem dX8_plans_49 : decode cX8_plans 49 = .ok (.getfield 54, 3) := by decide +kernel
theorem dX8_plans_52 : decode cX8_plans 52 = .ok (.iload_n 1, 1) := by decide +kernel
theorem dX8_plans_53 : decode cX8_plans 53 = .ok (.iaload, 1) := by decide +kernel
theorem dX8_plans_54 : decode cX8_plans 54 = .ok (.ifCond .lt 15, 3) := by decide +kernel
theorem dX8_plans_57 : decode cX8_plans 57 = .ok (.aload_n 0, 1) := by decide +kernel
theorem dX8_plans_58 : decode cX8_plans 58 = .ok (.getfield 75, 3) := by decide +kernel
theorem dX8_plans_61 : decode cX8_plans 61 = .ok (.aload_n 0, 1) := by decide +kernel
theorem dX8_plans_62 : decode cX8_plans 62 = .ok (.getfield 54, 3) := by decide +kernel
theorem dX8_plans_65 : decode cX8_plans 65 = .ok (.iload_n 1, 1) := by decide +kernel
theorem dX8_plans_66 : decode cX8_plans 66 = .ok (.iaload, 1) := by decide +kernel
theorem dX8_plans_67 : decode cX8_plans 67 = .ok (.iload_n 1, 1) := by decide +kernel
theorem dX8_plans_68 : decode cX8_plans 68 = .ok (.iastore, 1) := by decide +kernel
theorem dX8_plans_69 : decode cX8_plans 69 = .ok (.iinc 1 1, 3) := by decide +kernel
theorem dX8_plans_72 : decode cX8_plans 72 = .ok (.goto (-44), 3) := by decide +kernel
theorem dX8_plans_75 : decode cX8_plans 75 = .ok (.iconst 0, 1) := by decide +kernel
theorem dX8_plans_76 : decode cX8_plans 76 = .ok (.istore_n 1, 1) := by decide +kernel
theorem dX8_plans_77 : decode cX8_plans 77 = .ok (.iconst 0, 1) := by decide +kernel
theorem dX8_plans_78 : decode cX8_plans 78 = .ok (.istore_n 2, 1) := by decide +kernel
theorem dX8_plans_79 : decode cX8_plans 79 = .ok (.iload_n 2, 1) := by decide +kernel
theorem dX8_plans_80 : decode cX8_plans 80 = .ok (.aload_n 0, 1) := by decide +kernel
theorem dX8_plans_81 : decode cX8_plans 81 = .ok (.getfield 118, 3) := by decide +kernel
theorem dX8_plans_84 : decode cX8_plans 84 = .ok (.if_icmp .ge 73, 3) := by decide +kernel
theorem dX8_plans_87 : decode cX8_plans 87 = .ok (.aload_n 0, 1) := by decide +kernel
theorem dX8_plans_88 : decode cX8_plans 88 = .ok (.getfield 78, 3) := by decide +kernel
theorem dX8_plans_91 : decode cX8_plans 91 = .ok (.iload_n 2, 1) := by decide +kernel
theorem dX8_plans_92 : decode cX8_plans 92 = .ok (.iaload, 1) := by decide +kernel
theorem dX8_plans_93 : decode cX8_plans 93 = .ok (.ifCond .lt 58, 3) := by decide +kernel
theorem dX8_plans_96 : decode cX8_plans 96 = .ok (.aload_n 0, 1) := by decide +kernel
theorem dX8_plans_97 : decode cX8_plans 97 = .ok (.getfield 57, 3) := by decide +kernel
theorem dX8_plans_100 : decode cX8_plans 100 = .ok (.iload_n 2, 1) := by decide +kernel
theorem dX8_plans_101 : decode cX8_plans 101 = .ok (.iaload, 1) := by decide +kernel
theorem dX8_plans_102 : decode cX8_plans 102 = .ok (.ifCond .ge 6, 3) := by decide +kernel
theorem dX8_plans_105 : decode cX8_plans 105 = .ok (.goto 46, 3) := by decide +kernel
theorem dX8_plans_108 : decode cX8_plans 108 = .ok (.aload_n 0, 1) := by decide +kernel
theorem dX8_plans_109 : decode cX8_plans 109 = .ok (.getfield 75, 3) := by decide +kernel
theorem dX8_plans_112 : decode cX8_plans 112 = .ok (.aload_n 0, 1) := by decide +kernel
theorem dX8_plans_113 : decode cX8_plans 113 = .ok (.getfield 57, 3) := by decide +kernel
theorem dX8_plans_116 : decode cX8_plans 116 = .ok (.iload_n 2, 1) := by decide +kernel
theorem dX8_plans_117 : decode cX8_plans 117 = .ok (.iaload, 1) := by decide +kernel
theorem dX8_plans_118 : decode cX8_plans 118 = .ok (.iaload, 1) := by decide +kernel
theorem dX8_plans_119 : decode cX8_plans 119 = .ok (.istore_n 3, 1) := by decide +kernel
theorem dX8_plans_120 : decode cX8_plans 120 = .ok (.iload_n 3, 1) := by decide +kernel
theorem dX8_plans_121 : decode cX8_plans 121 = .ok (.ifCond .lt 14, 3) := by decide +kernel
theorem dX8_plans_124 : decode cX8_plans 124 = .ok (.aload_n 0, 1) := by decide +kernel
theorem dX8_plans_125 : decode cX8_plans 125 = .ok (.getfield 57, 3) := by decide +kernel
theorem dX8_plans_128 : decode cX8_plans 128 = .ok (.iload_n 3, 1) := by decide +kernel
theorem dX8_plans_129 : decode cX8_plans 129 = .ok (.iaload, 1) := by decide +kernel
theorem dX8_plans_130 : decode cX8_plans 130 = .ok (.ifCond .ge 5, 3) := by decide +kernel
theorem dX8_plans_133 : decode cX8_plans 133 = .ok (.iconst 0, 1) := by decide +kernel
theorem dX8_plans_134 : decode cX8_plans 134 = .ok (.ireturn, 1) := by decide +kernel
theorem dX8_plans_135 : decode cX8_plans 135 = .ok (.iload_n 1, 1) := by decide +kernel
theorem dX8_plans_136 : decode cX8_plans 136 = .ok (.aload_n 0, 1) := by decide +kernel
theorem dX8_plans_137 : decode cX8_plans 137 = .ok (.iload_n 2, 1) := by decide +kernel
theorem dX8_plans_138 : decode cX8_plans 138 = .ok (.invokevirtual 189, 3) := by decide +kernel
theorem dX8_plans_141 : decode cX8_plans 141 = .ok (.ifCond .eq 7, 3) := by decide +kernel
theorem dX8_plans_144 : decode cX8_plans 144 = .ok (.iconst 1, 1) := by decide +kernel
theorem dX8_plans_145 : decode cX8_plans 145 = .ok (.goto 4, 3) := by decide +kernel
theorem dX8_plans_148 : decode cX8_plans 148 = .ok (.iconst 0, 1) := by decide +kernel
theorem dX8_plans_149 : decode cX8_plans 149 = .ok (.iadd, 1) := by decide +kernel
theorem dX8_plans_150 : decode cX8_plans 150 = .ok (.istore_n 1, 1) := by decide +kernel
theorem dX8_plans_151 : decode cX8_plans 151 = .ok (.iinc 2 1, 3) := by decide +kernel
theorem dX8_plans_154 : decode cX8_plans 154 = .ok (.goto (-75), 3) := by decide +kernel
theorem dX8_plans_157 : decode cX8_plans 157 = .ok (.iload_n 1, 1) := by decide +kernel
theorem dX8_plans_158 : decode cX8_plans 158 = .ok (.ifCond .le 125, 3) := by decide +kernel
theorem dX8_plans_161 : decode cX8_plans 161 = .ok (.iconst (-1), 1) := by decide +kernel
theorem dX8_plans_162 : decode cX8_plans 162 = .ok (.istore_n 2, 1) := by decide +kernel
theorem dX8_plans_163 : decode cX8_plans 163 = .ok (.iconst (-1), 1) := by decide +kernel
theorem dX8_plans_164 : decode cX8_plans 164 = .ok (.istore_n 3, 1) := by decide +kernel
theorem dX8_plans_165 : decode cX8_plans 165 = .ok (.aload_n 0, 1) := by decide +kernel
theorem dX8_plans_166 : decode cX8_plans 166 = .ok (.getfield 118, 3) := by decide +kernel
theorem dX8_plans_169 : decode cX8_plans 169 = .ok (.iconst 1, 1) := by decide +kernel
theorem dX8_plans_170 : decode cX8_plans 170 = .ok (.isub, 1) := by decide +kernel
theorem dX8_plans_171 : decode cX8_plans 171 = .ok (.istore 4, 2) := by decide +kernel
theorem dX8_plans_173 : decode cX8_plans 173 = .ok (.iload 4, 2) := by decide +kernel
theorem dX8_plans_175 : decode cX8_plans 175 = .ok (.ifCond .lt 42, 3) := by decide +kernel
theorem dX8_plans_178 : decode cX8_plans 178 = .ok (.aload_n 0, 1) := by decide +kernel
theorem dX8_plans_179 : decode cX8_plans 179 = .ok (.iload 4, 2) := by decide +kernel
theorem dX8_plans_181 : decode cX8_plans 181 = .ok (.invokevirtual 189, 3) := by decide +kernel
theorem dX8_plans_184 : decode cX8_plans 184 = .ok (.ifCond .ne 6, 3) := by decide +kernel
theorem dX8_plans_187 : decode cX8_plans 187 = .ok (.goto 24, 3) := by decide +kernel
theorem dX8_plans_190 : decode cX8_plans 190 = .ok (.iload 4, 2) := by decide +kernel
theorem dX8_plans_192 : decode cX8_plans 192 = .ok (.istore_n 3, 1) := by decide +kernel
theorem dX8_plans_193 : decode cX8_plans 193 = .ok (.aload_n 0, 1) := by decide +kernel
theorem dX8_plans_194 : decode cX8_plans 194 = .ok (.getfield 75, 3) := by decide +kernel
theorem dX8_plans_197 : decode cX8_plans 197 = .ok (.aload_n 0, 1) := by decide +kernel
theorem dX8_plans_198 : decode cX8_plans 198 = .ok (.getfield 57, 3) := by decide +kernel
theorem dX8_plans_201 : decode cX8_plans 201 = .ok (.iload 4, 2) := by decide +kernel
theorem dX8_plans_203 : decode cX8_plans 203 = .ok (.iaload, 1) := by decide +kernel
theorem dX8_plans_204 : decode cX8_plans 204 = .ok (.iaload, 1) := by decide +kernel
theorem dX8_plans_205 : decode cX8_plans 205 = .ok (.ifCond .ge 6, 3) := by decide +kernel
theorem dX8_plans_208 : decode cX8_plans 208 = .ok (.iload 4, 2) := by decide +kernel
theorem dX8_plans_210 : decode cX8_plans 210 = .ok (.istore_n 2, 1) := by decide +kernel
theorem dX8_plans_211 : decode cX8_plans 211 = .ok (.iinc 4 (-1), 3) := by decide +kernel
theorem dX8_plans_214 : decode cX8_plans 214 = .ok (.goto (-41), 3) := by decide +kernel
theorem dX8_plans_217 : decode cX8_plans 217 = .ok (.iload_n 2, 1) := by decide +kernel
theorem dX8_plans_218 : decode cX8_plans 218 = .ok (.ifCond .lt 20, 3) := by decide +kernel
theorem dX8_plans_221 : decode cX8_plans 221 = .ok (.aload_n 0, 1) := by decide +kernel
theorem dX8_plans_222 : decode cX8_plans 222 = .ok (.iload_n 2, 1) := by decide +kernel
theorem dX8_plans_223 : decode cX8_plans 223 = .ok (.aload_n 0, 1) := by decide +kernel
theorem dX8_plans_224 : decode cX8_plans 224 = .ok (.getfield 57, 3) := by decide +kernel
theorem dX8_plans_227 : decode cX8_plans 227 = .ok (.iload_n 2, 1) := by decide +kernel
theorem dX8_plans_228 : decode cX8_plans 228 = .ok (.iaload, 1) := by decide +kernel
theorem dX8_plans_229 : decode cX8_plans 229 = .ok (.invokevirtual 192, 3) := by decide +kernel
theorem dX8_plans_232 : decode cX8_plans 232 = .ok (.iinc 1 (-1), 3) := by decide +kernel
theorem dX8_plans_235 : decode cX8_plans 235 = .ok (.goto 45, 3) := by decide +kernel
theorem dX8_plans_238 : decode cX8_plans 238 = .ok (.iconst 0, 1) := by decide +kernel
theorem dX8_plans_239 : decode cX8_plans 239 = .ok (.istore 4, 2) := by decide +kernel
theorem dX8_plans_241 : decode cX8_plans 241 = .ok (.iload 4, 2) := by decide +kernel
theorem dX8_plans_243 : decode cX8_plans 243 = .ok (.bipush 40, 2) := by decide +kernel
theorem dX8_plans_245 : decode cX8_plans 245 = .ok (.if_icmp .ge 19, 3) := by decide +kernel
theorem dX8_plans_248 : decode cX8_plans 248 = .ok (.aload_n 0, 1) := by decide +kernel
theorem dX8_plans_249 : decode cX8_plans 249 = .ok (.getfield 75, 3) := by decide +kernel
theorem dX8_plans_252 : decode cX8_plans 252 = .ok (.iload 4, 2) := by decide +kernel
theorem dX8_plans_254 : decode cX8_plans 254 = .ok (.iaload, 1) := by decide +kernel
theorem dX8_plans_255 : decode cX8_plans 255 = .ok (.ifCond .lt 9, 3) := by decide +kernel
theorem dX8_plans_258 : decode cX8_plans 258 = .ok (.iinc 4 1, 3) := by decide +kernel
theorem dX8_plans_261 : decode cX8_plans 261 = .ok (.goto (-20), 3) := by decide +kernel
theorem dX8_plans_264 : decode cX8_plans 264 = .ok (.iload 4, 2) := by decide +kernel
theorem dX8_plans_266 : decode cX8_plans 266 = .ok (.bipush 40, 2) := by decide +kernel
theorem dX8_plans_268 : decode cX8_plans 268 = .ok (.if_icmp .ne 5, 3) := by decide +kernel
theorem dX8_plans_271 : decode cX8_plans 271 = .ok (.iconst 0, 1) := by decide +kernel
theorem dX8_plans_272 : decode cX8_plans 272 = .ok (.ireturn, 1) := by decide +kernel
theorem dX8_plans_273 : decode cX8_plans 273 = .ok (.aload_n 0, 1) := by decide +kernel
theorem dX8_plans_274 : decode cX8_plans 274 = .ok (.iload_n 3, 1) := by decide +kernel
theorem dX8_plans_275 : decode cX8_plans 275 = .ok (.iload 4, 2) := by decide +kernel
theorem dX8_plans_277 : decode cX8_plans 277 = .ok (.invokevirtual 192, 3) := by decide +kernel
theorem dX8_plans_280 : decode cX8_plans 280 = .ok (.goto (-123), 3) := by decide +kernel
theorem dX8_plans_283 : decode cX8_plans 283 = .ok (.iconst 1, 1) := by decide +kernel
theorem dX8_plans_284 : decode cX8_plans 284 = .ok (.ireturn, 1) := by decide +kernel
theorem dX8_plan_0 : decode cX8_plan 0 = .ok (.aload_n 0, 1) := by decide +kernel
theorem dX8_plan_1 : decode cX8_plan 1 = .ok (.iconst 0, 1) := by decide +kernel
theorem dX8_plan_2 : decode cX8_plan 2 = .ok (.putfield 93, 3) := by decide +kernel
theorem dX8_plan_5 : decode cX8_plan 5 = .ok (.aload_n 0, 1) := by decide +kernel
theorem dX8_plan_6 : decode cX8_plan 6 = .ok (.iconst 0, 1) := by decide +kernel
theorem dX8_plan_7 : decode cX8_plan 7 = .ok (.putfield 97, 3) := by decide +kernel
theorem dX8_plan_10 : decode cX8_plan 10 = .ok (.aload_n 0, 1) := by decide +kernel
theorem dX8_plan_11 : decode cX8_plan 11 = .ok (.invokevirtual 196, 3) := by decide +kernel
theorem dX8_plan_14 : decode cX8_plan 14 = .ok (.ifCond .eq 10, 3) := by decide +kernel
theorem dX8_plan_17 : decode cX8_plan 17 = .ok (.aload_n 0, 1) := by decide +kernel
theorem dX8_plan_18 : decode cX8_plan 18 = .ok (.getfield 186, 3) := by decide +kernel
theorem dX8_plan_21 : decode cX8_plan 21 = .ok (.goto 9, 3) := by decide +kernel
theorem dX8_plan_24 : decode cX8_plan 24 = .ok (.aload_n 0, 1) := by decide +kernel
theorem dX8_plan_25 : decode cX8_plan 25 = .ok (.bipush 12, 2) := by decide +kernel
theorem dX8_plan_27 : decode cX8_plan 27 = .ok (.invokevirtual 121, 3) := by decide +kernel
theorem dX8_plan_30 : decode cX8_plan 30 = .ok (.ireturn, 1) := by decide +kernel
theorem dX8_carry_0 : decode cX8_carry 0 = .ok (.aload_n 0, 1) := by decide +kernel
theorem dX8_carry_1 : decode cX8_carry 1 = .ok (.iconst 0, 1) := by decide +kernel
theorem dX8_carry_2 : decode cX8_carry 2 = .ok (.putfield 93, 3) := by decide +kernel
theorem dX8_carry_5 : decode cX8_carry 5 = .ok (.aload_n 0, 1) := by decide +kernel
theorem dX8_carry_6 : decode cX8_carry 6 = .ok (.iconst 0, 1) := by decide +kernel
theorem dX8_carry_7 : decode cX8_carry 7 = .ok (.putfield 97, 3) := by decide +kernel
theorem dX8_carry_10 : decode cX8_carry 10 = .ok (.aload_n 0, 1) := by decide +kernel
theorem dX8_carry_11 : decode cX8_carry 11 = .ok (.invokevirtual 196, 3) := by decide +kernel
theorem dX8_carry_14 : decode cX8_carry 14 = .ok (.ifCond .ne 10, 3) := by decide +kernel
theorem dX8_carry_17 : decode cX8_carry 17 = .ok (.aload_n 0, 1) := by decide +kernel
theorem dX8_carry_18 : decode cX8_carry 18 = .ok (.bipush 12, 2) := by decide +kernel
theorem dX8_carry_20 : decode cX8_carry 20 = .ok (.invokevirtual 121, 3) := by decide +kernel
theorem dX8_carry_23 : decode cX8_carry 23 = .ok (.ireturn, 1) := by decide +kernel
theorem dX8_carry_24 : decode cX8_carry 24 = .ok (.iload_n 1, 1) := by decide +kernel
theorem dX8_carry_25 : decode cX8_carry 25 = .ok (.ifCond .lt 11, 3) := by decide +kernel
theorem dX8_carry_28 : decode cX8_carry 28 = .ok (.iload_n 1, 1) := by decide +kernel
theorem dX8_carry_29 : decode cX8_carry 29 = .ok (.aload_n 0, 1) := by decide +kernel
theorem dX8_carry_30 : decode cX8_carry 30 = .ok (.getfield 186, 3) := by decide +kernel
theorem dX8_carry_33 : decode cX8_carry 33 = .ok (.if_icmp .lt 10, 3) := by decide +kernel
theorem dX8_carry_36 : decode cX8_carry 36 = .ok (.aload_n 0, 1) := by decide +kernel
theorem dX8_carry_37 : decode cX8_carry 37 = .ok (.bipush 9, 2) := by decide +kernel
theorem dX8_carry_39 : decode cX8_carry 39 = .ok (.invokevirtual 121, 3) := by decide +kernel
theorem dX8_carry_42 : decode cX8_carry 42 = .ok (.ireturn, 1) := by decide +kernel
theorem dX8_carry_43 : decode cX8_carry 43 = .ok (.iload_n 2, 1) := by decide +kernel
theorem dX8_carry_44 : decode cX8_carry 44 = .ok (.tableswitch 49 0 2 #[28, 35, 42], 28) := by decide +kernel
theorem dX8_carry_72 : decode cX8_carry 72 = .ok (.aload_n 0, 1) := by decide +kernel
theorem dX8_carry_73 : decode cX8_carry 73 = .ok (.getfield 81, 3) := by decide +kernel
theorem dX8_carry_76 : decode cX8_carry 76 = .ok (.iload_n 1, 1) := by decide +kernel
theorem dX8_carry_77 : decode cX8_carry 77 = .ok (.iaload, 1) := by decide +kernel
theorem dX8_carry_78 : decode cX8_carry 78 = .ok (.ireturn, 1) := by decide +kernel
theorem dX8_carry_79 : decode cX8_carry 79 = .ok (.aload_n 0, 1) := by decide +kernel
theorem dX8_carry_80 : decode cX8_carry 80 = .ok (.getfield 84, 3) := by decide +kernel
theorem dX8_carry_83 : decode cX8_carry 83 = .ok (.iload_n 1, 1) := by decide +kernel
theorem dX8_carry_84 : decode cX8_carry 84 = .ok (.iaload, 1) := by decide +kernel
theorem dX8_carry_85 : decode cX8_carry 85 = .ok (.ireturn, 1) := by decide +kernel
theorem dX8_carry_86 : decode cX8_carry 86 = .ok (.aload_n 0, 1) := by decide +kernel
theorem dX8_carry_87 : decode cX8_carry 87 = .ok (.getfield 87, 3) := by decide +kernel
theorem dX8_carry_90 : decode cX8_carry 90 = .ok (.iload_n 1, 1) := by decide +kernel
theorem dX8_carry_91 : decode cX8_carry 91 = .ok (.iaload, 1) := by decide +kernel
theorem dX8_carry_92 : decode cX8_carry 92 = .ok (.ireturn, 1) := by decide +kernel
theorem dX8_carry_93 : decode cX8_carry 93 = .ok (.aload_n 0, 1) := by decide +kernel
theorem dX8_carry_94 : decode cX8_carry 94 = .ok (.iconst 5, 1) := by decide +kernel
theorem dX8_carry_95 : decode cX8_carry 95 = .ok (.invokevirtual 121, 3) := by decide +kernel
theorem dX8_carry_98 : decode cX8_carry 98 = .ok (.ireturn, 1) := by decide +kernel
theorem dX8_carried_0 : decode cX8_carried 0 = .ok (.aload_n 0, 1) := by decide +kernel
theorem dX8_carried_1 : decode cX8_carried 1 = .ok (.iconst 0, 1) := by decide +kernel
theorem dX8_carried_2 : decode cX8_carried 2 = .ok (.putfield 93, 3) := by decide +kernel
theorem dX8_carried_5 : decode cX8_carried 5 = .ok (.aload_n 0, 1) := by decide +kernel
theorem dX8_carried_6 : decode cX8_carried 6 = .ok (.iconst 0, 1) := by decide +kernel
theorem dX8_carried_7 : decode cX8_carried 7 = .ok (.putfield 97, 3) := by decide +kernel
theorem dX8_carried_10 : decode cX8_carried 10 = .ok (.aload_n 0, 1) := by decide +kernel
theorem dX8_carried_11 : decode cX8_carried 11 = .ok (.invokevirtual 196, 3) := by decide +kernel
theorem dX8_carried_14 : decode cX8_carried 14 = .ok (.ifCond .ne 10, 3) := by decide +kernel
theorem dX8_carried_17 : decode cX8_carried 17 = .ok (.aload_n 0, 1) := by decide +kernel
theorem dX8_carried_18 : decode cX8_carried 18 = .ok (.bipush 12, 2) := by decide +kernel
theorem dX8_carried_20 : decode cX8_carried 20 = .ok (.invokevirtual 100, 3) := by decide +kernel
theorem dX8_carried_23 : decode cX8_carried 23 = .ok (.ireturn, 1) := by decide +kernel
theorem dX8_carried_24 : decode cX8_carried 24 = .ok (.iconst 0, 1) := by decide +kernel
theorem dX8_carried_25 : decode cX8_carried 25 = .ok (.istore_n 1, 1) := by decide +kernel
theorem dX8_carried_26 : decode cX8_carried 26 = .ok (.iload_n 1, 1) := by decide +kernel
theorem dX8_carried_27 : decode cX8_carried 27 = .ok (.aload_n 0, 1) := by decide +kernel
theorem dX8_carried_28 : decode cX8_carried 28 = .ok (.getfield 118, 3) := by decide +kernel
theorem dX8_carried_31 : decode cX8_carried 31 = .ok (.if_icmp .ge 21, 3) := by decide +kernel
theorem dX8_carried_34 : decode cX8_carried 34 = .ok (.aload_n 0, 1) := by decide +kernel
theorem dX8_carried_35 : decode cX8_carried 35 = .ok (.getfield 54, 3) := by decide +kernel
theorem dX8_carried_38 : decode cX8_carried 38 = .ok (.iload_n 1, 1) := by decide +kernel
theorem dX8_carried_39 : decode cX8_carried 39 = .ok (.aload_n 0, 1) := by decide +kernel
theorem dX8_carried_40 : decode cX8_carried 40 = .ok (.getfield 78, 3) := by decide +kernel
theorem dX8_carried_43 : decode cX8_carried 43 = .ok (.iload_n 1, 1) := by decide +kernel
theorem dX8_carried_44 : decode cX8_carried 44 = .ok (.iaload, 1) := by decide +kernel
theorem dX8_carried_45 : decode cX8_carried 45 = .ok (.iastore, 1) := by decide +kernel
theorem dX8_carried_46 : decode cX8_carried 46 = .ok (.iinc 1 1, 3) := by decide +kernel
theorem dX8_carried_49 : decode cX8_carried 49 = .ok (.goto (-23), 3) := by decide +kernel
theorem dX8_carried_52 : decode cX8_carried 52 = .ok (.iconst 1, 1) := by decide +kernel
theorem dX8_carried_53 : decode cX8_carried 53 = .ok (.ireturn, 1) := by decide +kernel
theorem dX8_weightOf_0 : decode cX8_weightOf 0 = .ok (.aload_n 0, 1) := by decide +kernel
theorem dX8_weightOf_1 : decode cX8_weightOf 1 = .ok (.getfield 20, 3) := by decide +kernel
theorem dX8_weightOf_4 : decode cX8_weightOf 4 = .ok (.bipush 40, 2) := by decide +kernel
theorem dX8_weightOf_6 : decode cX8_weightOf 6 = .ok (.iload_n 1, 1) := by decide +kernel
theorem dX8_weightOf_7 : decode cX8_weightOf 7 = .ok (.imul, 1) := by decide +kernel
theorem dX8_weightOf_8 : decode cX8_weightOf 8 = .ok (.iconst 2, 1) := by decide +kernel
theorem dX8_weightOf_9 : decode cX8_weightOf 9 = .ok (.iload_n 2, 1) := by decide +kernel
theorem dX8_weightOf_10 : decode cX8_weightOf 10 = .ok (.imul, 1) := by decide +kernel
theorem dX8_weightOf_11 : decode cX8_weightOf 11 = .ok (.iadd, 1) := by decide +kernel
theorem dX8_weightOf_12 : decode cX8_weightOf 12 = .ok (.laload, 1) := by decide +kernel
theorem dX8_weightOf_13 : decode cX8_weightOf 13 = .ok (.lreturn, 1) := by decide +kernel
theorem dX8_costOf_0 : decode cX8_costOf 0 = .ok (.aload_n 0, 1) := by decide +kernel
theorem dX8_costOf_1 : decode cX8_costOf 1 = .ok (.getfield 20, 3) := by decide +kernel
theorem dX8_costOf_4 : decode cX8_costOf 4 = .ok (.bipush 40, 2) := by decide +kernel
theorem dX8_costOf_6 : decode cX8_costOf 6 = .ok (.iload_n 1, 1) := by decide +kernel
theorem dX8_costOf_7 : decode cX8_costOf 7 = .ok (.imul, 1) := by decide +kernel
theorem dX8_costOf_8 : decode cX8_costOf 8 = .ok (.iconst 2, 1) := by decide +kernel
theorem dX8_costOf_9 : decode cX8_costOf 9 = .ok (.iload_n 2, 1) := by decide +kernel
theorem dX8_costOf_10 : decode cX8_costOf 10 = .ok (.imul, 1) := by decide +kernel
theorem dX8_costOf_11 : decode cX8_costOf 11 = .ok (.iadd, 1) := by decide +kernel
theorem dX8_costOf_12 : decode cX8_costOf 12 = .ok (.iconst 1, 1) := by decide +kernel
theorem dX8_costOf_13 : decode cX8_costOf 13 = .ok (.iadd, 1) := by decide +kernel
theorem dX8_costOf_14 : decode cX8_costOf 14 = .ok (.laload, 1) := by decide +kernel
theorem dX8_costOf_15 : decode cX8_costOf 15 = .ok (.lreturn, 1) := by decide +kernel
theorem dX8_search_0 : decode cX8_search 0 = .ok (.aload_n 0, 1) := by decide +kernel
theorem dX8_search_1 : decode cX8_search 1 = .ok (.iconst 0, 1) := by decide +kernel
theorem dX8_search_2 : decode cX8_search 2 = .ok (.putfield 93, 3) := by decide +kernel
theorem dX8_search_5 : decode cX8_search 5 = .ok (.aload_n 0, 1) := by decide +kernel
theorem dX8_search_6 : decode cX8_search 6 = .ok (.aload_n 0, 1) := by decide +kernel
theorem dX8_search_7 : decode cX8_search 7 = .ok (.iload_n 1, 1) := by decide +kernel
theorem dX8_search_8 : decode cX8_search 8 = .ok (.invokevirtual 104, 3) := by decide +kernel
theorem dX8_search_11 : decode cX8_search 11 = .ok (.putfield 97, 3) := by decide +kernel
theorem dX8_search_14 : decode cX8_search 14 = .ok (.aload_n 0, 1) := by decide +kernel
theorem dX8_search_15 : decode cX8_search 15 = .ok (.getfield 97, 3) := by decide +kernel
theorem dX8_search_18 : decode cX8_search 18 = .ok (.ifCond .le 5, 3) := by decide +kernel
theorem dX8_search_21 : decode cX8_search 21 = .ok (.iconst (-1), 1) := by decide +kernel
theorem dX8_search_22 : decode cX8_search 22 = .ok (.ireturn, 1) := by decide +kernel
theorem dX8_search_23 : decode cX8_search 23 = .ok (.iload_n 2, 1) := by decide +kernel
theorem dX8_search_24 : decode cX8_search 24 = .ok (.iconst 1, 1) := by decide +kernel
theorem dX8_search_25 : decode cX8_search 25 = .ok (.if_icmp .lt 9, 3) := by decide +kernel
theorem dX8_search_28 : decode cX8_search 28 = .ok (.iload_n 2, 1) := by decide +kernel
theorem dX8_search_29 : decode cX8_search 29 = .ok (.bipush 20, 2) := by decide +kernel
theorem dX8_search_31 : decode cX8_search 31 = .ok (.if_icmp .le 9, 3) := by decide +kernel
theorem dX8_search_34 : decode cX8_search 34 = .ok (.aload_n 0, 1) := by decide +kernel
theorem dX8_search_35 : decode cX8_search 35 = .ok (.iconst 5, 1) := by decide +kernel
theorem dX8_search_36 : decode cX8_search 36 = .ok (.invokevirtual 121, 3) := by decide +kernel
theorem dX8_search_39 : decode cX8_search 39 = .ok (.ireturn, 1) := by decide +kernel
theorem dX8_search_40 : decode cX8_search 40 = .ok (.iconst 2, 1) := by decide +kernel
theorem dX8_search_41 : decode cX8_search 41 = .ok (.iload_n 2, 1) := by decide +kernel
theorem dX8_search_42 : decode cX8_search 42 = .ok (.imul, 1) := by decide +kernel
theorem dX8_search_43 : decode cX8_search 43 = .ok (.aload_n 0, 1) := by decide +kernel
theorem dX8_search_44 : decode cX8_search 44 = .ok (.getfield 17, 3) := by decide +kernel
theorem dX8_search_47 : decode cX8_search 47 = .ok (.iload_n 1, 1) := by decide +kernel
theorem dX8_search_48 : decode cX8_search 48 = .ok (.iaload, 1) := by decide +kernel
theorem dX8_search_49 : decode cX8_search 49 = .ok (.if_icmp .le 9, 3) := by decide +kernel
theorem dX8_search_52 : decode cX8_search 52 = .ok (.aload_n 0, 1) := by decide +kernel
theorem dX8_search_53 : decode cX8_search 53 = .ok (.iconst 4, 1) := by decide +kernel
theorem dX8_search_54 : decode cX8_search 54 = .ok (.invokevirtual 121, 3) := by decide +kernel
theorem dX8_search_57 : decode cX8_search 57 = .ok (.ireturn, 1) := by decide +kernel
theorem dX8_search_58 : decode cX8_search 58 = .ok (.iconst 0, 1) := by decide +kernel
theorem dX8_search_59 : decode cX8_search 59 = .ok (.istore 4, 2) := by decide +kernel
theorem dX8_search_61 : decode cX8_search 61 = .ok (.iload 4, 2) := by decide +kernel
theorem dX8_search_63 : decode cX8_search 63 = .ok (.iconst 2, 1) := by decide +kernel
theorem dX8_search_64 : decode cX8_search 64 = .ok (.iload_n 2, 1) := by decide +kernel
theorem dX8_search_65 : decode cX8_search 65 = .ok (.imul, 1) := by decide +kernel
theorem dX8_search_66 : decode cX8_search 66 = .ok (.if_icmp .ge 51, 3) := by decide +kernel
theorem dX8_search_69 : decode cX8_search 69 = .ok (.aload_n 0, 1) := by decide +kernel
theorem dX8_search_70 : decode cX8_search 70 = .ok (.getfield 20, 3) := by decide +kernel
theorem dX8_search_73 : decode cX8_search 73 = .ok (.bipush 40, 2) := by decide +kernel
theorem dX8_search_75 : decode cX8_search 75 = .ok (.iload_n 1, 1) := by decide +kernel
theorem dX8_search_76 : decode cX8_search 76 = .ok (.imul, 1) := by decide +kernel
theorem dX8_search_77 : decode cX8_search 77 = .ok (.iload 4, 2) := by decide +kernel
theorem dX8_search_79 : decode cX8_search 79 = .ok (.iadd, 1) := by decide +kernel
theorem dX8_search_80 : decode cX8_search 80 = .ok (.laload, 1) := by decide +kernel
theorem dX8_search_81 : decode cX8_search 81 = .ok (.lconst 1, 1) := by decide +kernel
theorem dX8_search_82 : decode cX8_search 82 = .ok (.lcmp, 1) := by decide +kernel
theorem dX8_search_83 : decode cX8_search 83 = .ok (.ifCond .lt 22, 3) := by decide +kernel
theorem dX8_search_86 : decode cX8_search 86 = .ok (.aload_n 0, 1) := by decide +kernel
theorem dX8_search_87 : decode cX8_search 87 = .ok (.getfield 20, 3) := by decide +kernel
theorem dX8_search_90 : decode cX8_search 90 = .ok (.bipush 40, 2) := by decide +kernel
theorem dX8_search_92 : decode cX8_search 92 = .ok (.iload_n 1, 1) := by decide +kernel
theorem dX8_search_93 : decode cX8_search 93 = .ok (.imul, 1) := by decide +kernel
theorem dX8_search_94 : decode cX8_search 94 = .ok (.iload 4, 2) := by decide +kernel
theorem dX8_search_96 : decode cX8_search 96 = .ok (.iadd, 1) := by decide +kernel
theorem dX8_search_97 : decode cX8_search 97 = .ok (.laload, 1) := by decide +kernel
theorem dX8_search_98 : decode cX8_search 98 = .ok (.ldc2_w 200, 3) := by decide +kernel
theorem dX8_search_101 : decode cX8_search 101 = .ok (.lcmp, 1) := by decide +kernel
theorem dX8_search_102 : decode cX8_search 102 = .ok (.ifCond .le 9, 3) := by decide +kernel
theorem dX8_search_105 : decode cX8_search 105 = .ok (.aload_n 0, 1) := by decide +kernel
theorem dX8_search_106 : decode cX8_search 106 = .ok (.iconst 5, 1) := by decide +kernel
theorem dX8_search_107 : decode cX8_search 107 = .ok (.invokevirtual 121, 3) := by decide +kernel
theorem dX8_search_110 : decode cX8_search 110 = .ok (.ireturn, 1) := by decide +kernel
theorem dX8_search_111 : decode cX8_search 111 = .ok (.iinc 4 1, 3) := by decide +kernel
theorem dX8_search_114 : decode cX8_search 114 = .ok (.goto (-53), 3) := by decide +kernel
theorem dX8_search_117 : decode cX8_search 117 = .ok (.iload_n 3, 1) := by decide +kernel
theorem dX8_search_118 : decode cX8_search 118 = .ok (.ifCond .lt 8, 3) := by decide +kernel
theorem dX8_search_121 : decode cX8_search 121 = .ok (.iload_n 3, 1) := by decide +kernel
theorem dX8_search_122 : decode cX8_search 122 = .ok (.iload_n 2, 1) := by decide +kernel
theorem dX8_search_123 : decode cX8_search 123 = .ok (.if_icmp .lt 10, 3) := by decide +kernel
theorem dX8_search_126 : decode cX8_search 126 = .ok (.aload_n 0, 1) := by decide +kernel
theorem dX8_search_127 : decode cX8_search 127 = .ok (.bipush 9, 2) := by decide +kernel
theorem dX8_search_129 : decode cX8_search 129 = .ok (.invokevirtual 121, 3) := by decide +kernel
theorem dX8_search_132 : decode cX8_search 132 = .ok (.ireturn, 1) := by decide +kernel
theorem dX8_search_133 : decode cX8_search 133 = .ok (.iconst 0, 1) := by decide +kernel
theorem dX8_search_134 : decode cX8_search 134 = .ok (.istore 4, 2) := by decide +kernel
theorem dX8_search_136 : decode cX8_search 136 = .ok (.iload 4, 2) := by decide +kernel
theorem dX8_search_138 : decode cX8_search 138 = .ok (.iload_n 2, 1) := by decide +kernel
theorem dX8_search_139 : decode cX8_search 139 = .ok (.if_icmp .ge 97, 3) := by decide +kernel
theorem dX8_search_142 : decode cX8_search 142 = .ok (.iload 4, 2) := by decide +kernel
theorem dX8_search_144 : decode cX8_search 144 = .ok (.istore 5, 2) := by decide +kernel
theorem dX8_search_146 : decode cX8_search 146 = .ok (.iload 5, 2) := by decide +kernel
theorem dX8_search_148 : decode cX8_search 148 = .ok (.ifCond .le 73, 3) := by decide +kernel
theorem dX8_search_151 : decode cX8_search 151 = .ok (.aload_n 0, 1) := by decide +kernel
theorem dX8_search_152 : decode cX8_search 152 = .ok (.iload_n 1, 1) := by decide +kernel
theorem dX8_search_153 : decode cX8_search 153 = .ok (.aload_n 0, 1) := by decide +kernel
theorem dX8_search_154 : decode cX8_search 154 = .ok (.getfield 90, 3) := by decide +kernel
theorem dX8_search_157 : decode cX8_search 157 = .ok (.iload 5, 2) := by decide +kernel
theorem dX8_search_159 : decode cX8_search 159 = .ok (.iconst 1, 1) := by decide +kernel
theorem dX8_search_160 : decode cX8_search 160 = .ok (.isub, 1) := by decide +kernel
theorem dX8_search_161 : decode cX8_search 161 = .ok (.iaload, 1) := by decide +kernel
theorem dX8_search_162 : decode cX8_search 162 = .ok (.invokevirtual 202, 3) := by decide +kernel
theorem dX8_search_165 : decode cX8_search 165 = .ok (.aload_n 0, 1) := by decide +kernel
theorem dX8_search_166 : decode cX8_search 166 = .ok (.iload_n 1, 1) := by decide +kernel
theorem dX8_search_167 : decode cX8_search 167 = .ok (.iload 4, 2) := by decide +kernel
theorem dX8_search_169 : decode cX8_search 169 = .ok (.invokevirtual 206, 3) := by decide +kernel
theorem dX8_search_172 : decode cX8_search 172 = .ok (.lmul, 1) := by decide +kernel
theorem dX8_search_173 : decode cX8_search 173 = .ok (.aload_n 0, 1) := by decide +kernel
theorem dX8_search_174 : decode cX8_search 174 = .ok (.iload_n 1, 1) := by decide +kernel
theorem dX8_search_175 : decode cX8_search 175 = .ok (.iload 4, 2) := by decide +kernel
theorem dX8_search_177 : decode cX8_search 177 = .ok (.invokevirtual 202, 3) := by decide +kernel
theorem dX8_search_180 : decode cX8_search 180 = .ok (.aload_n 0, 1) := by decide +kernel
theorem dX8_search_181 : decode cX8_search 181 = .ok (.iload_n 1, 1) := by decide +kernel
theorem dX8_search_182 : decode cX8_search 182 = .ok (.aload_n 0, 1) := by decide +kernel
theorem dX8_search_183 : decode cX8_search 183 = .ok (.getfield 90, 3) := by decide +kernel
theorem dX8_search_186 : decode cX8_search 186 = .ok (.iload 5, 2) := by decide +kernel
theorem dX8_search_188 : decode cX8_search 188 = .ok (.iconst 1, 1) := by decide +kernel
theorem dX8_search_189 : decode cX8_search 189 = .ok (.isub, 1) := by decide +kernel
theorem dX8_search_190 : decode cX8_search 190 = .ok (.iaload, 1) := by decide +kernel
theorem dX8_search_191 : decode cX8_search 191 = .ok (.invokevirtual 206, 3) := by decide +kernel
theorem dX8_search_194 : decode cX8_search 194 = .ok (.lmul, 1) := by decide +kernel
theorem dX8_search_195 : decode cX8_search 195 = .ok (.lcmp, 1) := by decide +kernel
theorem dX8_search_196 : decode cX8_search 196 = .ok (.ifCond .le 25, 3) := by decide +kernel
theorem dX8_search_199 : decode cX8_search 199 = .ok (.aload_n 0, 1) := by decide +kernel
theorem dX8_search_200 : decode cX8_search 200 = .ok (.getfield 90, 3) := by decide +kernel
theorem dX8_search_203 : decode cX8_search 203 = .ok (.iload 5, 2) := by decide +kernel
theorem dX8_search_205 : decode cX8_search 205 = .ok (.aload_n 0, 1) := by decide +kernel
theorem dX8_search_206 : decode cX8_search 206 = .ok (.getfield 90, 3) := by decide +kernel
theorem dX8_search_209 : decode cX8_search 209 = .ok (.iload 5, 2) := by decide +kernel
theorem dX8_search_211 : decode cX8_search 211 = .ok (.iconst 1, 1) := by decide +kernel
theorem dX8_search_212 : decode cX8_search 212 = .ok (.isub, 1) := by decide +kernel
theorem dX8_search_213 : decode cX8_search 213 = .ok (.iaload, 1) := by decide +kernel
theorem dX8_search_214 : decode cX8_search 214 = .ok (.iastore, 1) := by decide +kernel
theorem dX8_search_215 : decode cX8_search 215 = .ok (.iinc 5 (-1), 3) := by decide +kernel
theorem dX8_search_218 : decode cX8_search 218 = .ok (.goto (-72), 3) := by decide +kernel
theorem dX8_search_221 : decode cX8_search 221 = .ok (.aload_n 0, 1) := by decide +kernel
theorem dX8_search_222 : decode cX8_search 222 = .ok (.getfield 90, 3) := by decide +kernel
theorem dX8_search_225 : decode cX8_search 225 = .ok (.iload 5, 2) := by decide +kernel
theorem dX8_search_227 : decode cX8_search 227 = .ok (.iload 4, 2) := by decide +kernel
theorem dX8_search_229 : decode cX8_search 229 = .ok (.iastore, 1) := by decide +kernel
theorem dX8_search_230 : decode cX8_search 230 = .ok (.iinc 4 1, 3) := by decide +kernel
theorem dX8_search_233 : decode cX8_search 233 = .ok (.goto (-97), 3) := by decide +kernel
theorem dX8_search_236 : decode cX8_search 236 = .ok (.lconst 0, 1) := by decide +kernel
theorem dX8_search_237 : decode cX8_search 237 = .ok (.lstore 4, 2) := by decide +kernel
theorem dX8_search_239 : decode cX8_search 239 = .ok (.lconst 0, 1) := by decide +kernel
theorem dX8_search_240 : decode cX8_search 240 = .ok (.lstore 6, 2) := by decide +kernel
theorem dX8_search_242 : decode cX8_search 242 = .ok (.lconst 0, 1) := by decide +kernel
theorem dX8_search_243 : decode cX8_search 243 = .ok (.lstore 8, 2) := by decide +kernel
theorem dX8_search_245 : decode cX8_search 245 = .ok (.iconst 0, 1) := by decide +kernel
theorem dX8_search_246 : decode cX8_search 246 = .ok (.istore 10, 2) := by decide +kernel
theorem dX8_search_248 : decode cX8_search 248 = .ok (.iload 10, 2) := by decide +kernel
theorem dX8_search_250 : decode cX8_search 250 = .ok (.iload_n 2, 1) := by decide +kernel
theorem dX8_search_251 : decode cX8_search 251 = .ok (.if_icmp .ge 63, 3) := by decide +kernel
theorem dX8_search_254 : decode cX8_search 254 = .ok (.lload 4, 2) := by decide +kernel
theorem dX8_search_256 : decode cX8_search 256 = .ok (.aload_n 0, 1) := by decide +kernel
theorem dX8_search_257 : decode cX8_search 257 = .ok (.iload_n 1, 1) := by decide +kernel
theorem dX8_search_258 : decode cX8_search 258 = .ok (.aload_n 0, 1) := by decide +kernel
theorem dX8_search_259 : decode cX8_search 259 = .ok (.getfield 90, 3) := by decide +kernel
theorem dX8_search_262 : decode cX8_search 262 = .ok (.iload 10, 2) := by decide +kernel
theorem dX8_search_264 : decode cX8_search 264 = .ok (.iaload, 1) := by decide +kernel
theorem dX8_search_265 : decode cX8_search 265 = .ok (.invokevirtual 202, 3) := by decide +kernel
theorem dX8_search_268 : decode cX8_search 268 = .ok (.ladd, 1) := by decide +kernel
theorem dX8_search_269 : decode cX8_search 269 = .ok (.lstore 4, 2) := by decide +kernel
theorem dX8_search_271 : decode cX8_search 271 = .ok (.lload 6, 2) := by decide +kernel
theorem dX8_search_273 : decode cX8_search 273 = .ok (.aload_n 0, 1) := by decide +kernel
theorem dX8_search_274 : decode cX8_search 274 = .ok (.iload_n 1, 1) := by decide +kernel
theorem dX8_search_275 : decode cX8_search 275 = .ok (.aload_n 0, 1) := by decide +kernel
theorem dX8_search_276 : decode cX8_search 276 = .ok (.getfield 90, 3) := by decide +kernel
theorem dX8_search_279 : decode cX8_search 279 = .ok (.iload 10, 2) := by decide +kernel
theorem dX8_search_281 : decode cX8_search 281 = .ok (.iaload, 1) := by decide +kernel
theorem dX8_search_282 : decode cX8_search 282 = .ok (.invokevirtual 206, 3) := by decide +kernel
theorem dX8_search_285 : decode cX8_search 285 = .ok (.lload 4, 2) := by decide +kernel
theorem dX8_search_287 : decode cX8_search 287 = .ok (.lmul, 1) := by decide +kernel
theorem dX8_search_288 : decode cX8_search 288 = .ok (.ladd, 1) := by decide +kernel
theorem dX8_search_289 : decode cX8_search 289 = .ok (.lstore 6, 2) := by decide +kernel
theorem dX8_search_291 : decode cX8_search 291 = .ok (.lload 8, 2) := by decide +kernel
theorem dX8_search_293 : decode cX8_search 293 = .ok (.aload_n 0, 1) := by decide +kernel
theorem dX8_search_294 : decode cX8_search 294 = .ok (.iload_n 1, 1) := by decide +kernel
theorem dX8_search_295 : decode cX8_search 295 = .ok (.aload_n 0, 1) := by decide +kernel
theorem dX8_search_296 : decode cX8_search 296 = .ok (.getfield 90, 3) := by decide +kernel
theorem dX8_search_299 : decode cX8_search 299 = .ok (.iload 10, 2) := by decide +kernel
theorem dX8_search_301 : decode cX8_search 301 = .ok (.iaload, 1) := by decide +kernel
theorem dX8_search_302 : decode cX8_search 302 = .ok (.invokevirtual 206, 3) := by decide +kernel
theorem dX8_search_305 : decode cX8_search 305 = .ok (.ladd, 1) := by decide +kernel
theorem dX8_search_306 : decode cX8_search 306 = .ok (.lstore 8, 2) := by decide +kernel
theorem dX8_search_308 : decode cX8_search 308 = .ok (.iinc 10 1, 3) := by decide +kernel
theorem dX8_search_311 : decode cX8_search 311 = .ok (.goto (-63), 3) := by decide +kernel
theorem dX8_search_314 : decode cX8_search 314 = .ok (.lload 6, 2) := by decide +kernel
theorem dX8_search_316 : decode cX8_search 316 = .ok (.lstore 10, 2) := by decide +kernel
theorem dX8_search_318 : decode cX8_search 318 = .ok (.lload 8, 2) := by decide +kernel
theorem dX8_search_320 : decode cX8_search 320 = .ok (.lstore 12, 2) := by decide +kernel
theorem dX8_search_322 : decode cX8_search 322 = .ok (.lload 12, 2) := by decide +kernel
theorem dX8_search_324 : decode cX8_search 324 = .ok (.lconst 0, 1) := by decide +kernel
theorem dX8_search_325 : decode cX8_search 325 = .ok (.lcmp, 1) := by decide +kernel
theorem dX8_search_326 : decode cX8_search 326 = .ok (.ifCond .eq 21, 3) := by decide +kernel
theorem dX8_search_329 : decode cX8_search 329 = .ok (.lload 10, 2) := by decide +kernel
theorem dX8_search_331 : decode cX8_search 331 = .ok (.lload 12, 2) := by decide +kernel
theorem dX8_search_333 : decode cX8_search 333 = .ok (.lrem, 1) := by decide +kernel
theorem dX8_search_334 : decode cX8_search 334 = .ok (.lstore 14, 2) := by decide +kernel
theorem dX8_search_336 : decode cX8_search 336 = .ok (.lload 12, 2) := by decide +kernel
theorem dX8_search_338 : decode cX8_search 338 = .ok (.lstore 10, 2) := by decide +kernel
theorem dX8_search_340 : decode cX8_search 340 = .ok (.lload 14, 2) := by decide +kernel
theorem dX8_search_342 : decode cX8_search 342 = .ok (.lstore 12, 2) := by decide +kernel
theorem dX8_search_344 : decode cX8_search 344 = .ok (.goto (-22), 3) := by decide +kernel
theorem dX8_search_347 : decode cX8_search 347 = .ok (.aload_n 0, 1) := by decide +kernel
theorem dX8_search_348 : decode cX8_search 348 = .ok (.lload 6, 2) := by decide +kernel
theorem dX8_search_350 : decode cX8_search 350 = .ok (.lload 10, 2) := by decide +kernel
theorem dX8_search_352 : decode cX8_search 352 = .ok (.ldiv, 1) := by decide +kernel
theorem dX8_search_353 : decode cX8_search 353 = .ok (.putfield 209, 3) := by decide +kernel
theorem dX8_search_356 : decode cX8_search 356 = .ok (.aload_n 0, 1) := by decide +kernel
theorem dX8_search_357 : decode cX8_search 357 = .ok (.lload 8, 2) := by decide +kernel
theorem dX8_search_359 : decode cX8_search 359 = .ok (.lload 10, 2) := by decide +kernel
theorem dX8_search_361 : decode cX8_search 361 = .ok (.ldiv, 1) := by decide +kernel
theorem dX8_search_362 : decode cX8_search 362 = .ok (.putfield 7, 3) := by decide +kernel
theorem dX8_search_365 : decode cX8_search 365 = .ok (.aload_n 0, 1) := by decide +kernel
theorem dX8_search_366 : decode cX8_search 366 = .ok (.getfield 90, 3) := by decide +kernel
theorem dX8_search_369 : decode cX8_search 369 = .ok (.iload_n 3, 1) := by decide +kernel
theorem dX8_search_370 : decode cX8_search 370 = .ok (.iaload, 1) := by decide +kernel
theorem dX8_search_371 : decode cX8_search 371 = .ok (.ireturn, 1) := by decide +kernel
theorem dX8_upper_0 : decode cX8_upper 0 = .ok (.aload_n 0, 1) := by decide +kernel
theorem dX8_upper_1 : decode cX8_upper 1 = .ok (.iconst 0, 1) := by decide +kernel
theorem dX8_upper_2 : decode cX8_upper 2 = .ok (.putfield 93, 3) := by decide +kernel
theorem dX8_upper_5 : decode cX8_upper 5 = .ok (.aload_n 0, 1) := by decide +kernel
theorem dX8_upper_6 : decode cX8_upper 6 = .ok (.getfield 209, 3) := by decide +kernel
theorem dX8_upper_9 : decode cX8_upper 9 = .ok (.lreturn, 1) := by decide +kernel
theorem dX8_lower_0 : decode cX8_lower 0 = .ok (.aload_n 0, 1) := by decide +kernel
theorem dX8_lower_1 : decode cX8_lower 1 = .ok (.iconst 0, 1) := by decide +kernel
theorem dX8_lower_2 : decode cX8_lower 2 = .ok (.putfield 93, 3) := by decide +kernel
theorem dX8_lower_5 : decode cX8_lower 5 = .ok (.aload_n 0, 1) := by decide +kernel
theorem dX8_lower_6 : decode cX8_lower 6 = .ok (.getfield 7, 3) := by decide +kernel
theorem dX8_lower_9 : decode cX8_lower 9 = .ok (.lreturn, 1) := by decide +kernel
end
section
theorem dL_law_0 : decode cL_law 0 = .ok (.new 7, 3) := by decide +kernel
theorem dL_law_3 : decode cL_law 3 = .ok (.dup, 1) := by decide +kernel
theorem dL_law_4 : decode cL_law 4 = .ok (.invokespecial 9, 3) := by decide +kernel
theorem dL_law_7 : decode cL_law 7 = .ok (.astore_n 1, 1) := by decide +kernel
theorem dL_law_8 : decode cL_law 8 = .ok (.new 10, 3) := by decide +kernel
theorem dL_law_11 : decode cL_law 11 = .ok (.dup, 1) := by decide +kernel
theorem dL_law_12 : decode cL_law 12 = .ok (.invokespecial 12, 3) := by decide +kernel
theorem dL_law_15 : decode cL_law 15 = .ok (.astore_n 2, 1) := by decide +kernel
theorem dL_law_16 : decode cL_law 16 = .ok (.iconst 0, 1) := by decide +kernel
theorem dL_law_17 : decode cL_law 17 = .ok (.istore_n 3, 1) := by decide +kernel
theorem dL_law_18 : decode cL_law 18 = .ok (.iload_n 3, 1) := by decide +kernel
theorem dL_law_19 : decode cL_law 19 = .ok (.aload_n 0, 1) := by decide +kernel
theorem dL_law_20 : decode cL_law 20 = .ok (.arraylength, 1) := by decide +kernel
theorem dL_law_21 : decode cL_law 21 = .ok (.bipush 6, 2) := by decide +kernel
theorem dL_law_23 : decode cL_law 23 = .ok (.isub, 1) := by decide +kernel
theorem dL_law_24 : decode cL_law 24 = .ok (.if_icmp .gt 1313, 3) := by decide +kernel
theorem dL_law_27 : decode cL_law 27 = .ok (.aload_n 0, 1) := by decide +kernel
theorem dL_law_28 : decode cL_law 28 = .ok (.iload_n 3, 1) := by decide +kernel
theorem dL_law_29 : decode cL_law 29 = .ok (.iaload, 1) := by decide +kernel
theorem dL_law_30 : decode cL_law 30 = .ok (.bipush 31, 2) := by decide +kernel
theorem dL_law_32 : decode cL_law 32 = .ok (.iand, 1) := by decide +kernel
theorem dL_law_33 : decode cL_law 33 = .ok (.tableswitch 1298 0 31 #[143, 156, 199, 272, 306, 369, 402, 435, 478, 511, 554, 577, 626, 649, 682, 715, 758, 801, 854, 917, 950, 993, 1036, 1069, 1102, 1135, 1168, 1181, 1214, 1227, 1270, 1284], 143) := by decide +kernel
theorem dL_law_176 : decode cL_law 176 = .ok (.aload_n 1, 1) := by decide +kernel
theorem dL_law_177 : decode cL_law 177 = .ok (.invokevirtual 13, 3) := by decide +kernel
theorem dL_law_180 : decode cL_law 180 = .ok (.aload_n 2, 1) := by decide +kernel
theorem dL_law_181 : decode cL_law 181 = .ok (.invokevirtual 17, 3) := by decide +kernel
theorem dL_law_184 : decode cL_law 184 = .ok (.if_icmp .eq 1147, 3) := by decide +kernel
theorem dL_law_187 : decode cL_law 187 = .ok (.iconst 0, 1) := by decide +kernel
theorem dL_law_188 : decode cL_law 188 = .ok (.ireturn, 1) := by decide +kernel
theorem dL_law_189 : decode cL_law 189 = .ok (.aload_n 1, 1) := by decide +kernel
theorem dL_law_190 : decode cL_law 190 = .ok (.aload_n 0, 1) := by decide +kernel
theorem dL_law_191 : decode cL_law 191 = .ok (.iload_n 3, 1) := by decide +kernel
theorem dL_law_192 : decode cL_law 192 = .ok (.iconst 1, 1) := by decide +kernel
theorem dL_law_193 : decode cL_law 193 = .ok (.iadd, 1) := by decide +kernel
theorem dL_law_194 : decode cL_law 194 = .ok (.iaload, 1) := by decide +kernel
theorem dL_law_195 : decode cL_law 195 = .ok (.aload_n 0, 1) := by decide +kernel
theorem dL_law_196 : decode cL_law 196 = .ok (.iload_n 3, 1) := by decide +kernel
theorem dL_law_197 : decode cL_law 197 = .ok (.iconst 2, 1) := by decide +kernel
theorem dL_law_198 : decode cL_law 198 = .ok (.iadd, 1) := by decide +kernel
theorem dL_law_199 : decode cL_law 199 = .ok (.iaload, 1) := by decide +kernel
theorem dL_law_200 : decode cL_law 200 = .ok (.aload_n 0, 1) := by decide +kernel
theorem dL_law_201 : decode cL_law 201 = .ok (.iload_n 3, 1) := by decide +kernel
theorem dL_law_202 : decode cL_law 202 = .ok (.iconst 3, 1) := by decide +kernel
theorem dL_law_203 : decode cL_law 203 = .ok (.iadd, 1) := by decide +kernel
theorem dL_law_204 : decode cL_law 204 = .ok (.iaload, 1) := by decide +kernel
theorem dL_law_205 : decode cL_law 205 = .ok (.invokevirtual 18, 3) := by decide +kernel
theorem dL_law_208 : decode cL_law 208 = .ok (.aload_n 2, 1) := by decide +kernel
theorem dL_law_209 : decode cL_law 209 = .ok (.aload_n 0, 1) := by decide +kernel
theorem dL_law_210 : decode cL_law 210 = .ok (.iload_n 3, 1) := by decide +kernel
theorem dL_law_211 : decode cL_law 211 = .ok (.iconst 1, 1) := by decide +kernel
theorem dL_law_212 : decode cL_law 212 = .ok (.iadd, 1) := by decide +kernel
theorem dL_law_213 : decode cL_law 213 = .ok (.iaload, 1) := by decide +kernel
theorem dL_law_214 : decode cL_law 214 = .ok (.aload_n 0, 1) := by decide +kernel
theorem dL_law_215 : decode cL_law 215 = .ok (.iload_n 3, 1) := by decide +kernel
theorem dL_law_216 : decode cL_law 216 = .ok (.iconst 2, 1) := by decide +kernel
theorem dL_law_217 : decode cL_law 217 = .ok (.iadd, 1) := by decide +kernel
theorem dL_law_218 : decode cL_law 218 = .ok (.iaload, 1) := by decide +kernel
theorem dL_law_219 : decode cL_law 219 = .ok (.aload_n 0, 1) := by decide +kernel
theorem dL_law_220 : decode cL_law 220 = .ok (.iload_n 3, 1) := by decide +kernel
theorem dL_law_221 : decode cL_law 221 = .ok (.iconst 3, 1) := by decide +kernel
theorem dL_law_222 : decode cL_law 222 = .ok (.iadd, 1) := by decide +kernel
theorem dL_law_223 : decode cL_law 223 = .ok (.iaload, 1) := by decide +kernel
theorem dL_law_224 : decode cL_law 224 = .ok (.invokevirtual 22, 3) := by decide +kernel
theorem dL_law_227 : decode cL_law 227 = .ok (.if_icmp .eq 1104, 3) := by decide +kernel
theorem dL_law_230 : decode cL_law 230 = .ok (.iconst 0, 1) := by decide +kernel
theorem dL_law_231 : decode cL_law 231 = .ok (.ireturn, 1) := by decide +kernel
theorem dL_law_232 : decode cL_law 232 = .ok (.aload_n 1, 1) := by decide +kernel
theorem dL_law_233 : decode cL_law 233 = .ok (.aload_n 0, 1) := by decide +kernel
theorem dL_law_234 : decode cL_law 234 = .ok (.iload_n 3, 1) := by decide +kernel
theorem dL_law_235 : decode cL_law 235 = .ok (.iconst 1, 1) := by decide +kernel
theorem dL_law_236 : decode cL_law 236 = .ok (.iadd, 1) := by decide +kernel
theorem dL_law_237 : decode cL_law 237 = .ok (.iaload, 1) := by decide +kernel
theorem dL_law_238 : decode cL_law 238 = .ok (.aload_n 0, 1) := by decide +kernel
theorem dL_law_239 : decode cL_law 239 = .ok (.iload_n 3, 1) := by decide +kernel
theorem dL_law_240 : decode cL_law 240 = .ok (.iconst 2, 1) := by decide +kernel
theorem dL_law_241 : decode cL_law 241 = .ok (.iadd, 1) := by decide +kernel
theorem dL_law_242 : decode cL_law 242 = .ok (.iaload, 1) := by decide +kernel
theorem dL_law_243 : decode cL_law 243 = .ok (.aload_n 0, 1) := by decide +kernel
theorem dL_law_244 : decode cL_law 244 = .ok (.iload_n 3, 1) := by decide +kernel
theorem dL_law_245 : decode cL_law 245 = .ok (.iconst 3, 1) := by decide +kernel
theorem dL_law_246 : decode cL_law 246 = .ok (.iadd, 1) := by decide +kernel
theorem dL_law_247 : decode cL_law 247 = .ok (.iaload, 1) := by decide +kernel
theorem dL_law_248 : decode cL_law 248 = .ok (.i2l, 1) := by decide +kernel
theorem dL_law_249 : decode cL_law 249 = .ok (.bipush 32, 2) := by decide +kernel
theorem dL_law_251 : decode cL_law 251 = .ok (.lshl, 1) := by decide +kernel
theorem dL_law_252 : decode cL_law 252 = .ok (.aload_n 0, 1) := by decide +kernel
theorem dL_law_253 : decode cL_law 253 = .ok (.iload_n 3, 1) := by decide +kernel
theorem dL_law_254 : decode cL_law 254 = .ok (.iconst 4, 1) := by decide +kernel
theorem dL_law_255 : decode cL_law 255 = .ok (.iadd, 1) := by decide +kernel
theorem dL_law_256 : decode cL_law 256 = .ok (.iaload, 1) := by decide +kernel
theorem dL_law_257 : decode cL_law 257 = .ok (.i2l, 1) := by decide +kernel
theorem dL_law_258 : decode cL_law 258 = .ok (.ldc2_w 23, 3) := by decide +kernel
theorem dL_law_261 : decode cL_law 261 = .ok (.land, 1) := by decide +kernel
theorem dL_law_262 : decode cL_law 262 = .ok (.lor, 1) := by decide +kernel
theorem dL_law_263 : decode cL_law 263 = .ok (.invokevirtual 25, 3) := by decide +kernel
theorem dL_law_266 : decode cL_law 266 = .ok (.aload_n 2, 1) := by decide +kernel
theorem dL_law_267 : decode cL_law 267 = .ok (.aload_n 0, 1) := by decide +kernel
theorem dL_law_268 : decode cL_law 268 = .ok (.iload_n 3, 1) := by decide +kernel
theorem dL_law_269 : decode cL_law 269 = .ok (.iconst 1, 1) := by decide +kernel
theorem dL_law_270 : decode cL_law 270 = .ok (.iadd, 1) := by decide +kernel
theorem dL_law_271 : decode cL_law 271 = .ok (.iaload, 1) := by decide +kernel
theorem dL_law_272 : decode cL_law 272 = .ok (.aload_n 0, 1) := by decide +kernel
theorem dL_law_273 : decode cL_law 273 = .ok (.iload_n 3, 1) := by decide +kernel
theorem dL_law_274 : decode cL_law 274 = .ok (.iconst 2, 1) := by decide +kernel
theorem dL_law_275 : decode cL_law 275 = .ok (.iadd, 1) := by decide +kernel
theorem dL_law_276 : decode cL_law 276 = .ok (.iaload, 1) := by decide +kernel
theorem dL_law_277 : decode cL_law 277 = .ok (.aload_n 0, 1) := by decide +kernel
theorem dL_law_278 : decode cL_law 278 = .ok (.iload_n 3, 1) := by decide +kernel
theorem dL_law_279 : decode cL_law 279 = .ok (.iconst 3, 1) := by decide +kernel
theorem dL_law_280 : decode cL_law 280 = .ok (.iadd, 1) := by decide +kernel
theorem dL_law_281 : decode cL_law 281 = .ok (.iaload, 1) := by decide +kernel
theorem dL_law_282 : decode cL_law 282 = .ok (.i2l, 1) := by decide +kernel
theorem dL_law_283 : decode cL_law 283 = .ok (.bipush 32, 2) := by decide +kernel
theorem dL_law_285 : decode cL_law 285 = .ok (.lshl, 1) := by decide +kernel
theorem dL_law_286 : decode cL_law 286 = .ok (.aload_n 0, 1) := by decide +kernel
theorem dL_law_287 : decode cL_law 287 = .ok (.iload_n 3, 1) := by decide +kernel
theorem dL_law_288 : decode cL_law 288 = .ok (.iconst 4, 1) := by decide +kernel
theorem dL_law_289 : decode cL_law 289 = .ok (.iadd, 1) := by decide +kernel
theorem dL_law_290 : decode cL_law 290 = .ok (.iaload, 1) := by decide +kernel
theorem dL_law_291 : decode cL_law 291 = .ok (.i2l, 1) := by decide +kernel
theorem dL_law_292 : decode cL_law 292 = .ok (.ldc2_w 23, 3) := by decide +kernel
theorem dL_law_295 : decode cL_law 295 = .ok (.land, 1) := by decide +kernel
theorem dL_law_296 : decode cL_law 296 = .ok (.lor, 1) := by decide +kernel
theorem dL_law_297 : decode cL_law 297 = .ok (.invokevirtual 29, 3) := by decide +kernel
theorem dL_law_300 : decode cL_law 300 = .ok (.if_icmp .eq 1031, 3) := by decide +kernel
theorem dL_law_303 : decode cL_law 303 = .ok (.iconst 0, 1) := by decide +kernel
theorem dL_law_304 : decode cL_law 304 = .ok (.ireturn, 1) := by decide +kernel
theorem dL_law_305 : decode cL_law 305 = .ok (.aload_n 1, 1) := by decide +kernel
theorem dL_law_306 : decode cL_law 306 = .ok (.aload_n 0, 1) := by decide +kernel
theorem dL_law_307 : decode cL_law 307 = .ok (.iload_n 3, 1) := by decide +kernel
theorem dL_law_308 : decode cL_law 308 = .ok (.iconst 1, 1) := by decide +kernel
theorem dL_law_309 : decode cL_law 309 = .ok (.iadd, 1) := by decide +kernel
theorem dL_law_310 : decode cL_law 310 = .ok (.iaload, 1) := by decide +kernel
theorem dL_law_311 : decode cL_law 311 = .ok (.aload_n 0, 1) := by decide +kernel
theorem dL_law_312 : decode cL_law 312 = .ok (.iload_n 3, 1) := by decide +kernel
theorem dL_law_313 : decode cL_law 313 = .ok (.iconst 2, 1) := by decide +kernel
theorem dL_law_314 : decode cL_law 314 = .ok (.iadd, 1) := by decide +kernel
theorem dL_law_315 : decode cL_law 315 = .ok (.iaload, 1) := by decide +kernel
theorem dL_law_316 : decode cL_law 316 = .ok (.invokevirtual 30, 3) := by decide +kernel
theorem dL_law_319 : decode cL_law 319 = .ok (.aload_n 2, 1) := by decide +kernel
theorem dL_law_320 : decode cL_law 320 = .ok (.aload_n 0, 1) := by decide +kernel
theorem dL_law_321 : decode cL_law 321 = .ok (.iload_n 3, 1) := by decide +kernel
theorem dL_law_322 : decode cL_law 322 = .ok (.iconst 1, 1) := by decide +kernel
theorem dL_law_323 : decode cL_law 323 = .ok (.iadd, 1) := by decide +kernel
theorem dL_law_324 : decode cL_law 324 = .ok (.iaload, 1) := by decide +kernel
theorem dL_law_325 : decode cL_law 325 = .ok (.aload_n 0, 1) := by decide +kernel
theorem dL_law_326 : decode cL_law 326 = .ok (.iload_n 3, 1) := by decide +kernel
theorem dL_law_327 : decode cL_law 327 = .ok (.iconst 2, 1) := by decide +kernel
theorem dL_law_328 : decode cL_law 328 = .ok (.iadd, 1) := by decide +kernel
theorem dL_law_329 : decode cL_law 329 = .ok (.iaload, 1) := by decide +kernel
theorem dL_law_330 : decode cL_law 330 = .ok (.invokevirtual 34, 3) := by decide +kernel
theorem dL_law_333 : decode cL_law 333 = .ok (.lcmp, 1) := by decide +kernel
theorem dL_law_334 : decode cL_law 334 = .ok (.ifCond .eq 997, 3) := by decide +kernel
theorem dL_law_337 : decode cL_law 337 = .ok (.iconst 0, 1) := by decide +kernel
theorem dL_law_338 : decode cL_law 338 = .ok (.ireturn, 1) := by decide +kernel
theorem dL_law_339 : decode cL_law 339 = .ok (.aload_n 1, 1) := by decide +kernel
theorem dL_law_340 : decode cL_law 340 = .ok (.aload_n 0, 1) := by decide +kernel
theorem dL_law_341 : decode cL_law 341 = .ok (.iload_n 3, 1) := by decide +kernel
theorem dL_law_342 : decode cL_law 342 = .ok (.iconst 1, 1) := by decide +kernel
theorem dL_law_343 : decode cL_law 343 = .ok (.iadd, 1) := by decide +kernel
theorem dL_law_344 : decode cL_law 344 = .ok (.iaload, 1) := by decide +kernel
theorem dL_law_345 : decode cL_law 345 = .ok (.aload_n 0, 1) := by decide +kernel
theorem dL_law_346 : decode cL_law 346 = .ok (.iload_n 3, 1) := by decide +kernel
theorem dL_law_347 : decode cL_law 347 = .ok (.iconst 2, 1) := by decide +kernel
theorem dL_law_348 : decode cL_law 348 = .ok (.iadd, 1) := by decide +kernel
theorem dL_law_349 : decode cL_law 349 = .ok (.iaload, 1) := by decide +kernel
theorem dL_law_350 : decode cL_law 350 = .ok (.aload_n 0, 1) := by decide +kernel
theorem dL_law_351 : decode cL_law 351 = .ok (.iload_n 3, 1) := by decide +kernel
theorem dL_law_352 : decode cL_law 352 = .ok (.iconst 3, 1) := by decide +kernel
theorem dL_law_353 : decode cL_law 353 = .ok (.iadd, 1) := by decide +kernel
theorem dL_law_354 : decode cL_law 354 = .ok (.iaload, 1) := by decide +kernel
theorem dL_law_355 : decode cL_law 355 = .ok (.aload_n 0, 1) := by decide +kernel
theorem dL_law_356 : decode cL_law 356 = .ok (.iload_n 3, 1) := by decide +kernel
theorem dL_law_357 : decode cL_law 357 = .ok (.iconst 4, 1) := by decide +kernel
theorem dL_law_358 : decode cL_law 358 = .ok (.iadd, 1) := by decide +kernel
theorem dL_law_359 : decode cL_law 359 = .ok (.iaload, 1) := by decide +kernel
theorem dL_law_360 : decode cL_law 360 = .ok (.aload_n 0, 1) := by decide +kernel
theorem dL_law_361 : decode cL_law 361 = .ok (.iload_n 3, 1) := by decide +kernel
theorem dL_law_362 : decode cL_law 362 = .ok (.iconst 5, 1) := by decide +kernel
theorem dL_law_363 : decode cL_law 363 = .ok (.iadd, 1) := by decide +kernel
theorem dL_law_364 : decode cL_law 364 = .ok (.iaload, 1) := by decide +kernel
theorem dL_law_365 : decode cL_law 365 = .ok (.invokevirtual 35, 3) := by decide +kernel
theorem dL_law_368 : decode cL_law 368 = .ok (.aload_n 2, 1) := by decide +kernel
theorem dL_law_369 : decode cL_law 369 = .ok (.aload_n 0, 1) := by decide +kernel
theorem dL_law_370 : decode cL_law 370 = .ok (.iload_n 3, 1) := by decide +kernel
theorem dL_law_371 : decode cL_law 371 = .ok (.iconst 1, 1) := by decide +kernel
theorem dL_law_372 : decode cL_law 372 = .ok (.iadd, 1) := by decide +kernel
theorem dL_law_373 : decode cL_law 373 = .ok (.iaload, 1) := by decide +kernel
theorem dL_law_374 : decode cL_law 374 = .ok (.aload_n 0, 1) := by decide +kernel
theorem dL_law_375 : decode cL_law 375 = .ok (.iload_n 3, 1) := by decide +kernel
theorem dL_law_376 : decode cL_law 376 = .ok (.iconst 2, 1) := by decide +kernel
theorem dL_law_377 : decode cL_law 377 = .ok (.iadd, 1) := by decide +kernel
theorem dL_law_378 : decode cL_law 378 = .ok (.iaload, 1) := by decide +kernel
theorem dL_law_379 : decode cL_law 379 = .ok (.aload_n 0, 1) := by decide +kernel
theorem dL_law_380 : decode cL_law 380 = .ok (.iload_n 3, 1) := by decide +kernel
theorem dL_law_381 : decode cL_law 381 = .ok (.iconst 3, 1) := by decide +kernel
theorem dL_law_382 : decode cL_law 382 = .ok (.iadd, 1) := by decide +kernel
theorem dL_law_383 : decode cL_law 383 = .ok (.iaload, 1) := by decide +kernel
theorem dL_law_384 : decode cL_law 384 = .ok (.aload_n 0, 1) := by decide +kernel
theorem dL_law_385 : decode cL_law 385 = .ok (.iload_n 3, 1) := by decide +kernel
theorem dL_law_386 : decode cL_law 386 = .ok (.iconst 4, 1) := by decide +kernel
theorem dL_law_387 : decode cL_law 387 = .ok (.iadd, 1) := by decide +kernel
theorem dL_law_388 : decode cL_law 388 = .ok (.iaload, 1) := by decide +kernel
theorem dL_law_389 : decode cL_law 389 = .ok (.aload_n 0, 1) := by decide +kernel
theorem dL_law_390 : decode cL_law 390 = .ok (.iload_n 3, 1) := by decide +kernel
theorem dL_law_391 : decode cL_law 391 = .ok (.iconst 5, 1) := by decide +kernel
theorem dL_law_392 : decode cL_law 392 = .ok (.iadd, 1) := by decide +kernel
theorem dL_law_393 : decode cL_law 393 = .ok (.iaload, 1) := by decide +kernel
theorem dL_law_394 : decode cL_law 394 = .ok (.invokevirtual 39, 3) := by decide +kernel
theorem dL_law_397 : decode cL_law 397 = .ok (.if_icmp .eq 934, 3) := by decide +kernel
theorem dL_law_400 : decode cL_law 400 = .ok (.iconst 0, 1) := by decide +kernel
theorem dL_law_401 : decode cL_law 401 = .ok (.ireturn, 1) := by decide +kernel
theorem dL_law_402 : decode cL_law 402 = .ok (.aload_n 1, 1) := by decide +kernel
theorem dL_law_403 : decode cL_law 403 = .ok (.aload_n 0, 1) := by decide +kernel
theorem dL_law_404 : decode cL_law 404 = .ok (.iload_n 3, 1) := by decide +kernel
theorem dL_law_405 : decode cL_law 405 = .ok (.iconst 1, 1) := by decide +kernel
theorem dL_law_406 : decode cL_law 406 = .ok (.iadd, 1) := by decide +kernel
theorem dL_law_407 : decode cL_law 407 = .ok (.iaload, 1) := by decide +kernel
theorem dL_law_408 : decode cL_law 408 = .ok (.aload_n 0, 1) := by decide +kernel
theorem dL_law_409 : decode cL_law 409 = .ok (.iload_n 3, 1) := by decide +kernel
theorem dL_law_410 : decode cL_law 410 = .ok (.iconst 2, 1) := by decide +kernel
theorem dL_law_411 : decode cL_law 411 = .ok (.iadd, 1) := by decide +kernel
theorem dL_law_412 : decode cL_law 412 = .ok (.iaload, 1) := by decide +kernel
theorem dL_law_413 : decode cL_law 413 = .ok (.invokevirtual 40, 3) := by decide +kernel
theorem dL_law_416 : decode cL_law 416 = .ok (.aload_n 2, 1) := by decide +kernel
theorem dL_law_417 : decode cL_law 417 = .ok (.aload_n 0, 1) := by decide +kernel
theorem dL_law_418 : decode cL_law 418 = .ok (.iload_n 3, 1) := by decide +kernel
theorem dL_law_419 : decode cL_law 419 = .ok (.iconst 1, 1) := by decide +kernel
theorem dL_law_420 : decode cL_law 420 = .ok (.iadd, 1) := by decide +kernel
theorem dL_law_421 : decode cL_law 421 = .ok (.iaload, 1) := by decide +kernel
theorem dL_law_422 : decode cL_law 422 = .ok (.aload_n 0, 1) := by decide +kernel
theorem dL_law_423 : decode cL_law 423 = .ok (.iload_n 3, 1) := by decide +kernel
theorem dL_law_424 : decode cL_law 424 = .ok (.iconst 2, 1) := by decide +kernel
theorem dL_law_425 : decode cL_law 425 = .ok (.iadd, 1) := by decide +kernel
theorem dL_law_426 : decode cL_law 426 = .ok (.iaload, 1) := by decide +kernel
theorem dL_law_427 : decode cL_law 427 = .ok (.invokevirtual 44, 3) := by decide +kernel
theorem dL_law_430 : decode cL_law 430 = .ok (.if_icmp .eq 901, 3) := by decide +kernel
theorem dL_law_433 : decode cL_law 433 = .ok (.iconst 0, 1) := by decide +kernel
theorem dL_law_434 : decode cL_law 434 = .ok (.ireturn, 1) := by decide +kernel
theorem dL_law_435 : decode cL_law 435 = .ok (.aload_n 1, 1) := by decide +kernel
theorem dL_law_436 : decode cL_law 436 = .ok (.aload_n 0, 1) := by decide +kernel
theorem dL_law_437 : decode cL_law 437 = .ok (.iload_n 3, 1) := by decide +kernel
theorem dL_law_438 : decode cL_law 438 = .ok (.iconst 1, 1) := by decide +kernel
theorem dL_law_439 : decode cL_law 439 = .ok (.iadd, 1) := by decide +kernel
theorem dL_law_440 : decode cL_law 440 = .ok (.iaload, 1) := by decide +kernel
theorem dL_law_441 : decode cL_law 441 = .ok (.aload_n 0, 1) := by decide +kernel
theorem dL_law_442 : decode cL_law 442 = .ok (.iload_n 3, 1) := by decide +kernel
theorem dL_law_443 : decode cL_law 443 = .ok (.iconst 2, 1) := by decide +kernel
theorem dL_law_444 : decode cL_law 444 = .ok (.iadd, 1) := by decide +kernel
theorem dL_law_445 : decode cL_law 445 = .ok (.iaload, 1) := by decide +kernel
theorem dL_law_446 : decode cL_law 446 = .ok (.invokevirtual 45, 3) := by decide +kernel
theorem dL_law_449 : decode cL_law 449 = .ok (.aload_n 2, 1) := by decide +kernel
theorem dL_law_450 : decode cL_law 450 = .ok (.aload_n 0, 1) := by decide +kernel
theorem dL_law_451 : decode cL_law 451 = .ok (.iload_n 3, 1) := by decide +kernel
theorem dL_law_452 : decode cL_law 452 = .ok (.iconst 1, 1) := by decide +kernel
theorem dL_law_453 : decode cL_law 453 = .ok (.iadd, 1) := by decide +kernel
theorem dL_law_454 : decode cL_law 454 = .ok (.iaload, 1) := by decide +kernel
theorem dL_law_455 : decode cL_law 455 = .ok (.aload_n 0, 1) := by decide +kernel
theorem dL_law_456 : decode cL_law 456 = .ok (.iload_n 3, 1) := by decide +kernel
theorem dL_law_457 : decode cL_law 457 = .ok (.iconst 2, 1) := by decide +kernel
theorem dL_law_458 : decode cL_law 458 = .ok (.iadd, 1) := by decide +kernel
theorem dL_law_459 : decode cL_law 459 = .ok (.iaload, 1) := by decide +kernel
theorem dL_law_460 : decode cL_law 460 = .ok (.invokevirtual 48, 3) := by decide +kernel
theorem dL_law_463 : decode cL_law 463 = .ok (.if_icmp .eq 868, 3) := by decide +kernel
theorem dL_law_466 : decode cL_law 466 = .ok (.iconst 0, 1) := by decide +kernel
theorem dL_law_467 : decode cL_law 467 = .ok (.ireturn, 1) := by decide +kernel
theorem dL_law_468 : decode cL_law 468 = .ok (.aload_n 1, 1) := by decide +kernel
theorem dL_law_469 : decode cL_law 469 = .ok (.aload_n 0, 1) := by decide +kernel
theorem dL_law_470 : decode cL_law 470 = .ok (.iload_n 3, 1) := by decide +kernel
theorem dL_law_471 : decode cL_law 471 = .ok (.iconst 1, 1) := by decide +kernel
theorem dL_law_472 : decode cL_law 472 = .ok (.iadd, 1) := by decide +kernel
theorem dL_law_473 : decode cL_law 473 = .ok (.iaload, 1) := by decide +kernel
theorem dL_law_474 : decode cL_law 474 = .ok (.aload_n 0, 1) := by decide +kernel
theorem dL_law_475 : decode cL_law 475 = .ok (.iload_n 3, 1) := by decide +kernel
theorem dL_law_476 : decode cL_law 476 = .ok (.iconst 2, 1) := by decide +kernel
theorem dL_law_477 : decode cL_law 477 = .ok (.iadd, 1) := by decide +kernel
theorem dL_law_478 : decode cL_law 478 = .ok (.iaload, 1) := by decide +kernel
theorem dL_law_479 : decode cL_law 479 = .ok (.aload_n 0, 1) := by decide +kernel
theorem dL_law_480 : decode cL_law 480 = .ok (.iload_n 3, 1) := by decide +kernel
theorem dL_law_481 : decode cL_law 481 = .ok (.iconst 3, 1) := by decide +kernel
theorem dL_law_482 : decode cL_law 482 = .ok (.iadd, 1) := by decide +kernel
theorem dL_law_483 : decode cL_law 483 = .ok (.iaload, 1) := by decide +kernel
theorem dL_law_484 : decode cL_law 484 = .ok (.invokevirtual 49, 3) := by decide +kernel
theorem dL_law_487 : decode cL_law 487 = .ok (.aload_n 2, 1) := by decide +kernel
theorem dL_law_488 : decode cL_law 488 = .ok (.aload_n 0, 1) := by decide +kernel
theorem dL_law_489 : decode cL_law 489 = .ok (.iload_n 3, 1) := by decide +kernel
theorem dL_law_490 : decode cL_law 490 = .ok (.iconst 1, 1) := by decide +kernel
theorem dL_law_491 : decode cL_law 491 = .ok (.iadd, 1) := by decide +kernel
theorem dL_law_492 : decode cL_law 492 = .ok (.iaload, 1) := by decide +kernel
theorem dL_law_493 : decode cL_law 493 = .ok (.aload_n 0, 1) := by decide +kernel
theorem dL_law_494 : decode cL_law 494 = .ok (.iload_n 3, 1) := by decide +kernel
theorem dL_law_495 : decode cL_law 495 = .ok (.iconst 2, 1) := by decide +kernel
theorem dL_law_496 : decode cL_law 496 = .ok (.iadd, 1) := by decide +kernel
theorem dL_law_497 : decode cL_law 497 = .ok (.iaload, 1) := by decide +kernel
theorem dL_law_498 : decode cL_law 498 = .ok (.aload_n 0, 1) := by decide +kernel
theorem dL_law_499 : decode cL_law 499 = .ok (.iload_n 3, 1) := by decide +kernel
theorem dL_law_500 : decode cL_law 500 = .ok (.iconst 3, 1) := by decide +kernel
theorem dL_law_501 : decode cL_law 501 = .ok (.iadd, 1) := by decide +kernel
theorem dL_law_502 : decode cL_law 502 = .ok (.iaload, 1) := by decide +kernel
theorem dL_law_503 : decode cL_law 503 = .ok (.invokevirtual 52, 3) := by decide +kernel
theorem dL_law_506 : decode cL_law 506 = .ok (.if_icmp .eq 825, 3) := by decide +kernel
theorem dL_law_509 : decode cL_law 509 = .ok (.iconst 0, 1) := by decide +kernel
theorem dL_law_510 : decode cL_law 510 = .ok (.ireturn, 1) := by decide +kernel
theorem dL_law_511 : decode cL_law 511 = .ok (.aload_n 1, 1) := by decide +kernel
theorem dL_law_512 : decode cL_law 512 = .ok (.aload_n 0, 1) := by decide +kernel
theorem dL_law_513 : decode cL_law 513 = .ok (.iload_n 3, 1) := by decide +kernel
theorem dL_law_514 : decode cL_law 514 = .ok (.iconst 1, 1) := by decide +kernel
theorem dL_law_515 : decode cL_law 515 = .ok (.iadd, 1) := by decide +kernel
theorem dL_law_516 : decode cL_law 516 = .ok (.iaload, 1) := by decide +kernel
theorem dL_law_517 : decode cL_law 517 = .ok (.aload_n 0, 1) := by decide +kernel
theorem dL_law_518 : decode cL_law 518 = .ok (.iload_n 3, 1) := by decide +kernel
theorem dL_law_519 : decode cL_law 519 = .ok (.iconst 2, 1) := by decide +kernel
theorem dL_law_520 : decode cL_law 520 = .ok (.iadd, 1) := by decide +kernel
theorem dL_law_521 : decode cL_law 521 = .ok (.iaload, 1) := by decide +kernel
theorem dL_law_522 : decode cL_law 522 = .ok (.invokevirtual 53, 3) := by decide +kernel
theorem dL_law_525 : decode cL_law 525 = .ok (.aload_n 2, 1) := by decide +kernel
theorem dL_law_526 : decode cL_law 526 = .ok (.aload_n 0, 1) := by decide +kernel
theorem dL_law_527 : decode cL_law 527 = .ok (.iload_n 3, 1) := by decide +kernel
theorem dL_law_528 : decode cL_law 528 = .ok (.iconst 1, 1) := by decide +kernel
theorem dL_law_529 : decode cL_law 529 = .ok (.iadd, 1) := by decide +kernel
theorem dL_law_530 : decode cL_law 530 = .ok (.iaload, 1) := by decide +kernel
theorem dL_law_531 : decode cL_law 531 = .ok (.aload_n 0, 1) := by decide +kernel
theorem dL_law_532 : decode cL_law 532 = .ok (.iload_n 3, 1) := by decide +kernel
theorem dL_law_533 : decode cL_law 533 = .ok (.iconst 2, 1) := by decide +kernel
theorem dL_law_534 : decode cL_law 534 = .ok (.iadd, 1) := by decide +kernel
theorem dL_law_535 : decode cL_law 535 = .ok (.iaload, 1) := by decide +kernel
theorem dL_law_536 : decode cL_law 536 = .ok (.invokevirtual 56, 3) := by decide +kernel
theorem dL_law_539 : decode cL_law 539 = .ok (.if_icmp .eq 792, 3) := by decide +kernel
theorem dL_law_542 : decode cL_law 542 = .ok (.iconst 0, 1) := by decide +kernel
theorem dL_law_543 : decode cL_law 543 = .ok (.ireturn, 1) := by decide +kernel
theorem dL_law_544 : decode cL_law 544 = .ok (.aload_n 1, 1) := by decide +kernel
theorem dL_law_545 : decode cL_law 545 = .ok (.aload_n 0, 1) := by decide +kernel
theorem dL_law_546 : decode cL_law 546 = .ok (.iload_n 3, 1) := by decide +kernel
theorem dL_law_547 : decode cL_law 547 = .ok (.iconst 1, 1) := by decide +kernel
theorem dL_law_548 : decode cL_law 548 = .ok (.iadd, 1) := by decide +kernel
theorem dL_law_549 : decode cL_law 549 = .ok (.iaload, 1) := by decide +kernel
theorem dL_law_550 : decode cL_law 550 = .ok (.aload_n 0, 1) := by decide +kernel
theorem dL_law_551 : decode cL_law 551 = .ok (.iload_n 3, 1) := by decide +kernel
theorem dL_law_552 : decode cL_law 552 = .ok (.iconst 2, 1) := by decide +kernel
theorem dL_law_553 : decode cL_law 553 = .ok (.iadd, 1) := by decide +kernel
theorem dL_law_554 : decode cL_law 554 = .ok (.iaload, 1) := by decide +kernel
theorem dL_law_555 : decode cL_law 555 = .ok (.aload_n 0, 1) := by decide +kernel
theorem dL_law_556 : decode cL_law 556 = .ok (.iload_n 3, 1) := by decide +kernel
theorem dL_law_557 : decode cL_law 557 = .ok (.iconst 3, 1) := by decide +kernel
theorem dL_law_558 : decode cL_law 558 = .ok (.iadd, 1) := by decide +kernel
theorem dL_law_559 : decode cL_law 559 = .ok (.iaload, 1) := by decide +kernel
theorem dL_law_560 : decode cL_law 560 = .ok (.invokevirtual 57, 3) := by decide +kernel
theorem dL_law_563 : decode cL_law 563 = .ok (.aload_n 2, 1) := by decide +kernel
theorem dL_law_564 : decode cL_law 564 = .ok (.aload_n 0, 1) := by decide +kernel
theorem dL_law_565 : decode cL_law 565 = .ok (.iload_n 3, 1) := by decide +kernel
theorem dL_law_566 : decode cL_law 566 = .ok (.iconst 1, 1) := by decide +kernel
theorem dL_law_567 : decode cL_law 567 = .ok (.iadd, 1) := by decide +kernel
theorem dL_law_568 : decode cL_law 568 = .ok (.iaload, 1) := by decide +kernel
theorem dL_law_569 : decode cL_law 569 = .ok (.aload_n 0, 1) := by decide +kernel
theorem dL_law_570 : decode cL_law 570 = .ok (.iload_n 3, 1) := by decide +kernel
theorem dL_law_571 : decode cL_law 571 = .ok (.iconst 2, 1) := by decide +kernel
theorem dL_law_572 : decode cL_law 572 = .ok (.iadd, 1) := by decide +kernel
theorem dL_law_573 : decode cL_law 573 = .ok (.iaload, 1) := by decide +kernel
theorem dL_law_574 : decode cL_law 574 = .ok (.aload_n 0, 1) := by decide +kernel
theorem dL_law_575 : decode cL_law 575 = .ok (.iload_n 3, 1) := by decide +kernel
theorem dL_law_576 : decode cL_law 576 = .ok (.iconst 3, 1) := by decide +kernel
theorem dL_law_577 : decode cL_law 577 = .ok (.iadd, 1) := by decide +kernel
theorem dL_law_578 : decode cL_law 578 = .ok (.iaload, 1) := by decide +kernel
theorem dL_law_579 : decode cL_law 579 = .ok (.invokevirtual 60, 3) := by decide +kernel
theorem dL_law_582 : decode cL_law 582 = .ok (.if_icmp .eq 749, 3) := by decide +kernel
theorem dL_law_585 : decode cL_law 585 = .ok (.iconst 0, 1) := by decide +kernel
theorem dL_law_586 : decode cL_law 586 = .ok (.ireturn, 1) := by decide +kernel
theorem dL_law_587 : decode cL_law 587 = .ok (.aload_n 1, 1) := by decide +kernel
theorem dL_law_588 : decode cL_law 588 = .ok (.aload_n 0, 1) := by decide +kernel
theorem dL_law_589 : decode cL_law 589 = .ok (.iload_n 3, 1) := by decide +kernel
theorem dL_law_590 : decode cL_law 590 = .ok (.iconst 1, 1) := by decide +kernel
theorem dL_law_591 : decode cL_law 591 = .ok (.iadd, 1) := by decide +kernel
theorem dL_law_592 : decode cL_law 592 = .ok (.iaload, 1) := by decide +kernel
theorem dL_law_593 : decode cL_law 593 = .ok (.invokevirtual 61, 3) := by decide +kernel
theorem dL_law_596 : decode cL_law 596 = .ok (.aload_n 2, 1) := by decide +kernel
theorem dL_law_597 : decode cL_law 597 = .ok (.aload_n 0, 1) := by decide +kernel
theorem dL_law_598 : decode cL_law 598 = .ok (.iload_n 3, 1) := by decide +kernel
theorem dL_law_599 : decode cL_law 599 = .ok (.iconst 1, 1) := by decide +kernel
theorem dL_law_600 : decode cL_law 600 = .ok (.iadd, 1) := by decide +kernel
theorem dL_law_601 : decode cL_law 601 = .ok (.iaload, 1) := by decide +kernel
theorem dL_law_602 : decode cL_law 602 = .ok (.invokevirtual 65, 3) := by decide +kernel
theorem dL_law_605 : decode cL_law 605 = .ok (.if_icmp .eq 726, 3) := by decide +kernel
theorem dL_law_608 : decode cL_law 608 = .ok (.iconst 0, 1) := by decide +kernel
theorem dL_law_609 : decode cL_law 609 = .ok (.ireturn, 1) := by decide +kernel
theorem dL_law_610 : decode cL_law 610 = .ok (.aload_n 1, 1) := by decide +kernel
theorem dL_law_611 : decode cL_law 611 = .ok (.aload_n 0, 1) := by decide +kernel
theorem dL_law_612 : decode cL_law 612 = .ok (.iload_n 3, 1) := by decide +kernel
theorem dL_law_613 : decode cL_law 613 = .ok (.iconst 1, 1) := by decide +kernel
theorem dL_law_614 : decode cL_law 614 = .ok (.iadd, 1) := by decide +kernel
theorem dL_law_615 : decode cL_law 615 = .ok (.iaload, 1) := by decide +kernel
theorem dL_law_616 : decode cL_law 616 = .ok (.aload_n 0, 1) := by decide +kernel
theorem dL_law_617 : decode cL_law 617 = .ok (.iload_n 3, 1) := by decide +kernel
theorem dL_law_618 : decode cL_law 618 = .ok (.iconst 2, 1) := by decide +kernel
theorem dL_law_619 : decode cL_law 619 = .ok (.iadd, 1) := by decide +kernel
theorem dL_law_620 : decode cL_law 620 = .ok (.iaload, 1) := by decide +kernel
theorem dL_law_621 : decode cL_law 621 = .ok (.ifCond .eq 7, 3) := by decide +kernel
theorem dL_law_624 : decode cL_law 624 = .ok (.iconst 1, 1) := by decide +kernel
theorem dL_law_625 : decode cL_law 625 = .ok (.goto 4, 3) := by decide +kernel
theorem dL_law_628 : decode cL_law 628 = .ok (.iconst 0, 1) := by decide +kernel
theorem dL_law_629 : decode cL_law 629 = .ok (.invokevirtual 66, 3) := by decide +kernel
theorem dL_law_632 : decode cL_law 632 = .ok (.aload_n 2, 1) := by decide +kernel
theorem dL_law_633 : decode cL_law 633 = .ok (.aload_n 0, 1) := by decide +kernel
theorem dL_law_634 : decode cL_law 634 = .ok (.iload_n 3, 1) := by decide +kernel
theorem dL_law_635 : decode cL_law 635 = .ok (.iconst 1, 1) := by decide +kernel
theorem dL_law_636 : decode cL_law 636 = .ok (.iadd, 1) := by decide +kernel
theorem dL_law_637 : decode cL_law 637 = .ok (.iaload, 1) := by decide +kernel
theorem dL_law_638 : decode cL_law 638 = .ok (.aload_n 0, 1) := by decide +kernel
theorem dL_law_639 : decode cL_law 639 = .ok (.iload_n 3, 1) := by decide +kernel
theorem dL_law_640 : decode cL_law 640 = .ok (.iconst 2, 1) := by decide +kernel
theorem dL_law_641 : decode cL_law 641 = .ok (.iadd, 1) := by decide +kernel
theorem dL_law_642 : decode cL_law 642 = .ok (.iaload, 1) := by decide +kernel
theorem dL_law_643 : decode cL_law 643 = .ok (.ifCond .eq 7, 3) := by decide +kernel
theorem dL_law_646 : decode cL_law 646 = .ok (.iconst 1, 1) := by decide +kernel
theorem dL_law_647 : decode cL_law 647 = .ok (.goto 4, 3) := by decide +kernel
theorem dL_law_650 : decode cL_law 650 = .ok (.iconst 0, 1) := by decide +kernel
theorem dL_law_651 : decode cL_law 651 = .ok (.invokevirtual 70, 3) := by decide +kernel
theorem dL_law_654 : decode cL_law 654 = .ok (.if_icmp .eq 677, 3) := by decide +kernel
theorem dL_law_657 : decode cL_law 657 = .ok (.iconst 0, 1) := by decide +kernel
theorem dL_law_658 : decode cL_law 658 = .ok (.ireturn, 1) := by decide +kernel
theorem dL_law_659 : decode cL_law 659 = .ok (.aload_n 1, 1) := by decide +kernel
theorem dL_law_660 : decode cL_law 660 = .ok (.aload_n 0, 1) := by decide +kernel
theorem dL_law_661 : decode cL_law 661 = .ok (.iload_n 3, 1) := by decide +kernel
theorem dL_law_662 : decode cL_law 662 = .ok (.iconst 1, 1) := by decide +kernel
theorem dL_law_663 : decode cL_law 663 = .ok (.iadd, 1) := by decide +kernel
theorem dL_law_664 : decode cL_law 664 = .ok (.iaload, 1) := by decide +kernel
theorem dL_law_665 : decode cL_law 665 = .ok (.invokevirtual 71, 3) := by decide +kernel
theorem dL_law_668 : decode cL_law 668 = .ok (.aload_n 2, 1) := by decide +kernel
theorem dL_law_669 : decode cL_law 669 = .ok (.aload_n 0, 1) := by decide +kernel
theorem dL_law_670 : decode cL_law 670 = .ok (.iload_n 3, 1) := by decide +kernel
theorem dL_law_671 : decode cL_law 671 = .ok (.iconst 1, 1) := by decide +kernel
theorem dL_law_672 : decode cL_law 672 = .ok (.iadd, 1) := by decide +kernel
theorem dL_law_673 : decode cL_law 673 = .ok (.iaload, 1) := by decide +kernel
theorem dL_law_674 : decode cL_law 674 = .ok (.invokevirtual 75, 3) := by decide +kernel
theorem dL_law_677 : decode cL_law 677 = .ok (.if_icmp .eq 654, 3) := by decide +kernel
theorem dL_law_680 : decode cL_law 680 = .ok (.iconst 0, 1) := by decide +kernel
theorem dL_law_681 : decode cL_law 681 = .ok (.ireturn, 1) := by decide +kernel
theorem dL_law_682 : decode cL_law 682 = .ok (.aload_n 1, 1) := by decide +kernel
theorem dL_law_683 : decode cL_law 683 = .ok (.aload_n 0, 1) := by decide +kernel
theorem dL_law_684 : decode cL_law 684 = .ok (.iload_n 3, 1) := by decide +kernel
theorem dL_law_685 : decode cL_law 685 = .ok (.iconst 1, 1) := by decide +kernel
theorem dL_law_686 : decode cL_law 686 = .ok (.iadd, 1) := by decide +kernel
theorem dL_law_687 : decode cL_law 687 = .ok (.iaload, 1) := by decide +kernel
theorem dL_law_688 : decode cL_law 688 = .ok (.aload_n 0, 1) := by decide +kernel
theorem dL_law_689 : decode cL_law 689 = .ok (.iload_n 3, 1) := by decide +kernel
theorem dL_law_690 : decode cL_law 690 = .ok (.iconst 2, 1) := by decide +kernel
theorem dL_law_691 : decode cL_law 691 = .ok (.iadd, 1) := by decide +kernel
theorem dL_law_692 : decode cL_law 692 = .ok (.iaload, 1) := by decide +kernel
theorem dL_law_693 : decode cL_law 693 = .ok (.invokevirtual 76, 3) := by decide +kernel
theorem dL_law_696 : decode cL_law 696 = .ok (.aload_n 2, 1) := by decide +kernel
theorem dL_law_697 : decode cL_law 697 = .ok (.aload_n 0, 1) := by decide +kernel
theorem dL_law_698 : decode cL_law 698 = .ok (.iload_n 3, 1) := by decide +kernel
theorem dL_law_699 : decode cL_law 699 = .ok (.iconst 1, 1) := by decide +kernel
theorem dL_law_700 : decode cL_law 700 = .ok (.iadd, 1) := by decide +kernel
theorem dL_law_701 : decode cL_law 701 = .ok (.iaload, 1) := by decide +kernel
theorem dL_law_702 : decode cL_law 702 = .ok (.aload_n 0, 1) := by decide +kernel
theorem dL_law_703 : decode cL_law 703 = .ok (.iload_n 3, 1) := by decide +kernel
theorem dL_law_704 : decode cL_law 704 = .ok (.iconst 2, 1) := by decide +kernel
theorem dL_law_705 : decode cL_law 705 = .ok (.iadd, 1) := by decide +kernel
theorem dL_law_706 : decode cL_law 706 = .ok (.iaload, 1) := by decide +kernel
theorem dL_law_707 : decode cL_law 707 = .ok (.invokevirtual 80, 3) := by decide +kernel
theorem dL_law_710 : decode cL_law 710 = .ok (.if_icmp .eq 621, 3) := by decide +kernel
theorem dL_law_713 : decode cL_law 713 = .ok (.iconst 0, 1) := by decide +kernel
theorem dL_law_714 : decode cL_law 714 = .ok (.ireturn, 1) := by decide +kernel
theorem dL_law_715 : decode cL_law 715 = .ok (.aload_n 1, 1) := by decide +kernel
theorem dL_law_716 : decode cL_law 716 = .ok (.aload_n 0, 1) := by decide +kernel
theorem dL_law_717 : decode cL_law 717 = .ok (.iload_n 3, 1) := by decide +kernel
theorem dL_law_718 : decode cL_law 718 = .ok (.iconst 1, 1) := by decide +kernel
theorem dL_law_719 : decode cL_law 719 = .ok (.iadd, 1) := by decide +kernel
theorem dL_law_720 : decode cL_law 720 = .ok (.iaload, 1) := by decide +kernel
theorem dL_law_721 : decode cL_law 721 = .ok (.aload_n 0, 1) := by decide +kernel
theorem dL_law_722 : decode cL_law 722 = .ok (.iload_n 3, 1) := by decide +kernel
theorem dL_law_723 : decode cL_law 723 = .ok (.iconst 2, 1) := by decide +kernel
theorem dL_law_724 : decode cL_law 724 = .ok (.iadd, 1) := by decide +kernel
theorem dL_law_725 : decode cL_law 725 = .ok (.iaload, 1) := by decide +kernel
theorem dL_law_726 : decode cL_law 726 = .ok (.invokevirtual 81, 3) := by decide +kernel
theorem dL_law_729 : decode cL_law 729 = .ok (.aload_n 2, 1) := by decide +kernel
theorem dL_law_730 : decode cL_law 730 = .ok (.aload_n 0, 1) := by decide +kernel
theorem dL_law_731 : decode cL_law 731 = .ok (.iload_n 3, 1) := by decide +kernel
theorem dL_law_732 : decode cL_law 732 = .ok (.iconst 1, 1) := by decide +kernel
theorem dL_law_733 : decode cL_law 733 = .ok (.iadd, 1) := by decide +kernel
theorem dL_law_734 : decode cL_law 734 = .ok (.iaload, 1) := by decide +kernel
theorem dL_law_735 : decode cL_law 735 = .ok (.aload_n 0, 1) := by decide +kernel
theorem dL_law_736 : decode cL_law 736 = .ok (.iload_n 3, 1) := by decide +kernel
theorem dL_law_737 : decode cL_law 737 = .ok (.iconst 2, 1) := by decide +kernel
theorem dL_law_738 : decode cL_law 738 = .ok (.iadd, 1) := by decide +kernel
theorem dL_law_739 : decode cL_law 739 = .ok (.iaload, 1) := by decide +kernel
theorem dL_law_740 : decode cL_law 740 = .ok (.invokevirtual 84, 3) := by decide +kernel
theorem dL_law_743 : decode cL_law 743 = .ok (.if_icmp .eq 588, 3) := by decide +kernel
theorem dL_law_746 : decode cL_law 746 = .ok (.iconst 0, 1) := by decide +kernel
theorem dL_law_747 : decode cL_law 747 = .ok (.ireturn, 1) := by decide +kernel
theorem dL_law_748 : decode cL_law 748 = .ok (.aload_n 1, 1) := by decide +kernel
theorem dL_law_749 : decode cL_law 749 = .ok (.aload_n 0, 1) := by decide +kernel
theorem dL_law_750 : decode cL_law 750 = .ok (.iload_n 3, 1) := by decide +kernel
theorem dL_law_751 : decode cL_law 751 = .ok (.iconst 1, 1) := by decide +kernel
theorem dL_law_752 : decode cL_law 752 = .ok (.iadd, 1) := by decide +kernel
theorem dL_law_753 : decode cL_law 753 = .ok (.iaload, 1) := by decide +kernel
theorem dL_law_754 : decode cL_law 754 = .ok (.aload_n 0, 1) := by decide +kernel
theorem dL_law_755 : decode cL_law 755 = .ok (.iload_n 3, 1) := by decide +kernel
theorem dL_law_756 : decode cL_law 756 = .ok (.iconst 2, 1) := by decide +kernel
theorem dL_law_757 : decode cL_law 757 = .ok (.iadd, 1) := by decide +kernel
theorem dL_law_758 : decode cL_law 758 = .ok (.iaload, 1) := by decide +kernel
theorem dL_law_759 : decode cL_law 759 = .ok (.aload_n 0, 1) := by decide +kernel
theorem dL_law_760 : decode cL_law 760 = .ok (.iload_n 3, 1) := by decide +kernel
theorem dL_law_761 : decode cL_law 761 = .ok (.iconst 3, 1) := by decide +kernel
theorem dL_law_762 : decode cL_law 762 = .ok (.iadd, 1) := by decide +kernel
theorem dL_law_763 : decode cL_law 763 = .ok (.iaload, 1) := by decide +kernel
theorem dL_law_764 : decode cL_law 764 = .ok (.invokevirtual 85, 3) := by decide +kernel
theorem dL_law_767 : decode cL_law 767 = .ok (.aload_n 2, 1) := by decide +kernel
theorem dL_law_768 : decode cL_law 768 = .ok (.aload_n 0, 1) := by decide +kernel
theorem dL_law_769 : decode cL_law 769 = .ok (.iload_n 3, 1) := by decide +kernel
theorem dL_law_770 : decode cL_law 770 = .ok (.iconst 1, 1) := by decide +kernel
theorem dL_law_771 : decode cL_law 771 = .ok (.iadd, 1) := by decide +kernel
theorem dL_law_772 : decode cL_law 772 = .ok (.iaload, 1) := by decide +kernel
theorem dL_law_773 : decode cL_law 773 = .ok (.aload_n 0, 1) := by decide +kernel
theorem dL_law_774 : decode cL_law 774 = .ok (.iload_n 3, 1) := by decide +kernel
theorem dL_law_775 : decode cL_law 775 = .ok (.iconst 2, 1) := by decide +kernel
theorem dL_law_776 : decode cL_law 776 = .ok (.iadd, 1) := by decide +kernel
theorem dL_law_777 : decode cL_law 777 = .ok (.iaload, 1) := by decide +kernel
theorem dL_law_778 : decode cL_law 778 = .ok (.aload_n 0, 1) := by decide +kernel
theorem dL_law_779 : decode cL_law 779 = .ok (.iload_n 3, 1) := by decide +kernel
theorem dL_law_780 : decode cL_law 780 = .ok (.iconst 3, 1) := by decide +kernel
theorem dL_law_781 : decode cL_law 781 = .ok (.iadd, 1) := by decide +kernel
theorem dL_law_782 : decode cL_law 782 = .ok (.iaload, 1) := by decide +kernel
theorem dL_law_783 : decode cL_law 783 = .ok (.invokevirtual 88, 3) := by decide +kernel
theorem dL_law_786 : decode cL_law 786 = .ok (.if_icmp .eq 545, 3) := by decide +kernel
theorem dL_law_789 : decode cL_law 789 = .ok (.iconst 0, 1) := by decide +kernel
theorem dL_law_790 : decode cL_law 790 = .ok (.ireturn, 1) := by decide +kernel
theorem dL_law_791 : decode cL_law 791 = .ok (.aload_n 1, 1) := by decide +kernel
theorem dL_law_792 : decode cL_law 792 = .ok (.aload_n 0, 1) := by decide +kernel
theorem dL_law_793 : decode cL_law 793 = .ok (.iload_n 3, 1) := by decide +kernel
theorem dL_law_794 : decode cL_law 794 = .ok (.iconst 1, 1) := by decide +kernel
theorem dL_law_795 : decode cL_law 795 = .ok (.iadd, 1) := by decide +kernel
theorem dL_law_796 : decode cL_law 796 = .ok (.iaload, 1) := by decide +kernel
theorem dL_law_797 : decode cL_law 797 = .ok (.aload_n 0, 1) := by decide +kernel
theorem dL_law_798 : decode cL_law 798 = .ok (.iload_n 3, 1) := by decide +kernel
theorem dL_law_799 : decode cL_law 799 = .ok (.iconst 2, 1) := by decide +kernel
theorem dL_law_800 : decode cL_law 800 = .ok (.iadd, 1) := by decide +kernel
theorem dL_law_801 : decode cL_law 801 = .ok (.iaload, 1) := by decide +kernel
theorem dL_law_802 : decode cL_law 802 = .ok (.aload_n 0, 1) := by decide +kernel
theorem dL_law_803 : decode cL_law 803 = .ok (.iload_n 3, 1) := by decide +kernel
theorem dL_law_804 : decode cL_law 804 = .ok (.iconst 3, 1) := by decide +kernel
theorem dL_law_805 : decode cL_law 805 = .ok (.iadd, 1) := by decide +kernel
theorem dL_law_806 : decode cL_law 806 = .ok (.iaload, 1) := by decide +kernel
theorem dL_law_807 : decode cL_law 807 = .ok (.invokevirtual 89, 3) := by decide +kernel
theorem dL_law_810 : decode cL_law 810 = .ok (.aload_n 2, 1) := by decide +kernel
theorem dL_law_811 : decode cL_law 811 = .ok (.aload_n 0, 1) := by decide +kernel
theorem dL_law_812 : decode cL_law 812 = .ok (.iload_n 3, 1) := by decide +kernel
theorem dL_law_813 : decode cL_law 813 = .ok (.iconst 1, 1) := by decide +kernel
theorem dL_law_814 : decode cL_law 814 = .ok (.iadd, 1) := by decide +kernel
theorem dL_law_815 : decode cL_law 815 = .ok (.iaload, 1) := by decide +kernel
theorem dL_law_816 : decode cL_law 816 = .ok (.aload_n 0, 1) := by decide +kernel
theorem dL_law_817 : decode cL_law 817 = .ok (.iload_n 3, 1) := by decide +kernel
theorem dL_law_818 : decode cL_law 818 = .ok (.iconst 2, 1) := by decide +kernel
theorem dL_law_819 : decode cL_law 819 = .ok (.iadd, 1) := by decide +kernel
theorem dL_law_820 : decode cL_law 820 = .ok (.iaload, 1) := by decide +kernel
theorem dL_law_821 : decode cL_law 821 = .ok (.aload_n 0, 1) := by decide +kernel
theorem dL_law_822 : decode cL_law 822 = .ok (.iload_n 3, 1) := by decide +kernel
theorem dL_law_823 : decode cL_law 823 = .ok (.iconst 3, 1) := by decide +kernel
theorem dL_law_824 : decode cL_law 824 = .ok (.iadd, 1) := by decide +kernel
theorem dL_law_825 : decode cL_law 825 = .ok (.iaload, 1) := by decide +kernel
theorem dL_law_826 : decode cL_law 826 = .ok (.invokevirtual 93, 3) := by decide +kernel
theorem dL_law_829 : decode cL_law 829 = .ok (.if_icmp .eq 502, 3) := by decide +kernel
theorem dL_law_832 : decode cL_law 832 = .ok (.iconst 0, 1) := by decide +kernel
theorem dL_law_833 : decode cL_law 833 = .ok (.ireturn, 1) := by decide +kernel
theorem dL_law_834 : decode cL_law 834 = .ok (.aload_n 1, 1) := by decide +kernel
theorem dL_law_835 : decode cL_law 835 = .ok (.aload_n 0, 1) := by decide +kernel
theorem dL_law_836 : decode cL_law 836 = .ok (.iload_n 3, 1) := by decide +kernel
theorem dL_law_837 : decode cL_law 837 = .ok (.iconst 1, 1) := by decide +kernel
theorem dL_law_838 : decode cL_law 838 = .ok (.iadd, 1) := by decide +kernel
theorem dL_law_839 : decode cL_law 839 = .ok (.iaload, 1) := by decide +kernel
theorem dL_law_840 : decode cL_law 840 = .ok (.aload_n 0, 1) := by decide +kernel
theorem dL_law_841 : decode cL_law 841 = .ok (.iload_n 3, 1) := by decide +kernel
theorem dL_law_842 : decode cL_law 842 = .ok (.iconst 2, 1) := by decide +kernel
theorem dL_law_843 : decode cL_law 843 = .ok (.iadd, 1) := by decide +kernel
theorem dL_law_844 : decode cL_law 844 = .ok (.iaload, 1) := by decide +kernel
theorem dL_law_845 : decode cL_law 845 = .ok (.aload_n 0, 1) := by decide +kernel
theorem dL_law_846 : decode cL_law 846 = .ok (.iload_n 3, 1) := by decide +kernel
theorem dL_law_847 : decode cL_law 847 = .ok (.iconst 3, 1) := by decide +kernel
theorem dL_law_848 : decode cL_law 848 = .ok (.iadd, 1) := by decide +kernel
theorem dL_law_849 : decode cL_law 849 = .ok (.iaload, 1) := by decide +kernel
theorem dL_law_850 : decode cL_law 850 = .ok (.aload_n 0, 1) := by decide +kernel
theorem dL_law_851 : decode cL_law 851 = .ok (.iload_n 3, 1) := by decide +kernel
theorem dL_law_852 : decode cL_law 852 = .ok (.iconst 4, 1) := by decide +kernel
theorem dL_law_853 : decode cL_law 853 = .ok (.iadd, 1) := by decide +kernel
theorem dL_law_854 : decode cL_law 854 = .ok (.iaload, 1) := by decide +kernel
theorem dL_law_855 : decode cL_law 855 = .ok (.invokevirtual 94, 3) := by decide +kernel
theorem dL_law_858 : decode cL_law 858 = .ok (.aload_n 2, 1) := by decide +kernel
theorem dL_law_859 : decode cL_law 859 = .ok (.aload_n 0, 1) := by decide +kernel
theorem dL_law_860 : decode cL_law 860 = .ok (.iload_n 3, 1) := by decide +kernel
theorem dL_law_861 : decode cL_law 861 = .ok (.iconst 1, 1) := by decide +kernel
theorem dL_law_862 : decode cL_law 862 = .ok (.iadd, 1) := by decide +kernel
theorem dL_law_863 : decode cL_law 863 = .ok (.iaload, 1) := by decide +kernel
theorem dL_law_864 : decode cL_law 864 = .ok (.aload_n 0, 1) := by decide +kernel
theorem dL_law_865 : decode cL_law 865 = .ok (.iload_n 3, 1) := by decide +kernel
theorem dL_law_866 : decode cL_law 866 = .ok (.iconst 2, 1) := by decide +kernel
theorem dL_law_867 : decode cL_law 867 = .ok (.iadd, 1) := by decide +kernel
theorem dL_law_868 : decode cL_law 868 = .ok (.iaload, 1) := by decide +kernel
theorem dL_law_869 : decode cL_law 869 = .ok (.aload_n 0, 1) := by decide +kernel
theorem dL_law_870 : decode cL_law 870 = .ok (.iload_n 3, 1) := by decide +kernel
theorem dL_law_871 : decode cL_law 871 = .ok (.iconst 3, 1) := by decide +kernel
theorem dL_law_872 : decode cL_law 872 = .ok (.iadd, 1) := by decide +kernel
theorem dL_law_873 : decode cL_law 873 = .ok (.iaload, 1) := by decide +kernel
theorem dL_law_874 : decode cL_law 874 = .ok (.aload_n 0, 1) := by decide +kernel
theorem dL_law_875 : decode cL_law 875 = .ok (.iload_n 3, 1) := by decide +kernel
theorem dL_law_876 : decode cL_law 876 = .ok (.iconst 4, 1) := by decide +kernel
theorem dL_law_877 : decode cL_law 877 = .ok (.iadd, 1) := by decide +kernel
theorem dL_law_878 : decode cL_law 878 = .ok (.iaload, 1) := by decide +kernel
theorem dL_law_879 : decode cL_law 879 = .ok (.invokevirtual 98, 3) := by decide +kernel
theorem dL_law_882 : decode cL_law 882 = .ok (.if_icmp .eq 449, 3) := by decide +kernel
theorem dL_law_885 : decode cL_law 885 = .ok (.iconst 0, 1) := by decide +kernel
theorem dL_law_886 : decode cL_law 886 = .ok (.ireturn, 1) := by decide +kernel
theorem dL_law_887 : decode cL_law 887 = .ok (.aload_n 1, 1) := by decide +kernel
theorem dL_law_888 : decode cL_law 888 = .ok (.aload_n 0, 1) := by decide +kernel
theorem dL_law_889 : decode cL_law 889 = .ok (.iload_n 3, 1) := by decide +kernel
theorem dL_law_890 : decode cL_law 890 = .ok (.iconst 1, 1) := by decide +kernel
theorem dL_law_891 : decode cL_law 891 = .ok (.iadd, 1) := by decide +kernel
theorem dL_law_892 : decode cL_law 892 = .ok (.iaload, 1) := by decide +kernel
theorem dL_law_893 : decode cL_law 893 = .ok (.aload_n 0, 1) := by decide +kernel
theorem dL_law_894 : decode cL_law 894 = .ok (.iload_n 3, 1) := by decide +kernel
theorem dL_law_895 : decode cL_law 895 = .ok (.iconst 2, 1) := by decide +kernel
theorem dL_law_896 : decode cL_law 896 = .ok (.iadd, 1) := by decide +kernel
theorem dL_law_897 : decode cL_law 897 = .ok (.iaload, 1) := by decide +kernel
theorem dL_law_898 : decode cL_law 898 = .ok (.aload_n 0, 1) := by decide +kernel
theorem dL_law_899 : decode cL_law 899 = .ok (.iload_n 3, 1) := by decide +kernel
theorem dL_law_900 : decode cL_law 900 = .ok (.iconst 3, 1) := by decide +kernel
theorem dL_law_901 : decode cL_law 901 = .ok (.iadd, 1) := by decide +kernel
theorem dL_law_902 : decode cL_law 902 = .ok (.iaload, 1) := by decide +kernel
theorem dL_law_903 : decode cL_law 903 = .ok (.aload_n 0, 1) := by decide +kernel
theorem dL_law_904 : decode cL_law 904 = .ok (.iload_n 3, 1) := by decide +kernel
theorem dL_law_905 : decode cL_law 905 = .ok (.iconst 4, 1) := by decide +kernel
theorem dL_law_906 : decode cL_law 906 = .ok (.iadd, 1) := by decide +kernel
theorem dL_law_907 : decode cL_law 907 = .ok (.iaload, 1) := by decide +kernel
theorem dL_law_908 : decode cL_law 908 = .ok (.aload_n 0, 1) := by decide +kernel
theorem dL_law_909 : decode cL_law 909 = .ok (.iload_n 3, 1) := by decide +kernel
theorem dL_law_910 : decode cL_law 910 = .ok (.iconst 5, 1) := by decide +kernel
theorem dL_law_911 : decode cL_law 911 = .ok (.iadd, 1) := by decide +kernel
theorem dL_law_912 : decode cL_law 912 = .ok (.iaload, 1) := by decide +kernel
theorem dL_law_913 : decode cL_law 913 = .ok (.invokevirtual 99, 3) := by decide +kernel
theorem dL_law_916 : decode cL_law 916 = .ok (.aload_n 2, 1) := by decide +kernel
theorem dL_law_917 : decode cL_law 917 = .ok (.aload_n 0, 1) := by decide +kernel
theorem dL_law_918 : decode cL_law 918 = .ok (.iload_n 3, 1) := by decide +kernel
theorem dL_law_919 : decode cL_law 919 = .ok (.iconst 1, 1) := by decide +kernel
theorem dL_law_920 : decode cL_law 920 = .ok (.iadd, 1) := by decide +kernel
theorem dL_law_921 : decode cL_law 921 = .ok (.iaload, 1) := by decide +kernel
theorem dL_law_922 : decode cL_law 922 = .ok (.aload_n 0, 1) := by decide +kernel
theorem dL_law_923 : decode cL_law 923 = .ok (.iload_n 3, 1) := by decide +kernel
theorem dL_law_924 : decode cL_law 924 = .ok (.iconst 2, 1) := by decide +kernel
theorem dL_law_925 : decode cL_law 925 = .ok (.iadd, 1) := by decide +kernel
theorem dL_law_926 : decode cL_law 926 = .ok (.iaload, 1) := by decide +kernel
theorem dL_law_927 : decode cL_law 927 = .ok (.aload_n 0, 1) := by decide +kernel
theorem dL_law_928 : decode cL_law 928 = .ok (.iload_n 3, 1) := by decide +kernel
theorem dL_law_929 : decode cL_law 929 = .ok (.iconst 3, 1) := by decide +kernel
theorem dL_law_930 : decode cL_law 930 = .ok (.iadd, 1) := by decide +kernel
theorem dL_law_931 : decode cL_law 931 = .ok (.iaload, 1) := by decide +kernel
theorem dL_law_932 : decode cL_law 932 = .ok (.aload_n 0, 1) := by decide +kernel
theorem dL_law_933 : decode cL_law 933 = .ok (.iload_n 3, 1) := by decide +kernel
theorem dL_law_934 : decode cL_law 934 = .ok (.iconst 4, 1) := by decide +kernel
theorem dL_law_935 : decode cL_law 935 = .ok (.iadd, 1) := by decide +kernel
theorem dL_law_936 : decode cL_law 936 = .ok (.iaload, 1) := by decide +kernel
theorem dL_law_937 : decode cL_law 937 = .ok (.aload_n 0, 1) := by decide +kernel
theorem dL_law_938 : decode cL_law 938 = .ok (.iload_n 3, 1) := by decide +kernel
theorem dL_law_939 : decode cL_law 939 = .ok (.iconst 5, 1) := by decide +kernel
theorem dL_law_940 : decode cL_law 940 = .ok (.iadd, 1) := by decide +kernel
theorem dL_law_941 : decode cL_law 941 = .ok (.iaload, 1) := by decide +kernel
theorem dL_law_942 : decode cL_law 942 = .ok (.invokevirtual 103, 3) := by decide +kernel
theorem dL_law_945 : decode cL_law 945 = .ok (.if_icmp .eq 386, 3) := by decide +kernel
theorem dL_law_948 : decode cL_law 948 = .ok (.iconst 0, 1) := by decide +kernel
theorem dL_law_949 : decode cL_law 949 = .ok (.ireturn, 1) := by decide +kernel
theorem dL_law_950 : decode cL_law 950 = .ok (.aload_n 1, 1) := by decide +kernel
theorem dL_law_951 : decode cL_law 951 = .ok (.aload_n 0, 1) := by decide +kernel
theorem dL_law_952 : decode cL_law 952 = .ok (.iload_n 3, 1) := by decide +kernel
theorem dL_law_953 : decode cL_law 953 = .ok (.iconst 1, 1) := by decide +kernel
theorem dL_law_954 : decode cL_law 954 = .ok (.iadd, 1) := by decide +kernel
theorem dL_law_955 : decode cL_law 955 = .ok (.iaload, 1) := by decide +kernel
theorem dL_law_956 : decode cL_law 956 = .ok (.aload_n 0, 1) := by decide +kernel
theorem dL_law_957 : decode cL_law 957 = .ok (.iload_n 3, 1) := by decide +kernel
theorem dL_law_958 : decode cL_law 958 = .ok (.iconst 2, 1) := by decide +kernel
theorem dL_law_959 : decode cL_law 959 = .ok (.iadd, 1) := by decide +kernel
theorem dL_law_960 : decode cL_law 960 = .ok (.iaload, 1) := by decide +kernel
theorem dL_law_961 : decode cL_law 961 = .ok (.invokevirtual 104, 3) := by decide +kernel
theorem dL_law_964 : decode cL_law 964 = .ok (.aload_n 2, 1) := by decide +kernel
theorem dL_law_965 : decode cL_law 965 = .ok (.aload_n 0, 1) := by decide +kernel
theorem dL_law_966 : decode cL_law 966 = .ok (.iload_n 3, 1) := by decide +kernel
theorem dL_law_967 : decode cL_law 967 = .ok (.iconst 1, 1) := by decide +kernel
theorem dL_law_968 : decode cL_law 968 = .ok (.iadd, 1) := by decide +kernel
theorem dL_law_969 : decode cL_law 969 = .ok (.iaload, 1) := by decide +kernel
theorem dL_law_970 : decode cL_law 970 = .ok (.aload_n 0, 1) := by decide +kernel
theorem dL_law_971 : decode cL_law 971 = .ok (.iload_n 3, 1) := by decide +kernel
theorem dL_law_972 : decode cL_law 972 = .ok (.iconst 2, 1) := by decide +kernel
theorem dL_law_973 : decode cL_law 973 = .ok (.iadd, 1) := by decide +kernel
theorem dL_law_974 : decode cL_law 974 = .ok (.iaload, 1) := by decide +kernel
theorem dL_law_975 : decode cL_law 975 = .ok (.invokevirtual 107, 3) := by decide +kernel
theorem dL_law_978 : decode cL_law 978 = .ok (.if_icmp .eq 353, 3) := by decide +kernel
theorem dL_law_981 : decode cL_law 981 = .ok (.iconst 0, 1) := by decide +kernel
theorem dL_law_982 : decode cL_law 982 = .ok (.ireturn, 1) := by decide +kernel
theorem dL_law_983 : decode cL_law 983 = .ok (.aload_n 1, 1) := by decide +kernel
theorem dL_law_984 : decode cL_law 984 = .ok (.aload_n 0, 1) := by decide +kernel
theorem dL_law_985 : decode cL_law 985 = .ok (.iload_n 3, 1) := by decide +kernel
theorem dL_law_986 : decode cL_law 986 = .ok (.iconst 1, 1) := by decide +kernel
theorem dL_law_987 : decode cL_law 987 = .ok (.iadd, 1) := by decide +kernel
theorem dL_law_988 : decode cL_law 988 = .ok (.iaload, 1) := by decide +kernel
theorem dL_law_989 : decode cL_law 989 = .ok (.aload_n 0, 1) := by decide +kernel
theorem dL_law_990 : decode cL_law 990 = .ok (.iload_n 3, 1) := by decide +kernel
theorem dL_law_991 : decode cL_law 991 = .ok (.iconst 2, 1) := by decide +kernel
theorem dL_law_992 : decode cL_law 992 = .ok (.iadd, 1) := by decide +kernel
theorem dL_law_993 : decode cL_law 993 = .ok (.iaload, 1) := by decide +kernel
theorem dL_law_994 : decode cL_law 994 = .ok (.aload_n 0, 1) := by decide +kernel
theorem dL_law_995 : decode cL_law 995 = .ok (.iload_n 3, 1) := by decide +kernel
theorem dL_law_996 : decode cL_law 996 = .ok (.iconst 3, 1) := by decide +kernel
theorem dL_law_997 : decode cL_law 997 = .ok (.iadd, 1) := by decide +kernel
theorem dL_law_998 : decode cL_law 998 = .ok (.iaload, 1) := by decide +kernel
theorem dL_law_999 : decode cL_law 999 = .ok (.invokevirtual 108, 3) := by decide +kernel
theorem dL_law_1002 : decode cL_law 1002 = .ok (.aload_n 2, 1) := by decide +kernel
theorem dL_law_1003 : decode cL_law 1003 = .ok (.aload_n 0, 1) := by decide +kernel
theorem dL_law_1004 : decode cL_law 1004 = .ok (.iload_n 3, 1) := by decide +kernel
theorem dL_law_1005 : decode cL_law 1005 = .ok (.iconst 1, 1) := by decide +kernel
theorem dL_law_1006 : decode cL_law 1006 = .ok (.iadd, 1) := by decide +kernel
theorem dL_law_1007 : decode cL_law 1007 = .ok (.iaload, 1) := by decide +kernel
theorem dL_law_1008 : decode cL_law 1008 = .ok (.aload_n 0, 1) := by decide +kernel
theorem dL_law_1009 : decode cL_law 1009 = .ok (.iload_n 3, 1) := by decide +kernel
theorem dL_law_1010 : decode cL_law 1010 = .ok (.iconst 2, 1) := by decide +kernel
theorem dL_law_1011 : decode cL_law 1011 = .ok (.iadd, 1) := by decide +kernel
theorem dL_law_1012 : decode cL_law 1012 = .ok (.iaload, 1) := by decide +kernel
theorem dL_law_1013 : decode cL_law 1013 = .ok (.aload_n 0, 1) := by decide +kernel
theorem dL_law_1014 : decode cL_law 1014 = .ok (.iload_n 3, 1) := by decide +kernel
theorem dL_law_1015 : decode cL_law 1015 = .ok (.iconst 3, 1) := by decide +kernel
theorem dL_law_1016 : decode cL_law 1016 = .ok (.iadd, 1) := by decide +kernel
theorem dL_law_1017 : decode cL_law 1017 = .ok (.iaload, 1) := by decide +kernel
theorem dL_law_1018 : decode cL_law 1018 = .ok (.invokevirtual 111, 3) := by decide +kernel
theorem dL_law_1021 : decode cL_law 1021 = .ok (.if_icmp .eq 310, 3) := by decide +kernel
theorem dL_law_1024 : decode cL_law 1024 = .ok (.iconst 0, 1) := by decide +kernel
theorem dL_law_1025 : decode cL_law 1025 = .ok (.ireturn, 1) := by decide +kernel
theorem dL_law_1026 : decode cL_law 1026 = .ok (.aload_n 1, 1) := by decide +kernel
theorem dL_law_1027 : decode cL_law 1027 = .ok (.aload_n 0, 1) := by decide +kernel
theorem dL_law_1028 : decode cL_law 1028 = .ok (.iload_n 3, 1) := by decide +kernel
theorem dL_law_1029 : decode cL_law 1029 = .ok (.iconst 1, 1) := by decide +kernel
theorem dL_law_1030 : decode cL_law 1030 = .ok (.iadd, 1) := by decide +kernel
theorem dL_law_1031 : decode cL_law 1031 = .ok (.iaload, 1) := by decide +kernel
theorem dL_law_1032 : decode cL_law 1032 = .ok (.aload_n 0, 1) := by decide +kernel
theorem dL_law_1033 : decode cL_law 1033 = .ok (.iload_n 3, 1) := by decide +kernel
theorem dL_law_1034 : decode cL_law 1034 = .ok (.iconst 2, 1) := by decide +kernel
theorem dL_law_1035 : decode cL_law 1035 = .ok (.iadd, 1) := by decide +kernel
theorem dL_law_1036 : decode cL_law 1036 = .ok (.iaload, 1) := by decide +kernel
theorem dL_law_1037 : decode cL_law 1037 = .ok (.aload_n 0, 1) := by decide +kernel
theorem dL_law_1038 : decode cL_law 1038 = .ok (.iload_n 3, 1) := by decide +kernel
theorem dL_law_1039 : decode cL_law 1039 = .ok (.iconst 3, 1) := by decide +kernel
theorem dL_law_1040 : decode cL_law 1040 = .ok (.iadd, 1) := by decide +kernel
theorem dL_law_1041 : decode cL_law 1041 = .ok (.iaload, 1) := by decide +kernel
theorem dL_law_1042 : decode cL_law 1042 = .ok (.invokevirtual 112, 3) := by decide +kernel
theorem dL_law_1045 : decode cL_law 1045 = .ok (.aload_n 2, 1) := by decide +kernel
theorem dL_law_1046 : decode cL_law 1046 = .ok (.aload_n 0, 1) := by decide +kernel
theorem dL_law_1047 : decode cL_law 1047 = .ok (.iload_n 3, 1) := by decide +kernel
theorem dL_law_1048 : decode cL_law 1048 = .ok (.iconst 1, 1) := by decide +kernel
theorem dL_law_1049 : decode cL_law 1049 = .ok (.iadd, 1) := by decide +kernel
theorem dL_law_1050 : decode cL_law 1050 = .ok (.iaload, 1) := by decide +kernel
theorem dL_law_1051 : decode cL_law 1051 = .ok (.aload_n 0, 1) := by decide +kernel
theorem dL_law_1052 : decode cL_law 1052 = .ok (.iload_n 3, 1) := by decide +kernel
theorem dL_law_1053 : decode cL_law 1053 = .ok (.iconst 2, 1) := by decide +kernel
theorem dL_law_1054 : decode cL_law 1054 = .ok (.iadd, 1) := by decide +kernel
theorem dL_law_1055 : decode cL_law 1055 = .ok (.iaload, 1) := by decide +kernel
theorem dL_law_1056 : decode cL_law 1056 = .ok (.aload_n 0, 1) := by decide +kernel
theorem dL_law_1057 : decode cL_law 1057 = .ok (.iload_n 3, 1) := by decide +kernel
theorem dL_law_1058 : decode cL_law 1058 = .ok (.iconst 3, 1) := by decide +kernel
theorem dL_law_1059 : decode cL_law 1059 = .ok (.iadd, 1) := by decide +kernel
theorem dL_law_1060 : decode cL_law 1060 = .ok (.iaload, 1) := by decide +kernel
theorem dL_law_1061 : decode cL_law 1061 = .ok (.invokevirtual 115, 3) := by decide +kernel
theorem dL_law_1064 : decode cL_law 1064 = .ok (.if_icmp .eq 267, 3) := by decide +kernel
theorem dL_law_1067 : decode cL_law 1067 = .ok (.iconst 0, 1) := by decide +kernel
theorem dL_law_1068 : decode cL_law 1068 = .ok (.ireturn, 1) := by decide +kernel
theorem dL_law_1069 : decode cL_law 1069 = .ok (.aload_n 1, 1) := by decide +kernel
theorem dL_law_1070 : decode cL_law 1070 = .ok (.aload_n 0, 1) := by decide +kernel
theorem dL_law_1071 : decode cL_law 1071 = .ok (.iload_n 3, 1) := by decide +kernel
theorem dL_law_1072 : decode cL_law 1072 = .ok (.iconst 1, 1) := by decide +kernel
theorem dL_law_1073 : decode cL_law 1073 = .ok (.iadd, 1) := by decide +kernel
theorem dL_law_1074 : decode cL_law 1074 = .ok (.iaload, 1) := by decide +kernel
theorem dL_law_1075 : decode cL_law 1075 = .ok (.aload_n 0, 1) := by decide +kernel
theorem dL_law_1076 : decode cL_law 1076 = .ok (.iload_n 3, 1) := by decide +kernel
theorem dL_law_1077 : decode cL_law 1077 = .ok (.iconst 2, 1) := by decide +kernel
theorem dL_law_1078 : decode cL_law 1078 = .ok (.iadd, 1) := by decide +kernel
theorem dL_law_1079 : decode cL_law 1079 = .ok (.iaload, 1) := by decide +kernel
theorem dL_law_1080 : decode cL_law 1080 = .ok (.invokevirtual 116, 3) := by decide +kernel
theorem dL_law_1083 : decode cL_law 1083 = .ok (.aload_n 2, 1) := by decide +kernel
theorem dL_law_1084 : decode cL_law 1084 = .ok (.aload_n 0, 1) := by decide +kernel
theorem dL_law_1085 : decode cL_law 1085 = .ok (.iload_n 3, 1) := by decide +kernel
theorem dL_law_1086 : decode cL_law 1086 = .ok (.iconst 1, 1) := by decide +kernel
theorem dL_law_1087 : decode cL_law 1087 = .ok (.iadd, 1) := by decide +kernel
theorem dL_law_1088 : decode cL_law 1088 = .ok (.iaload, 1) := by decide +kernel
theorem dL_law_1089 : decode cL_law 1089 = .ok (.aload_n 0, 1) := by decide +kernel
theorem dL_law_1090 : decode cL_law 1090 = .ok (.iload_n 3, 1) := by decide +kernel
theorem dL_law_1091 : decode cL_law 1091 = .ok (.iconst 2, 1) := by decide +kernel
theorem dL_law_1092 : decode cL_law 1092 = .ok (.iadd, 1) := by decide +kernel
theorem dL_law_1093 : decode cL_law 1093 = .ok (.iaload, 1) := by decide +kernel
theorem dL_law_1094 : decode cL_law 1094 = .ok (.invokevirtual 119, 3) := by decide +kernel
theorem dL_law_1097 : decode cL_law 1097 = .ok (.if_icmp .eq 234, 3) := by decide +kernel
theorem dL_law_1100 : decode cL_law 1100 = .ok (.iconst 0, 1) := by decide +kernel
theorem dL_law_1101 : decode cL_law 1101 = .ok (.ireturn, 1) := by decide +kernel
theorem dL_law_1102 : decode cL_law 1102 = .ok (.aload_n 1, 1) := by decide +kernel
theorem dL_law_1103 : decode cL_law 1103 = .ok (.aload_n 0, 1) := by decide +kernel
theorem dL_law_1104 : decode cL_law 1104 = .ok (.iload_n 3, 1) := by decide +kernel
theorem dL_law_1105 : decode cL_law 1105 = .ok (.iconst 1, 1) := by decide +kernel
theorem dL_law_1106 : decode cL_law 1106 = .ok (.iadd, 1) := by decide +kernel
theorem dL_law_1107 : decode cL_law 1107 = .ok (.iaload, 1) := by decide +kernel
theorem dL_law_1108 : decode cL_law 1108 = .ok (.aload_n 0, 1) := by decide +kernel
theorem dL_law_1109 : decode cL_law 1109 = .ok (.iload_n 3, 1) := by decide +kernel
theorem dL_law_1110 : decode cL_law 1110 = .ok (.iconst 2, 1) := by decide +kernel
theorem dL_law_1111 : decode cL_law 1111 = .ok (.iadd, 1) := by decide +kernel
theorem dL_law_1112 : decode cL_law 1112 = .ok (.iaload, 1) := by decide +kernel
theorem dL_law_1113 : decode cL_law 1113 = .ok (.invokevirtual 120, 3) := by decide +kernel
theorem dL_law_1116 : decode cL_law 1116 = .ok (.aload_n 2, 1) := by decide +kernel
theorem dL_law_1117 : decode cL_law 1117 = .ok (.aload_n 0, 1) := by decide +kernel
theorem dL_law_1118 : decode cL_law 1118 = .ok (.iload_n 3, 1) := by decide +kernel
theorem dL_law_1119 : decode cL_law 1119 = .ok (.iconst 1, 1) := by decide +kernel
theorem dL_law_1120 : decode cL_law 1120 = .ok (.iadd, 1) := by decide +kernel
theorem dL_law_1121 : decode cL_law 1121 = .ok (.iaload, 1) := by decide +kernel
theorem dL_law_1122 : decode cL_law 1122 = .ok (.aload_n 0, 1) := by decide +kernel
theorem dL_law_1123 : decode cL_law 1123 = .ok (.iload_n 3, 1) := by decide +kernel
theorem dL_law_1124 : decode cL_law 1124 = .ok (.iconst 2, 1) := by decide +kernel
theorem dL_law_1125 : decode cL_law 1125 = .ok (.iadd, 1) := by decide +kernel
theorem dL_law_1126 : decode cL_law 1126 = .ok (.iaload, 1) := by decide +kernel
theorem dL_law_1127 : decode cL_law 1127 = .ok (.invokevirtual 123, 3) := by decide +kernel
theorem dL_law_1130 : decode cL_law 1130 = .ok (.if_icmp .eq 201, 3) := by decide +kernel
theorem dL_law_1133 : decode cL_law 1133 = .ok (.iconst 0, 1) := by decide +kernel
theorem dL_law_1134 : decode cL_law 1134 = .ok (.ireturn, 1) := by decide +kernel
theorem dL_law_1135 : decode cL_law 1135 = .ok (.aload_n 1, 1) := by decide +kernel
theorem dL_law_1136 : decode cL_law 1136 = .ok (.aload_n 0, 1) := by decide +kernel
theorem dL_law_1137 : decode cL_law 1137 = .ok (.iload_n 3, 1) := by decide +kernel
theorem dL_law_1138 : decode cL_law 1138 = .ok (.iconst 1, 1) := by decide +kernel
theorem dL_law_1139 : decode cL_law 1139 = .ok (.iadd, 1) := by decide +kernel
theorem dL_law_1140 : decode cL_law 1140 = .ok (.iaload, 1) := by decide +kernel
theorem dL_law_1141 : decode cL_law 1141 = .ok (.aload_n 0, 1) := by decide +kernel
theorem dL_law_1142 : decode cL_law 1142 = .ok (.iload_n 3, 1) := by decide +kernel
theorem dL_law_1143 : decode cL_law 1143 = .ok (.iconst 2, 1) := by decide +kernel
theorem dL_law_1144 : decode cL_law 1144 = .ok (.iadd, 1) := by decide +kernel
theorem dL_law_1145 : decode cL_law 1145 = .ok (.iaload, 1) := by decide +kernel
theorem dL_law_1146 : decode cL_law 1146 = .ok (.invokevirtual 124, 3) := by decide +kernel
theorem dL_law_1149 : decode cL_law 1149 = .ok (.aload_n 2, 1) := by decide +kernel
theorem dL_law_1150 : decode cL_law 1150 = .ok (.aload_n 0, 1) := by decide +kernel
theorem dL_law_1151 : decode cL_law 1151 = .ok (.iload_n 3, 1) := by decide +kernel
theorem dL_law_1152 : decode cL_law 1152 = .ok (.iconst 1, 1) := by decide +kernel
theorem dL_law_1153 : decode cL_law 1153 = .ok (.iadd, 1) := by decide +kernel
theorem dL_law_1154 : decode cL_law 1154 = .ok (.iaload, 1) := by decide +kernel
theorem dL_law_1155 : decode cL_law 1155 = .ok (.aload_n 0, 1) := by decide +kernel
theorem dL_law_1156 : decode cL_law 1156 = .ok (.iload_n 3, 1) := by decide +kernel
theorem dL_law_1157 : decode cL_law 1157 = .ok (.iconst 2, 1) := by decide +kernel
theorem dL_law_1158 : decode cL_law 1158 = .ok (.iadd, 1) := by decide +kernel
theorem dL_law_1159 : decode cL_law 1159 = .ok (.iaload, 1) := by decide +kernel
theorem dL_law_1160 : decode cL_law 1160 = .ok (.invokevirtual 127, 3) := by decide +kernel
theorem dL_law_1163 : decode cL_law 1163 = .ok (.if_icmp .eq 168, 3) := by decide +kernel
theorem dL_law_1166 : decode cL_law 1166 = .ok (.iconst 0, 1) := by decide +kernel
theorem dL_law_1167 : decode cL_law 1167 = .ok (.ireturn, 1) := by decide +kernel
theorem dL_law_1168 : decode cL_law 1168 = .ok (.aload_n 1, 1) := by decide +kernel
theorem dL_law_1169 : decode cL_law 1169 = .ok (.aload_n 0, 1) := by decide +kernel
theorem dL_law_1170 : decode cL_law 1170 = .ok (.iload_n 3, 1) := by decide +kernel
theorem dL_law_1171 : decode cL_law 1171 = .ok (.iconst 1, 1) := by decide +kernel
theorem dL_law_1172 : decode cL_law 1172 = .ok (.iadd, 1) := by decide +kernel
theorem dL_law_1173 : decode cL_law 1173 = .ok (.iaload, 1) := by decide +kernel
theorem dL_law_1174 : decode cL_law 1174 = .ok (.aload_n 0, 1) := by decide +kernel
theorem dL_law_1175 : decode cL_law 1175 = .ok (.iload_n 3, 1) := by decide +kernel
theorem dL_law_1176 : decode cL_law 1176 = .ok (.iconst 2, 1) := by decide +kernel
theorem dL_law_1177 : decode cL_law 1177 = .ok (.iadd, 1) := by decide +kernel
theorem dL_law_1178 : decode cL_law 1178 = .ok (.iaload, 1) := by decide +kernel
theorem dL_law_1179 : decode cL_law 1179 = .ok (.invokevirtual 128, 3) := by decide +kernel
theorem dL_law_1182 : decode cL_law 1182 = .ok (.aload_n 2, 1) := by decide +kernel
theorem dL_law_1183 : decode cL_law 1183 = .ok (.aload_n 0, 1) := by decide +kernel
theorem dL_law_1184 : decode cL_law 1184 = .ok (.iload_n 3, 1) := by decide +kernel
theorem dL_law_1185 : decode cL_law 1185 = .ok (.iconst 1, 1) := by decide +kernel
theorem dL_law_1186 : decode cL_law 1186 = .ok (.iadd, 1) := by decide +kernel
theorem dL_law_1187 : decode cL_law 1187 = .ok (.iaload, 1) := by decide +kernel
theorem dL_law_1188 : decode cL_law 1188 = .ok (.aload_n 0, 1) := by decide +kernel
theorem dL_law_1189 : decode cL_law 1189 = .ok (.iload_n 3, 1) := by decide +kernel
theorem dL_law_1190 : decode cL_law 1190 = .ok (.iconst 2, 1) := by decide +kernel
theorem dL_law_1191 : decode cL_law 1191 = .ok (.iadd, 1) := by decide +kernel
theorem dL_law_1192 : decode cL_law 1192 = .ok (.iaload, 1) := by decide +kernel
theorem dL_law_1193 : decode cL_law 1193 = .ok (.invokevirtual 131, 3) := by decide +kernel
theorem dL_law_1196 : decode cL_law 1196 = .ok (.if_icmp .eq 135, 3) := by decide +kernel
theorem dL_law_1199 : decode cL_law 1199 = .ok (.iconst 0, 1) := by decide +kernel
theorem dL_law_1200 : decode cL_law 1200 = .ok (.ireturn, 1) := by decide +kernel
theorem dL_law_1201 : decode cL_law 1201 = .ok (.aload_n 1, 1) := by decide +kernel
theorem dL_law_1202 : decode cL_law 1202 = .ok (.invokevirtual 132, 3) := by decide +kernel
theorem dL_law_1205 : decode cL_law 1205 = .ok (.aload_n 2, 1) := by decide +kernel
theorem dL_law_1206 : decode cL_law 1206 = .ok (.invokevirtual 135, 3) := by decide +kernel
theorem dL_law_1209 : decode cL_law 1209 = .ok (.if_icmp .eq 122, 3) := by decide +kernel
theorem dL_law_1212 : decode cL_law 1212 = .ok (.iconst 0, 1) := by decide +kernel
theorem dL_law_1213 : decode cL_law 1213 = .ok (.ireturn, 1) := by decide +kernel
theorem dL_law_1214 : decode cL_law 1214 = .ok (.aload_n 1, 1) := by decide +kernel
theorem dL_law_1215 : decode cL_law 1215 = .ok (.aload_n 0, 1) := by decide +kernel
theorem dL_law_1216 : decode cL_law 1216 = .ok (.iload_n 3, 1) := by decide +kernel
theorem dL_law_1217 : decode cL_law 1217 = .ok (.iconst 1, 1) := by decide +kernel
theorem dL_law_1218 : decode cL_law 1218 = .ok (.iadd, 1) := by decide +kernel
theorem dL_law_1219 : decode cL_law 1219 = .ok (.iaload, 1) := by decide +kernel
theorem dL_law_1220 : decode cL_law 1220 = .ok (.aload_n 0, 1) := by decide +kernel
theorem dL_law_1221 : decode cL_law 1221 = .ok (.iload_n 3, 1) := by decide +kernel
theorem dL_law_1222 : decode cL_law 1222 = .ok (.iconst 2, 1) := by decide +kernel
theorem dL_law_1223 : decode cL_law 1223 = .ok (.iadd, 1) := by decide +kernel
theorem dL_law_1224 : decode cL_law 1224 = .ok (.iaload, 1) := by decide +kernel
theorem dL_law_1225 : decode cL_law 1225 = .ok (.invokevirtual 136, 3) := by decide +kernel
theorem dL_law_1228 : decode cL_law 1228 = .ok (.aload_n 2, 1) := by decide +kernel
theorem dL_law_1229 : decode cL_law 1229 = .ok (.aload_n 0, 1) := by decide +kernel
theorem dL_law_1230 : decode cL_law 1230 = .ok (.iload_n 3, 1) := by decide +kernel
theorem dL_law_1231 : decode cL_law 1231 = .ok (.iconst 1, 1) := by decide +kernel
theorem dL_law_1232 : decode cL_law 1232 = .ok (.iadd, 1) := by decide +kernel
theorem dL_law_1233 : decode cL_law 1233 = .ok (.iaload, 1) := by decide +kernel
theorem dL_law_1234 : decode cL_law 1234 = .ok (.aload_n 0, 1) := by decide +kernel
theorem dL_law_1235 : decode cL_law 1235 = .ok (.iload_n 3, 1) := by decide +kernel
theorem dL_law_1236 : decode cL_law 1236 = .ok (.iconst 2, 1) := by decide +kernel
theorem dL_law_1237 : decode cL_law 1237 = .ok (.iadd, 1) := by decide +kernel
theorem dL_law_1238 : decode cL_law 1238 = .ok (.iaload, 1) := by decide +kernel
theorem dL_law_1239 : decode cL_law 1239 = .ok (.invokevirtual 139, 3) := by decide +kernel
theorem dL_law_1242 : decode cL_law 1242 = .ok (.if_icmp .eq 89, 3) := by decide +kernel
theorem dL_law_1245 : decode cL_law 1245 = .ok (.iconst 0, 1) := by decide +kernel
theorem dL_law_1246 : decode cL_law 1246 = .ok (.ireturn, 1) := by decide +kernel
theorem dL_law_1247 : decode cL_law 1247 = .ok (.aload_n 1, 1) := by decide +kernel
theorem dL_law_1248 : decode cL_law 1248 = .ok (.invokevirtual 140, 3) := by decide +kernel
theorem dL_law_1251 : decode cL_law 1251 = .ok (.aload_n 2, 1) := by decide +kernel
theorem dL_law_1252 : decode cL_law 1252 = .ok (.invokevirtual 144, 3) := by decide +kernel
theorem dL_law_1255 : decode cL_law 1255 = .ok (.if_icmp .eq 76, 3) := by decide +kernel
theorem dL_law_1258 : decode cL_law 1258 = .ok (.iconst 0, 1) := by decide +kernel
theorem dL_law_1259 : decode cL_law 1259 = .ok (.ireturn, 1) := by decide +kernel
theorem dL_law_1260 : decode cL_law 1260 = .ok (.aload_n 1, 1) := by decide +kernel
theorem dL_law_1261 : decode cL_law 1261 = .ok (.aload_n 0, 1) := by decide +kernel
theorem dL_law_1262 : decode cL_law 1262 = .ok (.iload_n 3, 1) := by decide +kernel
theorem dL_law_1263 : decode cL_law 1263 = .ok (.iconst 1, 1) := by decide +kernel
theorem dL_law_1264 : decode cL_law 1264 = .ok (.iadd, 1) := by decide +kernel
theorem dL_law_1265 : decode cL_law 1265 = .ok (.iaload, 1) := by decide +kernel
theorem dL_law_1266 : decode cL_law 1266 = .ok (.aload_n 0, 1) := by decide +kernel
theorem dL_law_1267 : decode cL_law 1267 = .ok (.iload_n 3, 1) := by decide +kernel
theorem dL_law_1268 : decode cL_law 1268 = .ok (.iconst 2, 1) := by decide +kernel
theorem dL_law_1269 : decode cL_law 1269 = .ok (.iadd, 1) := by decide +kernel
theorem dL_law_1270 : decode cL_law 1270 = .ok (.iaload, 1) := by decide +kernel
theorem dL_law_1271 : decode cL_law 1271 = .ok (.aload_n 0, 1) := by decide +kernel
theorem dL_law_1272 : decode cL_law 1272 = .ok (.iload_n 3, 1) := by decide +kernel
theorem dL_law_1273 : decode cL_law 1273 = .ok (.iconst 3, 1) := by decide +kernel
theorem dL_law_1274 : decode cL_law 1274 = .ok (.iadd, 1) := by decide +kernel
theorem dL_law_1275 : decode cL_law 1275 = .ok (.iaload, 1) := by decide +kernel
theorem dL_law_1276 : decode cL_law 1276 = .ok (.invokevirtual 145, 3) := by decide +kernel
theorem dL_law_1279 : decode cL_law 1279 = .ok (.aload_n 2, 1) := by decide +kernel
theorem dL_law_1280 : decode cL_law 1280 = .ok (.aload_n 0, 1) := by decide +kernel
theorem dL_law_1281 : decode cL_law 1281 = .ok (.iload_n 3, 1) := by decide +kernel
theorem dL_law_1282 : decode cL_law 1282 = .ok (.iconst 1, 1) := by decide +kernel
theorem dL_law_1283 : decode cL_law 1283 = .ok (.iadd, 1) := by decide +kernel
theorem dL_law_1284 : decode cL_law 1284 = .ok (.iaload, 1) := by decide +kernel
theorem dL_law_1285 : decode cL_law 1285 = .ok (.aload_n 0, 1) := by decide +kernel
theorem dL_law_1286 : decode cL_law 1286 = .ok (.iload_n 3, 1) := by decide +kernel
theorem dL_law_1287 : decode cL_law 1287 = .ok (.iconst 2, 1) := by decide +kernel
theorem dL_law_1288 : decode cL_law 1288 = .ok (.iadd, 1) := by decide +kernel
theorem dL_law_1289 : decode cL_law 1289 = .ok (.iaload, 1) := by decide +kernel
theorem dL_law_1290 : decode cL_law 1290 = .ok (.aload_n 0, 1) := by decide +kernel
theorem dL_law_1291 : decode cL_law 1291 = .ok (.iload_n 3, 1) := by decide +kernel
theorem dL_law_1292 : decode cL_law 1292 = .ok (.iconst 3, 1) := by decide +kernel
theorem dL_law_1293 : decode cL_law 1293 = .ok (.iadd, 1) := by decide +kernel
theorem dL_law_1294 : decode cL_law 1294 = .ok (.iaload, 1) := by decide +kernel
theorem dL_law_1295 : decode cL_law 1295 = .ok (.invokevirtual 148, 3) := by decide +kernel
theorem dL_law_1298 : decode cL_law 1298 = .ok (.if_icmp .eq 33, 3) := by decide +kernel
theorem dL_law_1301 : decode cL_law 1301 = .ok (.iconst 0, 1) := by decide +kernel
theorem dL_law_1302 : decode cL_law 1302 = .ok (.ireturn, 1) := by decide +kernel
theorem dL_law_1303 : decode cL_law 1303 = .ok (.aload_n 1, 1) := by decide +kernel
theorem dL_law_1304 : decode cL_law 1304 = .ok (.invokevirtual 149, 3) := by decide +kernel
theorem dL_law_1307 : decode cL_law 1307 = .ok (.aload_n 2, 1) := by decide +kernel
theorem dL_law_1308 : decode cL_law 1308 = .ok (.invokevirtual 153, 3) := by decide +kernel
theorem dL_law_1311 : decode cL_law 1311 = .ok (.lcmp, 1) := by decide +kernel
theorem dL_law_1312 : decode cL_law 1312 = .ok (.ifCond .eq 19, 3) := by decide +kernel
theorem dL_law_1315 : decode cL_law 1315 = .ok (.iconst 0, 1) := by decide +kernel
theorem dL_law_1316 : decode cL_law 1316 = .ok (.ireturn, 1) := by decide +kernel
theorem dL_law_1317 : decode cL_law 1317 = .ok (.aload_n 1, 1) := by decide +kernel
theorem dL_law_1318 : decode cL_law 1318 = .ok (.invokevirtual 154, 3) := by decide +kernel
theorem dL_law_1321 : decode cL_law 1321 = .ok (.aload_n 2, 1) := by decide +kernel
theorem dL_law_1322 : decode cL_law 1322 = .ok (.invokevirtual 157, 3) := by decide +kernel
theorem dL_law_1325 : decode cL_law 1325 = .ok (.lcmp, 1) := by decide +kernel
theorem dL_law_1326 : decode cL_law 1326 = .ok (.ifCond .eq 5, 3) := by decide +kernel
theorem dL_law_1329 : decode cL_law 1329 = .ok (.iconst 0, 1) := by decide +kernel
theorem dL_law_1330 : decode cL_law 1330 = .ok (.ireturn, 1) := by decide +kernel
theorem dL_law_1331 : decode cL_law 1331 = .ok (.iinc 3 6, 3) := by decide +kernel
theorem dL_law_1334 : decode cL_law 1334 = .ok (.goto (-1316), 3) := by decide +kernel
theorem dL_law_1337 : decode cL_law 1337 = .ok (.iconst 1, 1) := by decide +kernel
theorem dL_law_1338 : decode cL_law 1338 = .ok (.ireturn, 1) := by decide +kernel
end
section
theorem wf_X0_11 : Cond.fieldLink RX0 11 "BoxArchive$Catalogue" "things" "[LBoxArchive$Thing;" ∈ uw := uw_in 67 (by decide +kernel)
theorem wf_X7_219 : Cond.fieldLink RX7 219 "BoxArchive$Catalogue" "things" "[LBoxArchive$Thing;" ∈ uw := uw_in 68 (by decide +kernel)
theorem wf_X0_17 : Cond.fieldLink RX0 17 "BoxArchive$Catalogue" "size" "I" ∈ uw := uw_in 69 (by decide +kernel)
theorem wf_X7_119 : Cond.fieldLink RX7 119 "BoxArchive$Catalogue" "size" "I" ∈ uw := uw_in 70 (by decide +kernel)
theorem wf_X0_21 : Cond.fieldLink RX0 21 "BoxArchive$Catalogue" "byMark" "[LBoxArchive$Thing;" ∈ uw := uw_in 71 (by decide +kernel)
theorem wf_X7_234 : Cond.fieldLink RX7 234 "BoxArchive$Catalogue" "byMark" "[LBoxArchive$Thing;" ∈ uw := uw_in 72 (by decide +kernel)
theorem wf_X0_24 : Cond.fieldLink RX0 24 "BoxArchive$Catalogue" "pieceMet" "[Z" ∈ uw := uw_in 73 (by decide +kernel)
theorem wf_X2_9 : Cond.fieldLink RX2 9 "BoxArchive$Log" "things" "[I" ∈ uw := uw_in 90 (by decide +kernel)
theorem wf_X2_15 : Cond.fieldLink RX2 15 "BoxArchive$Log" "persons" "[I" ∈ uw := uw_in 91 (by decide +kernel)
theorem wf_X2_18 : Cond.fieldLink RX2 18 "BoxArchive$Log" "ticks" "[I" ∈ uw := uw_in 92 (by decide +kernel)
theorem wf_X2_21 : Cond.fieldLink RX2 21 "BoxArchive$Log" "size" "I" ∈ uw := uw_in 93 (by decide +kernel)
theorem wf_X1_9 : Cond.fieldLink RX1 9 "BoxArchive$Layout" "placeOf" "[I" ∈ uw := uw_in 119 (by decide +kernel)
theorem wf_X4_73 : Cond.fieldLink RX4 73 "BoxArchive$Layout" "placeOf" "[I" ∈ uw := uw_in 120 (by decide +kernel)
theorem wf_X7_147 : Cond.fieldLink RX7 147 "BoxArchive$Layout" "placeOf" "[I" ∈ uw := uw_in 121 (by decide +kernel)
theorem wf_X1_15 : Cond.fieldLink RX1 15 "BoxArchive$Layout" "boxIn" "[I" ∈ uw := uw_in 122 (by decide +kernel)
theorem wf_X4_70 : Cond.fieldLink RX4 70 "BoxArchive$Layout" "boxIn" "[I" ∈ uw := uw_in 123 (by decide +kernel)
theorem wf_X4_12 : Cond.fieldLink RX4 12 "BoxArchive$Shelves" "now" "LBoxArchive$Layout;" ∈ uw := uw_in 130 (by decide +kernel)
theorem wf_X7_143 : Cond.fieldLink RX7 143 "BoxArchive$Shelves" "now" "LBoxArchive$Layout;" ∈ uw := uw_in 131 (by decide +kernel)
theorem wf_X4_18 : Cond.fieldLink RX4 18 "BoxArchive$Shelves" "later" "LBoxArchive$Layout;" ∈ uw := uw_in 132 (by decide +kernel)
theorem wf_X7_273 : Cond.fieldLink RX7 273 "BoxArchive$Shelves" "later" "LBoxArchive$Layout;" ∈ uw := uw_in 133 (by decide +kernel)
theorem wf_X4_21 : Cond.fieldLink RX4 21 "BoxArchive$Shelves" "goalOf" "[I" ∈ uw := uw_in 134 (by decide +kernel)
theorem wf_X7_153 : Cond.fieldLink RX7 153 "BoxArchive$Shelves" "goalOf" "[I" ∈ uw := uw_in 135 (by decide +kernel)
theorem wf_X4_25 : Cond.fieldLink RX4 25 "BoxArchive$Shelves" "carryBox" "[I" ∈ uw := uw_in 136 (by decide +kernel)
theorem wf_X7_264 : Cond.fieldLink RX7 264 "BoxArchive$Shelves" "carryBox" "[I" ∈ uw := uw_in 137 (by decide +kernel)
theorem wf_X4_28 : Cond.fieldLink RX4 28 "BoxArchive$Shelves" "carryFrom" "[I" ∈ uw := uw_in 138 (by decide +kernel)
theorem wf_X7_267 : Cond.fieldLink RX7 267 "BoxArchive$Shelves" "carryFrom" "[I" ∈ uw := uw_in 139 (by decide +kernel)
theorem wf_X4_31 : Cond.fieldLink RX4 31 "BoxArchive$Shelves" "carryTo" "[I" ∈ uw := uw_in 140 (by decide +kernel)
theorem wf_X7_270 : Cond.fieldLink RX7 270 "BoxArchive$Shelves" "carryTo" "[I" ∈ uw := uw_in 141 (by decide +kernel)
theorem wf_X4_34 : Cond.fieldLink RX4 34 "BoxArchive$Shelves" "carries" "I" ∈ uw := uw_in 142 (by decide +kernel)
theorem wf_X7_261 : Cond.fieldLink RX7 261 "BoxArchive$Shelves" "carries" "I" ∈ uw := uw_in 143 (by decide +kernel)
theorem wf_X3_9 : Cond.fieldLink RX3 9 "BoxArchive$Search" "order" "[I" ∈ uw := uw_in 165 (by decide +kernel)
theorem wf_X7_298 : Cond.fieldLink RX7 298 "BoxArchive$Search" "order" "[I" ∈ uw := uw_in 166 (by decide +kernel)
theorem wf_X3_15 : Cond.fieldLink RX3 15 "BoxArchive$Search" "weight" "[J" ∈ uw := uw_in 167 (by decide +kernel)
theorem wf_X3_19 : Cond.fieldLink RX3 19 "BoxArchive$Search" "cost" "[J" ∈ uw := uw_in 168 (by decide +kernel)
theorem wf_X3_22 : Cond.fieldLink RX3 22 "BoxArchive$Search" "many" "I" ∈ uw := uw_in 169 (by decide +kernel)
theorem wf_X6_9 : Cond.fieldLink RX6 9 "BoxArchive$Tray" "numbers" "[J" ∈ uw := uw_in 185 (by decide +kernel)
theorem wf_X7_87 : Cond.fieldLink RX7 87 "BoxArchive$Tray" "numbers" "[J" ∈ uw := uw_in 186 (by decide +kernel)
theorem wf_X6_15 : Cond.fieldLink RX6 15 "BoxArchive$Tray" "sort" "I" ∈ uw := uw_in 187 (by decide +kernel)
theorem wf_X7_94 : Cond.fieldLink RX7 94 "BoxArchive$Tray" "sort" "I" ∈ uw := uw_in 188 (by decide +kernel)
theorem wf_X6_19 : Cond.fieldLink RX6 19 "BoxArchive$Tray" "length" "I" ∈ uw := uw_in 189 (by decide +kernel)
theorem wf_X7_11 : Cond.fieldLink RX7 11 "BoxArchive" "trays" "[LBoxArchive$Tray;" ∈ uw := uw_in 197 (by decide +kernel)
theorem wf_X7_18 : Cond.fieldLink RX7 18 "BoxArchive" "catalogue" "LBoxArchive$Catalogue;" ∈ uw := uw_in 198 (by decide +kernel)
theorem wf_X7_25 : Cond.fieldLink RX7 25 "BoxArchive" "log" "LBoxArchive$Log;" ∈ uw := uw_in 199 (by decide +kernel)
theorem wf_X7_32 : Cond.fieldLink RX7 32 "BoxArchive" "shelves" "LBoxArchive$Shelves;" ∈ uw := uw_in 200 (by decide +kernel)
theorem wf_X7_39 : Cond.fieldLink RX7 39 "BoxArchive" "best" "LBoxArchive$Search;" ∈ uw := uw_in 201 (by decide +kernel)
theorem wf_X7_43 : Cond.fieldLink RX7 43 "BoxArchive" "latestStatus" "I" ∈ uw := uw_in 202 (by decide +kernel)
theorem wf_X7_47 : Cond.fieldLink RX7 47 "BoxArchive" "fractionUpper" "J" ∈ uw := uw_in 203 (by decide +kernel)
theorem wf_X7_51 : Cond.fieldLink RX7 51 "BoxArchive" "fractionLower" "J" ∈ uw := uw_in 204 (by decide +kernel)
theorem wf_X5_34 : Cond.fieldLink RX5 34 "BoxArchive$Thing" "number" "I" ∈ uw := uw_in 315 (by decide +kernel)
theorem wf_X7_133 : Cond.fieldLink RX7 133 "BoxArchive$Thing" "number" "I" ∈ uw := uw_in 316 (by decide +kernel)
theorem wf_X5_37 : Cond.fieldLink RX5 37 "BoxArchive$Thing" "level" "I" ∈ uw := uw_in 317 (by decide +kernel)
theorem wf_X7_111 : Cond.fieldLink RX7 111 "BoxArchive$Thing" "level" "I" ∈ uw := uw_in 318 (by decide +kernel)
theorem wf_X0_74 : Cond.fieldLink RX0 74 "BoxArchive$Thing" "level" "I" ∈ uw := uw_in 319 (by decide +kernel)
theorem wf_X5_40 : Cond.fieldLink RX5 40 "BoxArchive$Thing" "above" "LBoxArchive$Thing;" ∈ uw := uw_in 320 (by decide +kernel)
theorem wf_X0_31 : Cond.fieldLink RX0 31 "BoxArchive$Thing" "above" "LBoxArchive$Thing;" ∈ uw := uw_in 321 (by decide +kernel)
theorem wf_X7_129 : Cond.fieldLink RX7 129 "BoxArchive$Thing" "above" "LBoxArchive$Thing;" ∈ uw := uw_in 322 (by decide +kernel)
theorem wf_X5_9 : Cond.fieldLink RX5 9 "BoxArchive$Thing" "said" "[I" ∈ uw := uw_in 323 (by decide +kernel)
theorem wf_X7_162 : Cond.fieldLink RX7 162 "BoxArchive$Thing" "said" "[I" ∈ uw := uw_in 324 (by decide +kernel)
theorem wf_X5_15 : Cond.fieldLink RX5 15 "BoxArchive$Thing" "from" "I" ∈ uw := uw_in 325 (by decide +kernel)
theorem wf_X0_42 : Cond.fieldLink RX0 42 "BoxArchive$Thing" "from" "I" ∈ uw := uw_in 326 (by decide +kernel)
theorem wf_X7_169 : Cond.fieldLink RX7 169 "BoxArchive$Thing" "from" "I" ∈ uw := uw_in 327 (by decide +kernel)
theorem wf_X5_19 : Cond.fieldLink RX5 19 "BoxArchive$Thing" "to" "I" ∈ uw := uw_in 328 (by decide +kernel)
theorem wf_X0_39 : Cond.fieldLink RX0 39 "BoxArchive$Thing" "to" "I" ∈ uw := uw_in 329 (by decide +kernel)
theorem wf_X7_172 : Cond.fieldLink RX7 172 "BoxArchive$Thing" "to" "I" ∈ uw := uw_in 330 (by decide +kernel)
theorem wf_X5_22 : Cond.fieldLink RX5 22 "BoxArchive$Thing" "uncatalogued" "I" ∈ uw := uw_in 331 (by decide +kernel)
theorem wf_X7_140 : Cond.fieldLink RX7 140 "BoxArchive$Thing" "uncatalogued" "I" ∈ uw := uw_in 332 (by decide +kernel)
theorem wf_X0_71 : Cond.fieldLink RX0 71 "BoxArchive$Thing" "uncatalogued" "I" ∈ uw := uw_in 333 (by decide +kernel)
theorem wf_X5_25 : Cond.fieldLink RX5 25 "BoxArchive$Thing" "closedUntil" "I" ∈ uw := uw_in 334 (by decide +kernel)
theorem wf_X7_193 : Cond.fieldLink RX7 193 "BoxArchive$Thing" "closedUntil" "I" ∈ uw := uw_in 335 (by decide +kernel)
theorem wf_X5_28 : Cond.fieldLink RX5 28 "BoxArchive$Thing" "closedBut" "I" ∈ uw := uw_in 336 (by decide +kernel)
theorem wf_X7_196 : Cond.fieldLink RX7 196 "BoxArchive$Thing" "closedBut" "I" ∈ uw := uw_in 337 (by decide +kernel)
theorem wf_X5_31 : Cond.fieldLink RX5 31 "BoxArchive$Thing" "oldMark" "I" ∈ uw := uw_in 338 (by decide +kernel)
theorem wf_X7_156 : Cond.fieldLink RX7 156 "BoxArchive$Thing" "oldMark" "I" ∈ uw := uw_in 339 (by decide +kernel)
theorem wf_X0_84 : Cond.fieldLink RX0 84 "BoxArchive$Thing" "oldMark" "I" ∈ uw := uw_in 340 (by decide +kernel)
theorem wf_X5_44 : Cond.fieldLink RX5 44 "BoxArchive$Thing" "piece" "I" ∈ uw := uw_in 341 (by decide +kernel)
theorem wf_X0_64 : Cond.fieldLink RX0 64 "BoxArchive$Thing" "piece" "I" ∈ uw := uw_in 342 (by decide +kernel)
theorem wf_X7_185 : Cond.fieldLink RX7 185 "BoxArchive$Thing" "piece" "I" ∈ uw := uw_in 343 (by decide +kernel)
theorem wf_X8_97 : Cond.fieldLink RX8 97 "BoxArchiveModel" "status" "I" ∈ uw := uw_in 673 (by decide +kernel)
theorem wf_X8_93 : Cond.fieldLink RX8 93 "BoxArchiveModel" "thrown" "I" ∈ uw := uw_in 674 (by decide +kernel)
theorem wf_X8_209 : Cond.fieldLink RX8 209 "BoxArchiveModel" "above" "J" ∈ uw := uw_in 675 (by decide +kernel)
theorem wf_X8_7 : Cond.fieldLink RX8 7 "BoxArchiveModel" "under" "J" ∈ uw := uw_in 676 (by decide +kernel)
theorem wf_X8_13 : Cond.fieldLink RX8 13 "BoxArchiveModel" "traySort" "[I" ∈ uw := uw_in 677 (by decide +kernel)
theorem wf_X8_17 : Cond.fieldLink RX8 17 "BoxArchiveModel" "trayMany" "[I" ∈ uw := uw_in 678 (by decide +kernel)
theorem wf_X8_20 : Cond.fieldLink RX8 20 "BoxArchiveModel" "numbers" "[J" ∈ uw := uw_in 679 (by decide +kernel)
theorem wf_X8_118 : Cond.fieldLink RX8 118 "BoxArchiveModel" "things" "I" ∈ uw := uw_in 680 (by decide +kernel)
theorem wf_X8_24 : Cond.fieldLink RX8 24 "BoxArchiveModel" "level" "[I" ∈ uw := uw_in 681 (by decide +kernel)
theorem wf_X8_27 : Cond.fieldLink RX8 27 "BoxArchiveModel" "up" "[I" ∈ uw := uw_in 682 (by decide +kernel)
theorem wf_X8_30 : Cond.fieldLink RX8 30 "BoxArchiveModel" "counts" "[I" ∈ uw := uw_in 683 (by decide +kernel)
theorem wf_X8_33 : Cond.fieldLink RX8 33 "BoxArchiveModel" "piece" "[I" ∈ uw := uw_in 684 (by decide +kernel)
theorem wf_X8_36 : Cond.fieldLink RX8 36 "BoxArchiveModel" "said" "[I" ∈ uw := uw_in 685 (by decide +kernel)
theorem wf_X8_39 : Cond.fieldLink RX8 39 "BoxArchiveModel" "spanFrom" "[I" ∈ uw := uw_in 686 (by decide +kernel)
theorem wf_X8_42 : Cond.fieldLink RX8 42 "BoxArchiveModel" "spanTo" "[I" ∈ uw := uw_in 687 (by decide +kernel)
theorem wf_X8_45 : Cond.fieldLink RX8 45 "BoxArchiveModel" "closed" "[I" ∈ uw := uw_in 688 (by decide +kernel)
theorem wf_X8_48 : Cond.fieldLink RX8 48 "BoxArchiveModel" "but" "[I" ∈ uw := uw_in 689 (by decide +kernel)
theorem wf_X8_51 : Cond.fieldLink RX8 51 "BoxArchiveModel" "mark" "[I" ∈ uw := uw_in 690 (by decide +kernel)
theorem wf_X8_54 : Cond.fieldLink RX8 54 "BoxArchiveModel" "place" "[I" ∈ uw := uw_in 691 (by decide +kernel)
theorem wf_X8_57 : Cond.fieldLink RX8 57 "BoxArchiveModel" "goal" "[I" ∈ uw := uw_in 692 (by decide +kernel)
theorem wf_X8_60 : Cond.fieldLink RX8 60 "BoxArchiveModel" "heldFrom" "[I" ∈ uw := uw_in 693 (by decide +kernel)
theorem wf_X8_63 : Cond.fieldLink RX8 63 "BoxArchiveModel" "heldTo" "[I" ∈ uw := uw_in 694 (by decide +kernel)
theorem wf_X8_166 : Cond.fieldLink RX8 166 "BoxArchiveModel" "entries" "I" ∈ uw := uw_in 695 (by decide +kernel)
theorem wf_X8_66 : Cond.fieldLink RX8 66 "BoxArchiveModel" "entryThing" "[I" ∈ uw := uw_in 696 (by decide +kernel)
theorem wf_X8_69 : Cond.fieldLink RX8 69 "BoxArchiveModel" "entryPerson" "[I" ∈ uw := uw_in 697 (by decide +kernel)
theorem wf_X8_72 : Cond.fieldLink RX8 72 "BoxArchiveModel" "entryTick" "[I" ∈ uw := uw_in 698 (by decide +kernel)
theorem wf_X8_75 : Cond.fieldLink RX8 75 "BoxArchiveModel" "at" "[I" ∈ uw := uw_in 699 (by decide +kernel)
theorem wf_X8_78 : Cond.fieldLink RX8 78 "BoxArchiveModel" "stands" "[I" ∈ uw := uw_in 700 (by decide +kernel)
theorem wf_X8_81 : Cond.fieldLink RX8 81 "BoxArchiveModel" "carryBox" "[I" ∈ uw := uw_in 701 (by decide +kernel)
theorem wf_X8_84 : Cond.fieldLink RX8 84 "BoxArchiveModel" "carryFrom" "[I" ∈ uw := uw_in 702 (by decide +kernel)
theorem wf_X8_87 : Cond.fieldLink RX8 87 "BoxArchiveModel" "carryTo" "[I" ∈ uw := uw_in 703 (by decide +kernel)
theorem wf_X8_186 : Cond.fieldLink RX8 186 "BoxArchiveModel" "carries" "I" ∈ uw := uw_in 704 (by decide +kernel)
theorem wf_X8_90 : Cond.fieldLink RX8 90 "BoxArchiveModel" "order" "[I" ∈ uw := uw_in 705 (by decide +kernel)
theorem wl_L_9 : Cond.methodLink RL 9 yX7_init ∈ uw := uw_in 51 (by decide +kernel)
theorem wl_X7_3 : Cond.methodLink RX7 3 objectInit ∈ uw := uw_in 54 (by decide +kernel)
theorem wl_X0_3 : Cond.methodLink RX0 3 objectInit ∈ uw := uw_in 64 (by decide +kernel)
theorem wl_X2_3 : Cond.methodLink RX2 3 objectInit ∈ uw := uw_in 89 (by decide +kernel)
theorem wl_X7_31 : Cond.methodLink RX7 31 yX4_init ∈ uw := uw_in 106 (by decide +kernel)
theorem wl_X4_3 : Cond.methodLink RX4 3 objectInit ∈ uw := uw_in 109 (by decide +kernel)
theorem wl_X4_11 : Cond.methodLink RX4 11 yX1_init ∈ uw := uw_in 112 (by decide +kernel)
theorem wl_X1_3 : Cond.methodLink RX1 3 objectInit ∈ uw := uw_in 115 (by decide +kernel)
theorem wl_X1_18 : Cond.methodLink RX1 18 yJ7_fill_53178 ∈ uw := uw_in 116 (by decide +kernel)
theorem wl_X4_38 : Cond.methodLink RX4 38 yJ7_fill_53178 ∈ uw := uw_in 129 (by decide +kernel)
theorem wl_X3_3 : Cond.methodLink RX3 3 objectInit ∈ uw := uw_in 164 (by decide +kernel)
theorem wl_X6_3 : Cond.methodLink RX6 3 objectInit ∈ uw := uw_in 184 (by decide +kernel)
theorem wl_L_13 : Cond.methodLink RL 13 yX7_status ∈ uw := uw_in 222 (by decide +kernel)
theorem wl_L_18 : Cond.methodLink RL 18 yX7_tray ∈ uw := uw_in 226 (by decide +kernel)
theorem wl_X7_55 : Cond.methodLink RX7 55 yX7_trayAt ∈ uw := uw_in 230 (by decide +kernel)
theorem wl_X7_59 : Cond.methodLink RX7 59 yX7_within ∈ uw := uw_in 234 (by decide +kernel)
theorem wl_X7_63 : Cond.methodLink RX7 63 yX7_deny ∈ uw := uw_in 237 (by decide +kernel)
theorem wl_X7_67 : Cond.methodLink RX7 67 yX6_renew ∈ uw := uw_in 241 (by decide +kernel)
theorem wl_X6_22 : Cond.methodLink RX6 22 yJ7_fill_d0a16 ∈ uw := uw_in 245 (by decide +kernel)
theorem wl_X7_71 : Cond.methodLink RX7 71 yX7_grant ∈ uw := uw_in 248 (by decide +kernel)
theorem wl_L_25 : Cond.methodLink RL 25 yX7_write ∈ uw := uw_in 252 (by decide +kernel)
theorem wl_X7_75 : Cond.methodLink RX7 75 yX7_whyNotIn ∈ uw := uw_in 256 (by decide +kernel)
theorem wl_X7_91 : Cond.methodLink RX7 91 yX6_isMissing ∈ uw := uw_in 259 (by decide +kernel)
theorem wl_X7_223 : Cond.methodLink RX7 223 yX6_hasPlace ∈ uw := uw_in 263 (by decide +kernel)
theorem wl_X7_79 : Cond.methodLink RX7 79 yX6_put ∈ uw := uw_in 267 (by decide +kernel)
theorem wl_X6_28 : Cond.methodLink RX6 28 yX6_cut ∈ uw := uw_in 271 (by decide +kernel)
theorem wl_L_30 : Cond.methodLink RL 30 yX7_read ∈ uw := uw_in 275 (by decide +kernel)
theorem wl_X7_83 : Cond.methodLink RX7 83 yX7_refuse ∈ uw := uw_in 279 (by decide +kernel)
theorem wl_L_35 : Cond.methodLink RL 35 yX7_pour ∈ uw := uw_in 283 (by decide +kernel)
theorem wl_X7_97 : Cond.methodLink RX7 97 yX6_hasRun ∈ uw := uw_in 287 (by decide +kernel)
theorem wl_X7_101 : Cond.methodLink RX7 101 arraycopyName ∈ uw := uw_in 291 (by decide +kernel)
theorem wl_L_40 : Cond.methodLink RL 40 yX7_thing ∈ uw := uw_in 294 (by decide +kernel)
theorem wl_X7_107 : Cond.methodLink RX7 107 yX0_at ∈ uw := uw_in 298 (by decide +kernel)
theorem wl_X7_116 : Cond.methodLink RX7 116 yX7_mayBeIn ∈ uw := uw_in 302 (by decide +kernel)
theorem wl_X7_122 : Cond.methodLink RX7 122 yX0_add ∈ uw := uw_in 305 (by decide +kernel)
theorem wl_X0_28 : Cond.methodLink RX0 28 yX5_init ∈ uw := uw_in 310 (by decide +kernel)
theorem wl_X5_3 : Cond.methodLink RX5 3 objectInit ∈ uw := uw_in 313 (by decide +kernel)
theorem wl_X5_47 : Cond.methodLink RX5 47 yJ7_fill_53178 ∈ uw := uw_in 314 (by decide +kernel)
theorem wl_X7_126 : Cond.methodLink RX7 126 yX7_answer ∈ uw := uw_in 367 (by decide +kernel)
theorem wl_L_45 : Cond.methodLink RL 45 yX7_told ∈ uw := uw_in 371 (by decide +kernel)
theorem wl_X7_136 : Cond.methodLink RX7 136 yX0_rightIn ∈ uw := uw_in 375 (by decide +kernel)
theorem wl_L_49 : Cond.methodLink RL 49 yX7_say ∈ uw := uw_in 379 (by decide +kernel)
theorem wl_X7_159 : Cond.methodLink RX7 159 yX7_isField ∈ uw := uw_in 383 (by decide +kernel)
theorem wl_L_53 : Cond.methodLink RL 53 yX7_has ∈ uw := uw_in 386 (by decide +kernel)
theorem wl_X7_165 : Cond.methodLink RX7 165 yX5_saidInLine ∈ uw := uw_in 390 (by decide +kernel)
theorem wl_L_57 : Cond.methodLink RL 57 yX7_span ∈ uw := uw_in 394 (by decide +kernel)
theorem wl_L_61 : Cond.methodLink RL 61 yX7_noSpan ∈ uw := uw_in 399 (by decide +kernel)
theorem wl_X7_175 : Cond.methodLink RX7 175 yX5_hasSpan ∈ uw := uw_in 403 (by decide +kernel)
theorem wl_L_66 : Cond.methodLink RL 66 yX7_held ∈ uw := uw_in 407 (by decide +kernel)
theorem wl_X7_178 : Cond.methodLink RX7 178 yX0_heldDay ∈ uw := uw_in 411 (by decide +kernel)
theorem wl_X0_35 : Cond.methodLink RX0 35 yX5_hasSpan ∈ uw := uw_in 415 (by decide +kernel)
theorem wl_X0_45 : Cond.methodLink RX0 45 yX5_showsSpanTo ∈ uw := uw_in 416 (by decide +kernel)
theorem wl_X5_53 : Cond.methodLink RX5 53 yX5_hasSpan ∈ uw := uw_in 420 (by decide +kernel)
theorem wl_X0_49 : Cond.methodLink RX0 49 yJ9_max_7cf53 ∈ uw := uw_in 421 (by decide +kernel)
theorem wl_X0_55 : Cond.methodLink RX0 55 yX0_earlier ∈ uw := uw_in 424 (by decide +kernel)
theorem wl_X0_58 : Cond.methodLink RX0 58 yJ9_min_7cf53 ∈ uw := uw_in 427 (by decide +kernel)
theorem wl_L_71 : Cond.methodLink RL 71 yX7_quarrel ∈ uw := uw_in 430 (by decide +kernel)
theorem wl_X7_182 : Cond.methodLink RX7 182 yX0_quarrelling ∈ uw := uw_in 434 (by decide +kernel)
theorem wl_X0_61 : Cond.methodLink RX0 61 yX5_hasQuarrel ∈ uw := uw_in 438 (by decide +kernel)
theorem wl_L_76 : Cond.methodLink RL 76 yX7_count ∈ uw := uw_in 442 (by decide +kernel)
theorem wl_L_81 : Cond.methodLink RL 81 yX7_join ∈ uw := uw_in 446 (by decide +kernel)
theorem wl_X7_188 : Cond.methodLink RX7 188 yX0_unite ∈ uw := uw_in 450 (by decide +kernel)
theorem wl_L_85 : Cond.methodLink RL 85 yX7_close ∈ uw := uw_in 454 (by decide +kernel)
theorem wl_L_89 : Cond.methodLink RL 89 yX7_sees ∈ uw := uw_in 460 (by decide +kernel)
theorem wl_X7_199 : Cond.methodLink RX7 199 yX7_isPerson ∈ uw := uw_in 464 (by decide +kernel)
theorem wl_X7_202 : Cond.methodLink RX7 202 yX7_isDay ∈ uw := uw_in 467 (by decide +kernel)
theorem wl_X7_205 : Cond.methodLink RX7 205 yX5_isSeen ∈ uw := uw_in 471 (by decide +kernel)
theorem wl_X5_57 : Cond.methodLink RX5 57 yX5_isClosedTo ∈ uw := uw_in 475 (by decide +kernel)
theorem wl_L_94 : Cond.methodLink RL 94 yX7_number ∈ uw := uw_in 479 (by decide +kernel)
theorem wl_X7_208 : Cond.methodLink RX7 208 yX0_piecesSeen ∈ uw := uw_in 483 (by decide +kernel)
theorem wl_X0_67 : Cond.methodLink RX0 67 yX0_isPartSeen ∈ uw := uw_in 487 (by decide +kernel)
theorem wl_X0_77 : Cond.methodLink RX0 77 yX5_isPartOf ∈ uw := uw_in 490 (by decide +kernel)
theorem wl_X0_80 : Cond.methodLink RX0 80 yX5_isSeen ∈ uw := uw_in 494 (by decide +kernel)
theorem wl_X7_212 : Cond.methodLink RX7 212 yX0_uncataloguedSeen ∈ uw := uw_in 495 (by decide +kernel)
theorem wl_X7_215 : Cond.methodLink RX7 215 yX0_partsSeen ∈ uw := uw_in 499 (by decide +kernel)
theorem wl_L_99 : Cond.methodLink RL 99 yX7_find ∈ uw := uw_in 503 (by decide +kernel)
theorem wl_L_104 : Cond.methodLink RL 104 yX7_mark ∈ uw := uw_in 507 (by decide +kernel)
theorem wl_X7_226 : Cond.methodLink RX7 226 yX0_isMarkOfAnother ∈ uw := uw_in 511 (by decide +kernel)
theorem wl_L_108 : Cond.methodLink RL 108 yX7_walk ∈ uw := uw_in 515 (by decide +kernel)
theorem wl_X7_230 : Cond.methodLink RX7 230 yX0_lineUpByMark ∈ uw := uw_in 519 (by decide +kernel)
theorem wl_X0_87 : Cond.methodLink RX0 87 yX0_insertByMark ∈ uw := uw_in 523 (by decide +kernel)
theorem wl_L_112 : Cond.methodLink RL 112 yX7_fetch ∈ uw := uw_in 527 (by decide +kernel)
theorem wl_X7_237 : Cond.methodLink RX7 237 yX2_whyNot ∈ uw := uw_in 531 (by decide +kernel)
theorem wl_X7_240 : Cond.methodLink RX7 240 yX2_holder ∈ uw := uw_in 537 (by decide +kernel)
theorem wl_X7_243 : Cond.methodLink RX7 243 yX2_append ∈ uw := uw_in 541 (by decide +kernel)
theorem wl_L_116 : Cond.methodLink RL 116 yX7_back ∈ uw := uw_in 545 (by decide +kernel)
theorem wl_L_120 : Cond.methodLink RL 120 yX7_where ∈ uw := uw_in 549 (by decide +kernel)
theorem wl_L_124 : Cond.methodLink RL 124 yX7_stand ∈ uw := uw_in 553 (by decide +kernel)
theorem wl_X7_247 : Cond.methodLink RX7 247 yX7_whyNotOnShelf ∈ uw := uw_in 557 (by decide +kernel)
theorem wl_X7_250 : Cond.methodLink RX7 250 yX1_isFreeFor ∈ uw := uw_in 561 (by decide +kernel)
theorem wl_X7_253 : Cond.methodLink RX7 253 yX1_put ∈ uw := uw_in 565 (by decide +kernel)
theorem wl_L_128 : Cond.methodLink RL 128 yX7_goal ∈ uw := uw_in 569 (by decide +kernel)
theorem wl_X7_255 : Cond.methodLink RX7 255 yX4_isGoalOfAnother ∈ uw := uw_in 573 (by decide +kernel)
theorem wl_L_132 : Cond.methodLink RL 132 yX7_plan ∈ uw := uw_in 577 (by decide +kernel)
theorem wl_X7_258 : Cond.methodLink RX7 258 yX4_makePlan ∈ uw := uw_in 581 (by decide +kernel)
theorem wl_X4_44 : Cond.methodLink RX4 44 yX1_copyFrom ∈ uw := uw_in 585 (by decide +kernel)
theorem wl_X1_24 : Cond.methodLink RX1 24 arraycopyName ∈ uw := uw_in 589 (by decide +kernel)
theorem wl_X4_48 : Cond.methodLink RX4 48 yX4_isGoalBlocked ∈ uw := uw_in 590 (by decide +kernel)
theorem wl_X4_67 : Cond.methodLink RX4 67 yX4_isAstray ∈ uw := uw_in 594 (by decide +kernel)
theorem wl_X4_52 : Cond.methodLink RX4 52 yX4_nextBox ∈ uw := uw_in 598 (by decide +kernel)
theorem wl_X4_56 : Cond.methodLink RX4 56 yX4_isGoalEmpty ∈ uw := uw_in 602 (by decide +kernel)
theorem wl_X4_60 : Cond.methodLink RX4 60 yX1_leastEmpty ∈ uw := uw_in 606 (by decide +kernel)
theorem wl_X4_63 : Cond.methodLink RX4 63 yX4_addCarry ∈ uw := uw_in 610 (by decide +kernel)
theorem wl_X4_76 : Cond.methodLink RX4 76 yX1_put ∈ uw := uw_in 614 (by decide +kernel)
theorem wl_L_136 : Cond.methodLink RL 136 yX7_carry ∈ uw := uw_in 615 (by decide +kernel)
theorem wl_L_140 : Cond.methodLink RL 140 yX7_carried ∈ uw := uw_in 619 (by decide +kernel)
theorem wl_X7_276 : Cond.methodLink RX7 276 yX1_copyFrom ∈ uw := uw_in 623 (by decide +kernel)
theorem wl_L_145 : Cond.methodLink RL 145 yX7_search ∈ uw := uw_in 624 (by decide +kernel)
theorem wl_X7_280 : Cond.methodLink RX7 280 yX3_takes ∈ uw := uw_in 628 (by decide +kernel)
theorem wl_X3_26 : Cond.methodLink RX3 26 yX3_isFit ∈ uw := uw_in 632 (by decide +kernel)
theorem wl_X7_284 : Cond.methodLink RX7 284 yX3_arrange ∈ uw := uw_in 636 (by decide +kernel)
theorem wl_X3_32 : Cond.methodLink RX3 32 yX3_isCheaper ∈ uw := uw_in 640 (by decide +kernel)
theorem wl_X7_287 : Cond.methodLink RX7 287 yX3_weightedCosts ∈ uw := uw_in 644 (by decide +kernel)
theorem wl_X7_291 : Cond.methodLink RX7 291 yX3_weights ∈ uw := uw_in 648 (by decide +kernel)
theorem wl_X7_294 : Cond.methodLink RX7 294 yX7_keepFraction ∈ uw := uw_in 652 (by decide +kernel)
theorem wl_X7_301 : Cond.methodLink RX7 301 yX7_commonDivisor ∈ uw := uw_in 656 (by decide +kernel)
theorem wl_L_149 : Cond.methodLink RL 149 yX7_upper ∈ uw := uw_in 659 (by decide +kernel)
theorem wl_L_154 : Cond.methodLink RL 154 yX7_lower ∈ uw := uw_in 663 (by decide +kernel)
theorem wl_L_12 : Cond.methodLink RL 12 yX8_init ∈ uw := uw_in 669 (by decide +kernel)
theorem wl_X8_1 : Cond.methodLink RX8 1 objectInit ∈ uw := uw_in 672 (by decide +kernel)
theorem wl_L_17 : Cond.methodLink RL 17 yX8_status ∈ uw := uw_in 773 (by decide +kernel)
theorem wl_L_22 : Cond.methodLink RL 22 yX8_tray ∈ uw := uw_in 777 (by decide +kernel)
theorem wl_X8_100 : Cond.methodLink RX8 100 yX8_no ∈ uw := uw_in 781 (by decide +kernel)
theorem wl_L_29 : Cond.methodLink RL 29 yX8_write ∈ uw := uw_in 785 (by decide +kernel)
theorem wl_X8_108 : Cond.methodLink RX8 108 yX8_placed ∈ uw := uw_in 789 (by decide +kernel)
theorem wl_X8_104 : Cond.methodLink RX8 104 yX8_trayed ∈ uw := uw_in 793 (by decide +kernel)
theorem wl_X8_112 : Cond.methodLink RX8 112 yX8_cut ∈ uw := uw_in 797 (by decide +kernel)
theorem wl_L_34 : Cond.methodLink RL 34 yX8_read ∈ uw := uw_in 800 (by decide +kernel)
theorem wl_L_39 : Cond.methodLink RL 39 yX8_pour ∈ uw := uw_in 805 (by decide +kernel)
theorem wl_L_44 : Cond.methodLink RL 44 yX8_thing ∈ uw := uw_in 809 (by decide +kernel)
theorem wl_X8_121 : Cond.methodLink RX8 121 yX8_refuse ∈ uw := uw_in 813 (by decide +kernel)
theorem wl_X8_124 : Cond.methodLink RX8 124 yX8_isThing ∈ uw := uw_in 817 (by decide +kernel)
theorem wl_L_48 : Cond.methodLink RL 48 yX8_told ∈ uw := uw_in 821 (by decide +kernel)
theorem wl_L_52 : Cond.methodLink RL 52 yX8_say ∈ uw := uw_in 825 (by decide +kernel)
theorem wl_X8_127 : Cond.methodLink RX8 127 yX8_isField ∈ uw := uw_in 829 (by decide +kernel)
theorem wl_L_56 : Cond.methodLink RL 56 yX8_has ∈ uw := uw_in 832 (by decide +kernel)
theorem wl_X8_130 : Cond.methodLink RX8 130 yX8_hasOf ∈ uw := uw_in 836 (by decide +kernel)
theorem wl_L_60 : Cond.methodLink RL 60 yX8_span ∈ uw := uw_in 840 (by decide +kernel)
theorem wl_L_65 : Cond.methodLink RL 65 yX8_noSpan ∈ uw := uw_in 845 (by decide +kernel)
theorem wl_L_70 : Cond.methodLink RL 70 yX8_held ∈ uw := uw_in 849 (by decide +kernel)
theorem wl_X8_142 : Cond.methodLink RX8 142 yX8_holds ∈ uw := uw_in 853 (by decide +kernel)
theorem wl_X8_134 : Cond.methodLink RX8 134 yJ9_min_7cf53 ∈ uw := uw_in 857 (by decide +kernel)
theorem wl_X8_139 : Cond.methodLink RX8 139 yJ9_max_7cf53 ∈ uw := uw_in 858 (by decide +kernel)
theorem wl_L_75 : Cond.methodLink RL 75 yX8_quarrel ∈ uw := uw_in 859 (by decide +kernel)
theorem wl_L_80 : Cond.methodLink RL 80 yX8_count ∈ uw := uw_in 863 (by decide +kernel)
theorem wl_L_84 : Cond.methodLink RL 84 yX8_join ∈ uw := uw_in 867 (by decide +kernel)
theorem wl_L_88 : Cond.methodLink RL 88 yX8_close ∈ uw := uw_in 871 (by decide +kernel)
theorem wl_L_93 : Cond.methodLink RL 93 yX8_sees ∈ uw := uw_in 877 (by decide +kernel)
theorem wl_X8_148 : Cond.methodLink RX8 148 yX8_isPerson ∈ uw := uw_in 881 (by decide +kernel)
theorem wl_X8_151 : Cond.methodLink RX8 151 yX8_isDay ∈ uw := uw_in 884 (by decide +kernel)
theorem wl_X8_154 : Cond.methodLink RX8 154 yX8_seesOf ∈ uw := uw_in 888 (by decide +kernel)
theorem wl_L_98 : Cond.methodLink RL 98 yX8_number ∈ uw := uw_in 892 (by decide +kernel)
theorem wl_X8_158 : Cond.methodLink RX8 158 yX8_isPart ∈ uw := uw_in 896 (by decide +kernel)
theorem wl_X8_162 : Cond.methodLink RX8 162 yX8_isFirst ∈ uw := uw_in 900 (by decide +kernel)
theorem wl_L_103 : Cond.methodLink RL 103 yX8_find ∈ uw := uw_in 904 (by decide +kernel)
theorem wl_L_107 : Cond.methodLink RL 107 yX8_mark ∈ uw := uw_in 908 (by decide +kernel)
theorem wl_L_111 : Cond.methodLink RL 111 yX8_walk ∈ uw := uw_in 912 (by decide +kernel)
theorem wl_L_115 : Cond.methodLink RL 115 yX8_fetch ∈ uw := uw_in 916 (by decide +kernel)
theorem wl_X8_172 : Cond.methodLink RX8 172 yX8_lastTick ∈ uw := uw_in 920 (by decide +kernel)
theorem wl_X8_176 : Cond.methodLink RX8 176 yX8_isOut ∈ uw := uw_in 924 (by decide +kernel)
theorem wl_X8_169 : Cond.methodLink RX8 169 yX8_latest ∈ uw := uw_in 928 (by decide +kernel)
theorem wl_X8_179 : Cond.methodLink RX8 179 yX8_enter ∈ uw := uw_in 932 (by decide +kernel)
theorem wl_L_119 : Cond.methodLink RL 119 yX8_back ∈ uw := uw_in 936 (by decide +kernel)
theorem wl_L_123 : Cond.methodLink RL 123 yX8_where ∈ uw := uw_in 940 (by decide +kernel)
theorem wl_L_127 : Cond.methodLink RL 127 yX8_stand ∈ uw := uw_in 944 (by decide +kernel)
theorem wl_X8_183 : Cond.methodLink RX8 183 yX8_boxed ∈ uw := uw_in 948 (by decide +kernel)
theorem wl_L_131 : Cond.methodLink RL 131 yX8_goal ∈ uw := uw_in 952 (by decide +kernel)
theorem wl_L_135 : Cond.methodLink RL 135 yX8_plan ∈ uw := uw_in 956 (by decide +kernel)
theorem wl_X8_196 : Cond.methodLink RX8 196 yX8_plans ∈ uw := uw_in 960 (by decide +kernel)
theorem wl_X8_189 : Cond.methodLink RX8 189 yX8_isAway ∈ uw := uw_in 964 (by decide +kernel)
theorem wl_X8_192 : Cond.methodLink RX8 192 yX8_take ∈ uw := uw_in 968 (by decide +kernel)
theorem wl_L_139 : Cond.methodLink RL 139 yX8_carry ∈ uw := uw_in 972 (by decide +kernel)
theorem wl_L_144 : Cond.methodLink RL 144 yX8_carried ∈ uw := uw_in 976 (by decide +kernel)
theorem wl_L_148 : Cond.methodLink RL 148 yX8_search ∈ uw := uw_in 980 (by decide +kernel)
theorem wl_X8_202 : Cond.methodLink RX8 202 yX8_costOf ∈ uw := uw_in 985 (by decide +kernel)
theorem wl_X8_206 : Cond.methodLink RX8 206 yX8_weightOf ∈ uw := uw_in 989 (by decide +kernel)
theorem wl_L_153 : Cond.methodLink RL 153 yX8_upper ∈ uw := uw_in 993 (by decide +kernel)
theorem wl_L_157 : Cond.methodLink RL 157 yX8_lower ∈ uw := uw_in 997 (by decide +kernel)
theorem wc_L_7 : Cond.classLink RL 7 RX7 ∈ uw := uw_in 49 (by decide +kernel)
theorem wc_X7_9 : Cond.classLink RX7 9 RX6 ∈ uw := uw_in 57 (by decide +kernel)
theorem wc_X7_15 : Cond.classLink RX7 15 RX0 ∈ uw := uw_in 59 (by decide +kernel)
theorem wc_X0_9 : Cond.classLink RX0 9 RX5 ∈ uw := uw_in 65 (by decide +kernel)
theorem wc_X7_22 : Cond.classLink RX7 22 RX2 ∈ uw := uw_in 84 (by decide +kernel)
theorem wc_X7_29 : Cond.classLink RX7 29 RX4 ∈ uw := uw_in 104 (by decide +kernel)
theorem wc_X4_9 : Cond.classLink RX4 9 RX1 ∈ uw := uw_in 110 (by decide +kernel)
theorem wc_X7_36 : Cond.classLink RX7 36 RX3 ∈ uw := uw_in 159 (by decide +kernel)
theorem wc_L_10 : Cond.classLink RL 10 RX8 ∈ uw := uw_in 667 (by decide +kernel)
theorem wk_X7_168 : Cond.constant RX7 168 (100000) ∈ uw := uw_in 398 (by decide +kernel)
theorem wk_X7_191 : Cond.constant RX7 191 (200000) ∈ uw := uw_in 458 (by decide +kernel)
theorem wk_X7_192 : Cond.constant RX7 192 (65535) ∈ uw := uw_in 459 (by decide +kernel)
theorem wk_X7_305 : Cond.constant RX7 305 (300000) ∈ uw := uw_in 470 (by decide +kernel)
theorem wk_X2_25 : Cond.constant RX2 25 (100000) ∈ uw := uw_in 535 (by decide +kernel)
theorem wk_X8_133 : Cond.constant RX8 133 (100000) ∈ uw := uw_in 844 (by decide +kernel)
theorem wk_X8_146 : Cond.constant RX8 146 (200000) ∈ uw := uw_in 875 (by decide +kernel)
theorem wk_X8_147 : Cond.constant RX8 147 (65535) ∈ uw := uw_in 876 (by decide +kernel)
theorem wk_X8_145 : Cond.constant RX8 145 (300000) ∈ uw := uw_in 887 (by decide +kernel)
theorem wk_X3_30 : Cond.constantLong RX3 30 (999) ∈ uw := uw_in 635 (by decide +kernel)
theorem wk_X8_116 : Cond.constantLong RX8 116 (-1) ∈ uw := uw_in 804 (by decide +kernel)
theorem wk_X8_200 : Cond.constantLong RX8 200 (999) ∈ uw := uw_in 984 (by decide +kernel)
theorem wk_L_23 : Cond.constantLong RL 23 (4294967295) ∈ uw := uw_in 1001 (by decide +kernel)
theorem wn_X7 : Cond.instantiable RX7 8 ∈ uw := uw_in 50 (by decide +kernel)
theorem wn_X0 : Cond.instantiable RX0 4 ∈ uw := uw_in 60 (by decide +kernel)
theorem wn_X2 : Cond.instantiable RX2 4 ∈ uw := uw_in 85 (by decide +kernel)
theorem wn_X4 : Cond.instantiable RX4 7 ∈ uw := uw_in 105 (by decide +kernel)
theorem wn_X1 : Cond.instantiable RX1 2 ∈ uw := uw_in 111 (by decide +kernel)
theorem wn_X3 : Cond.instantiable RX3 4 ∈ uw := uw_in 160 (by decide +kernel)
theorem wn_X6 : Cond.instantiable RX6 3 ∈ uw := uw_in 180 (by decide +kernel)
theorem wn_X5 : Cond.instantiable RX5 11 ∈ uw := uw_in 309 (by decide +kernel)
theorem wn_X8 : Cond.instantiable RX8 33 ∈ uw := uw_in 668 (by decide +kernel)
theorem wi_L : Cond.initialized RL ∈ uw := uw_in 36 (by decide +kernel)
theorem wi_X7 : Cond.initialized RX7 ∈ uw := uw_in 37 (by decide +kernel)
theorem wi_X0 : Cond.initialized RX0 ∈ uw := uw_in 38 (by decide +kernel)
theorem wi_X2 : Cond.initialized RX2 ∈ uw := uw_in 39 (by decide +kernel)
theorem wi_X4 : Cond.initialized RX4 ∈ uw := uw_in 40 (by decide +kernel)
theorem wi_X1 : Cond.initialized RX1 ∈ uw := uw_in 41 (by decide +kernel)
theorem wi_J7 : Cond.initialized RJ7 ∈ uw := uw_in 42 (by decide +kernel)
theorem wi_X3 : Cond.initialized RX3 ∈ uw := uw_in 43 (by decide +kernel)
theorem wi_X6 : Cond.initialized RX6 ∈ uw := uw_in 44 (by decide +kernel)
theorem wi_X8 : Cond.initialized RX8 ∈ uw := uw_in 45 (by decide +kernel)
theorem wi_J10 : Cond.initialized RJ10 ∈ uw := uw_in 46 (by decide +kernel)
theorem wi_X5 : Cond.initialized RX5 ∈ uw := uw_in 47 (by decide +kernel)
theorem wi_J9 : Cond.initialized RJ9 ∈ uw := uw_in 48 (by decide +kernel)
theorem wm_X7_init : Cond.instanceMethod yX7_init ∈ uw := uw_in 52 (by decide +kernel)
theorem wm_objectInit : Cond.instanceMethod objectInit ∈ uw := uw_in 55 (by decide +kernel)
theorem wm_X0_init : Cond.instanceMethod yX0_init ∈ uw := uw_in 62 (by decide +kernel)
theorem wa_boolean : Cond.arrayClass .boolean ∈ uw := uw_in 83 (by decide +kernel)
theorem wm_X2_init : Cond.instanceMethod yX2_init ∈ uw := uw_in 87 (by decide +kernel)
theorem wa_int : Cond.arrayClass .int ∈ uw := uw_in 103 (by decide +kernel)
theorem wm_X4_init : Cond.instanceMethod yX4_init ∈ uw := uw_in 107 (by decide +kernel)
theorem wm_X1_init : Cond.instanceMethod yX1_init ∈ uw := uw_in 113 (by decide +kernel)
theorem wst_J7_fill_53178 : Cond.static yJ7_fill_53178 ∈ uw := uw_in 117 (by decide +kernel)
theorem wm_X3_init : Cond.instanceMethod yX3_init ∈ uw := uw_in 162 (by decide +kernel)
theorem wa_long : Cond.arrayClass .long ∈ uw := uw_in 179 (by decide +kernel)
theorem wm_X6_init : Cond.instanceMethod yX6_init ∈ uw := uw_in 182 (by decide +kernel)
theorem wm_X7_status : Cond.instanceMethod yX7_status ∈ uw := uw_in 223 (by decide +kernel)
theorem ws_X7_status : Cond.selects RX7 yX7_status yX7_status ∈ uw := uw_in 224 (by decide +kernel)
theorem wm_X7_tray : Cond.instanceMethod yX7_tray ∈ uw := uw_in 227 (by decide +kernel)
theorem ws_X7_tray : Cond.selects RX7 yX7_tray yX7_tray ∈ uw := uw_in 228 (by decide +kernel)
theorem wm_X7_trayAt : Cond.instanceMethod yX7_trayAt ∈ uw := uw_in 232 (by decide +kernel)
theorem wst_X7_within : Cond.static yX7_within ∈ uw := uw_in 235 (by decide +kernel)
theorem wm_X7_deny : Cond.instanceMethod yX7_deny ∈ uw := uw_in 239 (by decide +kernel)
theorem wm_X6_renew : Cond.instanceMethod yX6_renew ∈ uw := uw_in 242 (by decide +kernel)
theorem ws_X6_renew : Cond.selects RX6 yX6_renew yX6_renew ∈ uw := uw_in 243 (by decide +kernel)
theorem wst_J7_fill_d0a16 : Cond.static yJ7_fill_d0a16 ∈ uw := uw_in 246 (by decide +kernel)
theorem wm_X7_grant : Cond.instanceMethod yX7_grant ∈ uw := uw_in 250 (by decide +kernel)
theorem wm_X7_write : Cond.instanceMethod yX7_write ∈ uw := uw_in 253 (by decide +kernel)
theorem ws_X7_write : Cond.selects RX7 yX7_write yX7_write ∈ uw := uw_in 254 (by decide +kernel)
theorem wst_X7_whyNotIn : Cond.static yX7_whyNotIn ∈ uw := uw_in 257 (by decide +kernel)
theorem wm_X6_isMissing : Cond.instanceMethod yX6_isMissing ∈ uw := uw_in 260 (by decide +kernel)
theorem ws_X6_isMissing : Cond.selects RX6 yX6_isMissing yX6_isMissing ∈ uw := uw_in 261 (by decide +kernel)
theorem wm_X6_hasPlace : Cond.instanceMethod yX6_hasPlace ∈ uw := uw_in 264 (by decide +kernel)
theorem ws_X6_hasPlace : Cond.selects RX6 yX6_hasPlace yX6_hasPlace ∈ uw := uw_in 265 (by decide +kernel)
theorem wm_X6_put : Cond.instanceMethod yX6_put ∈ uw := uw_in 268 (by decide +kernel)
theorem ws_X6_put : Cond.selects RX6 yX6_put yX6_put ∈ uw := uw_in 269 (by decide +kernel)
theorem wm_X6_cut : Cond.instanceMethod yX6_cut ∈ uw := uw_in 273 (by decide +kernel)
theorem wm_X7_read : Cond.instanceMethod yX7_read ∈ uw := uw_in 276 (by decide +kernel)
theorem ws_X7_read : Cond.selects RX7 yX7_read yX7_read ∈ uw := uw_in 277 (by decide +kernel)
theorem wm_X7_refuse : Cond.instanceMethod yX7_refuse ∈ uw := uw_in 281 (by decide +kernel)
theorem wm_X7_pour : Cond.instanceMethod yX7_pour ∈ uw := uw_in 284 (by decide +kernel)
theorem ws_X7_pour : Cond.selects RX7 yX7_pour yX7_pour ∈ uw := uw_in 285 (by decide +kernel)
theorem wm_X6_hasRun : Cond.instanceMethod yX6_hasRun ∈ uw := uw_in 288 (by decide +kernel)
theorem ws_X6_hasRun : Cond.selects RX6 yX6_hasRun yX6_hasRun ∈ uw := uw_in 289 (by decide +kernel)
theorem wst_arraycopyName : Cond.static arraycopyName ∈ uw := uw_in 292 (by decide +kernel)
theorem wna_arraycopyName : Cond.native arraycopyName ∈ uw := uw_in 293 (by decide +kernel)
theorem wm_X7_thing : Cond.instanceMethod yX7_thing ∈ uw := uw_in 295 (by decide +kernel)
theorem ws_X7_thing : Cond.selects RX7 yX7_thing yX7_thing ∈ uw := uw_in 296 (by decide +kernel)
theorem wm_X0_at : Cond.instanceMethod yX0_at ∈ uw := uw_in 299 (by decide +kernel)
theorem ws_X0_at : Cond.selects RX0 yX0_at yX0_at ∈ uw := uw_in 300 (by decide +kernel)
theorem wst_X7_mayBeIn : Cond.static yX7_mayBeIn ∈ uw := uw_in 303 (by decide +kernel)
theorem wm_X0_add : Cond.instanceMethod yX0_add ∈ uw := uw_in 306 (by decide +kernel)
theorem ws_X0_add : Cond.selects RX0 yX0_add yX0_add ∈ uw := uw_in 307 (by decide +kernel)
theorem wm_X5_init : Cond.instanceMethod yX5_init ∈ uw := uw_in 311 (by decide +kernel)
theorem wm_X7_answer : Cond.instanceMethod yX7_answer ∈ uw := uw_in 369 (by decide +kernel)
theorem wm_X7_told : Cond.instanceMethod yX7_told ∈ uw := uw_in 372 (by decide +kernel)
theorem ws_X7_told : Cond.selects RX7 yX7_told yX7_told ∈ uw := uw_in 373 (by decide +kernel)
theorem wm_X0_rightIn : Cond.instanceMethod yX0_rightIn ∈ uw := uw_in 376 (by decide +kernel)
theorem ws_X0_rightIn : Cond.selects RX0 yX0_rightIn yX0_rightIn ∈ uw := uw_in 377 (by decide +kernel)
theorem wm_X7_say : Cond.instanceMethod yX7_say ∈ uw := uw_in 380 (by decide +kernel)
theorem ws_X7_say : Cond.selects RX7 yX7_say yX7_say ∈ uw := uw_in 381 (by decide +kernel)
theorem wst_X7_isField : Cond.static yX7_isField ∈ uw := uw_in 384 (by decide +kernel)
theorem wm_X7_has : Cond.instanceMethod yX7_has ∈ uw := uw_in 387 (by decide +kernel)
theorem ws_X7_has : Cond.selects RX7 yX7_has yX7_has ∈ uw := uw_in 388 (by decide +kernel)
theorem wm_X5_saidInLine : Cond.instanceMethod yX5_saidInLine ∈ uw := uw_in 391 (by decide +kernel)
theorem ws_X5_saidInLine : Cond.selects RX5 yX5_saidInLine yX5_saidInLine ∈ uw := uw_in 392 (by decide +kernel)
theorem wm_X7_span : Cond.instanceMethod yX7_span ∈ uw := uw_in 395 (by decide +kernel)
theorem ws_X7_span : Cond.selects RX7 yX7_span yX7_span ∈ uw := uw_in 396 (by decide +kernel)
theorem wm_X7_noSpan : Cond.instanceMethod yX7_noSpan ∈ uw := uw_in 400 (by decide +kernel)
theorem ws_X7_noSpan : Cond.selects RX7 yX7_noSpan yX7_noSpan ∈ uw := uw_in 401 (by decide +kernel)
theorem wm_X5_hasSpan : Cond.instanceMethod yX5_hasSpan ∈ uw := uw_in 404 (by decide +kernel)
theorem ws_X5_hasSpan : Cond.selects RX5 yX5_hasSpan yX5_hasSpan ∈ uw := uw_in 405 (by decide +kernel)
theorem wm_X7_held : Cond.instanceMethod yX7_held ∈ uw := uw_in 408 (by decide +kernel)
theorem ws_X7_held : Cond.selects RX7 yX7_held yX7_held ∈ uw := uw_in 409 (by decide +kernel)
theorem wm_X0_heldDay : Cond.instanceMethod yX0_heldDay ∈ uw := uw_in 412 (by decide +kernel)
theorem ws_X0_heldDay : Cond.selects RX0 yX0_heldDay yX0_heldDay ∈ uw := uw_in 413 (by decide +kernel)
theorem wm_X5_showsSpanTo : Cond.instanceMethod yX5_showsSpanTo ∈ uw := uw_in 417 (by decide +kernel)
theorem ws_X5_showsSpanTo : Cond.selects RX5 yX5_showsSpanTo yX5_showsSpanTo ∈ uw := uw_in 418 (by decide +kernel)
theorem wst_J9_max_7cf53 : Cond.static yJ9_max_7cf53 ∈ uw := uw_in 422 (by decide +kernel)
theorem wst_X0_earlier : Cond.static yX0_earlier ∈ uw := uw_in 425 (by decide +kernel)
theorem wst_J9_min_7cf53 : Cond.static yJ9_min_7cf53 ∈ uw := uw_in 428 (by decide +kernel)
theorem wm_X7_quarrel : Cond.instanceMethod yX7_quarrel ∈ uw := uw_in 431 (by decide +kernel)
theorem ws_X7_quarrel : Cond.selects RX7 yX7_quarrel yX7_quarrel ∈ uw := uw_in 432 (by decide +kernel)
theorem wm_X0_quarrelling : Cond.instanceMethod yX0_quarrelling ∈ uw := uw_in 435 (by decide +kernel)
theorem ws_X0_quarrelling : Cond.selects RX0 yX0_quarrelling yX0_quarrelling ∈ uw := uw_in 436 (by decide +kernel)
theorem wm_X5_hasQuarrel : Cond.instanceMethod yX5_hasQuarrel ∈ uw := uw_in 439 (by decide +kernel)
theorem ws_X5_hasQuarrel : Cond.selects RX5 yX5_hasQuarrel yX5_hasQuarrel ∈ uw := uw_in 440 (by decide +kernel)
theorem wm_X7_count : Cond.instanceMethod yX7_count ∈ uw := uw_in 443 (by decide +kernel)
theorem ws_X7_count : Cond.selects RX7 yX7_count yX7_count ∈ uw := uw_in 444 (by decide +kernel)
theorem wm_X7_join : Cond.instanceMethod yX7_join ∈ uw := uw_in 447 (by decide +kernel)
theorem ws_X7_join : Cond.selects RX7 yX7_join yX7_join ∈ uw := uw_in 448 (by decide +kernel)
theorem wm_X0_unite : Cond.instanceMethod yX0_unite ∈ uw := uw_in 451 (by decide +kernel)
theorem ws_X0_unite : Cond.selects RX0 yX0_unite yX0_unite ∈ uw := uw_in 452 (by decide +kernel)
theorem wm_X7_close : Cond.instanceMethod yX7_close ∈ uw := uw_in 455 (by decide +kernel)
theorem ws_X7_close : Cond.selects RX7 yX7_close yX7_close ∈ uw := uw_in 456 (by decide +kernel)
theorem wm_X7_sees : Cond.instanceMethod yX7_sees ∈ uw := uw_in 461 (by decide +kernel)
theorem ws_X7_sees : Cond.selects RX7 yX7_sees yX7_sees ∈ uw := uw_in 462 (by decide +kernel)
theorem wst_X7_isPerson : Cond.static yX7_isPerson ∈ uw := uw_in 465 (by decide +kernel)
theorem wst_X7_isDay : Cond.static yX7_isDay ∈ uw := uw_in 468 (by decide +kernel)
theorem wm_X5_isSeen : Cond.instanceMethod yX5_isSeen ∈ uw := uw_in 472 (by decide +kernel)
theorem ws_X5_isSeen : Cond.selects RX5 yX5_isSeen yX5_isSeen ∈ uw := uw_in 473 (by decide +kernel)
theorem wm_X5_isClosedTo : Cond.instanceMethod yX5_isClosedTo ∈ uw := uw_in 477 (by decide +kernel)
theorem wm_X7_number : Cond.instanceMethod yX7_number ∈ uw := uw_in 480 (by decide +kernel)
theorem ws_X7_number : Cond.selects RX7 yX7_number yX7_number ∈ uw := uw_in 481 (by decide +kernel)
theorem wm_X0_piecesSeen : Cond.instanceMethod yX0_piecesSeen ∈ uw := uw_in 484 (by decide +kernel)
theorem ws_X0_piecesSeen : Cond.selects RX0 yX0_piecesSeen yX0_piecesSeen ∈ uw := uw_in 485 (by decide +kernel)
theorem wst_X0_isPartSeen : Cond.static yX0_isPartSeen ∈ uw := uw_in 488 (by decide +kernel)
theorem wm_X5_isPartOf : Cond.instanceMethod yX5_isPartOf ∈ uw := uw_in 491 (by decide +kernel)
theorem ws_X5_isPartOf : Cond.selects RX5 yX5_isPartOf yX5_isPartOf ∈ uw := uw_in 492 (by decide +kernel)
theorem wm_X0_uncataloguedSeen : Cond.instanceMethod yX0_uncataloguedSeen ∈ uw := uw_in 496 (by decide +kernel)
theorem ws_X0_uncataloguedSeen : Cond.selects RX0 yX0_uncataloguedSeen yX0_uncataloguedSeen ∈ uw := uw_in 497 (by decide +kernel)
theorem wm_X0_partsSeen : Cond.instanceMethod yX0_partsSeen ∈ uw := uw_in 500 (by decide +kernel)
theorem ws_X0_partsSeen : Cond.selects RX0 yX0_partsSeen yX0_partsSeen ∈ uw := uw_in 501 (by decide +kernel)
theorem wm_X7_find : Cond.instanceMethod yX7_find ∈ uw := uw_in 504 (by decide +kernel)
theorem ws_X7_find : Cond.selects RX7 yX7_find yX7_find ∈ uw := uw_in 505 (by decide +kernel)
theorem wm_X7_mark : Cond.instanceMethod yX7_mark ∈ uw := uw_in 508 (by decide +kernel)
theorem ws_X7_mark : Cond.selects RX7 yX7_mark yX7_mark ∈ uw := uw_in 509 (by decide +kernel)
theorem wm_X0_isMarkOfAnother : Cond.instanceMethod yX0_isMarkOfAnother ∈ uw := uw_in 512 (by decide +kernel)
theorem ws_X0_isMarkOfAnother : Cond.selects RX0 yX0_isMarkOfAnother yX0_isMarkOfAnother ∈ uw := uw_in 513 (by decide +kernel)
theorem wm_X7_walk : Cond.instanceMethod yX7_walk ∈ uw := uw_in 516 (by decide +kernel)
theorem ws_X7_walk : Cond.selects RX7 yX7_walk yX7_walk ∈ uw := uw_in 517 (by decide +kernel)
theorem wm_X0_lineUpByMark : Cond.instanceMethod yX0_lineUpByMark ∈ uw := uw_in 520 (by decide +kernel)
theorem ws_X0_lineUpByMark : Cond.selects RX0 yX0_lineUpByMark yX0_lineUpByMark ∈ uw := uw_in 521 (by decide +kernel)
theorem wm_X0_insertByMark : Cond.instanceMethod yX0_insertByMark ∈ uw := uw_in 525 (by decide +kernel)
theorem wm_X7_fetch : Cond.instanceMethod yX7_fetch ∈ uw := uw_in 528 (by decide +kernel)
theorem ws_X7_fetch : Cond.selects RX7 yX7_fetch yX7_fetch ∈ uw := uw_in 529 (by decide +kernel)
theorem wm_X2_whyNot : Cond.instanceMethod yX2_whyNot ∈ uw := uw_in 532 (by decide +kernel)
theorem ws_X2_whyNot : Cond.selects RX2 yX2_whyNot yX2_whyNot ∈ uw := uw_in 533 (by decide +kernel)
theorem wm_X2_holder : Cond.instanceMethod yX2_holder ∈ uw := uw_in 538 (by decide +kernel)
theorem ws_X2_holder : Cond.selects RX2 yX2_holder yX2_holder ∈ uw := uw_in 539 (by decide +kernel)
theorem wm_X2_append : Cond.instanceMethod yX2_append ∈ uw := uw_in 542 (by decide +kernel)
theorem ws_X2_append : Cond.selects RX2 yX2_append yX2_append ∈ uw := uw_in 543 (by decide +kernel)
theorem wm_X7_back : Cond.instanceMethod yX7_back ∈ uw := uw_in 546 (by decide +kernel)
theorem ws_X7_back : Cond.selects RX7 yX7_back yX7_back ∈ uw := uw_in 547 (by decide +kernel)
theorem wm_X7_where : Cond.instanceMethod yX7_where ∈ uw := uw_in 550 (by decide +kernel)
theorem ws_X7_where : Cond.selects RX7 yX7_where yX7_where ∈ uw := uw_in 551 (by decide +kernel)
theorem wm_X7_stand : Cond.instanceMethod yX7_stand ∈ uw := uw_in 554 (by decide +kernel)
theorem ws_X7_stand : Cond.selects RX7 yX7_stand yX7_stand ∈ uw := uw_in 555 (by decide +kernel)
theorem wm_X7_whyNotOnShelf : Cond.instanceMethod yX7_whyNotOnShelf ∈ uw := uw_in 559 (by decide +kernel)
theorem wm_X1_isFreeFor : Cond.instanceMethod yX1_isFreeFor ∈ uw := uw_in 562 (by decide +kernel)
theorem ws_X1_isFreeFor : Cond.selects RX1 yX1_isFreeFor yX1_isFreeFor ∈ uw := uw_in 563 (by decide +kernel)
theorem wm_X1_put : Cond.instanceMethod yX1_put ∈ uw := uw_in 566 (by decide +kernel)
theorem ws_X1_put : Cond.selects RX1 yX1_put yX1_put ∈ uw := uw_in 567 (by decide +kernel)
theorem wm_X7_goal : Cond.instanceMethod yX7_goal ∈ uw := uw_in 570 (by decide +kernel)
theorem ws_X7_goal : Cond.selects RX7 yX7_goal yX7_goal ∈ uw := uw_in 571 (by decide +kernel)
theorem wm_X4_isGoalOfAnother : Cond.instanceMethod yX4_isGoalOfAnother ∈ uw := uw_in 574 (by decide +kernel)
theorem ws_X4_isGoalOfAnother : Cond.selects RX4 yX4_isGoalOfAnother yX4_isGoalOfAnother ∈ uw := uw_in 575 (by decide +kernel)
theorem wm_X7_plan : Cond.instanceMethod yX7_plan ∈ uw := uw_in 578 (by decide +kernel)
theorem ws_X7_plan : Cond.selects RX7 yX7_plan yX7_plan ∈ uw := uw_in 579 (by decide +kernel)
theorem wm_X4_makePlan : Cond.instanceMethod yX4_makePlan ∈ uw := uw_in 582 (by decide +kernel)
theorem ws_X4_makePlan : Cond.selects RX4 yX4_makePlan yX4_makePlan ∈ uw := uw_in 583 (by decide +kernel)
theorem wm_X1_copyFrom : Cond.instanceMethod yX1_copyFrom ∈ uw := uw_in 586 (by decide +kernel)
theorem ws_X1_copyFrom : Cond.selects RX1 yX1_copyFrom yX1_copyFrom ∈ uw := uw_in 587 (by decide +kernel)
theorem wm_X4_isGoalBlocked : Cond.instanceMethod yX4_isGoalBlocked ∈ uw := uw_in 592 (by decide +kernel)
theorem wm_X4_isAstray : Cond.instanceMethod yX4_isAstray ∈ uw := uw_in 596 (by decide +kernel)
theorem wm_X4_nextBox : Cond.instanceMethod yX4_nextBox ∈ uw := uw_in 600 (by decide +kernel)
theorem wm_X4_isGoalEmpty : Cond.instanceMethod yX4_isGoalEmpty ∈ uw := uw_in 604 (by decide +kernel)
theorem wm_X1_leastEmpty : Cond.instanceMethod yX1_leastEmpty ∈ uw := uw_in 607 (by decide +kernel)
theorem ws_X1_leastEmpty : Cond.selects RX1 yX1_leastEmpty yX1_leastEmpty ∈ uw := uw_in 608 (by decide +kernel)
theorem wm_X4_addCarry : Cond.instanceMethod yX4_addCarry ∈ uw := uw_in 612 (by decide +kernel)
theorem wm_X7_carry : Cond.instanceMethod yX7_carry ∈ uw := uw_in 616 (by decide +kernel)
theorem ws_X7_carry : Cond.selects RX7 yX7_carry yX7_carry ∈ uw := uw_in 617 (by decide +kernel)
theorem wm_X7_carried : Cond.instanceMethod yX7_carried ∈ uw := uw_in 620 (by decide +kernel)
theorem ws_X7_carried : Cond.selects RX7 yX7_carried yX7_carried ∈ uw := uw_in 621 (by decide +kernel)
theorem wm_X7_search : Cond.instanceMethod yX7_search ∈ uw := uw_in 625 (by decide +kernel)
theorem ws_X7_search : Cond.selects RX7 yX7_search yX7_search ∈ uw := uw_in 626 (by decide +kernel)
theorem wm_X3_takes : Cond.instanceMethod yX3_takes ∈ uw := uw_in 629 (by decide +kernel)
theorem ws_X3_takes : Cond.selects RX3 yX3_takes yX3_takes ∈ uw := uw_in 630 (by decide +kernel)
theorem wst_X3_isFit : Cond.static yX3_isFit ∈ uw := uw_in 633 (by decide +kernel)
theorem wm_X3_arrange : Cond.instanceMethod yX3_arrange ∈ uw := uw_in 637 (by decide +kernel)
theorem ws_X3_arrange : Cond.selects RX3 yX3_arrange yX3_arrange ∈ uw := uw_in 638 (by decide +kernel)
theorem wm_X3_isCheaper : Cond.instanceMethod yX3_isCheaper ∈ uw := uw_in 642 (by decide +kernel)
theorem wm_X3_weightedCosts : Cond.instanceMethod yX3_weightedCosts ∈ uw := uw_in 645 (by decide +kernel)
theorem ws_X3_weightedCosts : Cond.selects RX3 yX3_weightedCosts yX3_weightedCosts ∈ uw := uw_in 646 (by decide +kernel)
theorem wm_X3_weights : Cond.instanceMethod yX3_weights ∈ uw := uw_in 649 (by decide +kernel)
theorem ws_X3_weights : Cond.selects RX3 yX3_weights yX3_weights ∈ uw := uw_in 650 (by decide +kernel)
theorem wm_X7_keepFraction : Cond.instanceMethod yX7_keepFraction ∈ uw := uw_in 654 (by decide +kernel)
theorem wst_X7_commonDivisor : Cond.static yX7_commonDivisor ∈ uw := uw_in 657 (by decide +kernel)
theorem wm_X7_upper : Cond.instanceMethod yX7_upper ∈ uw := uw_in 660 (by decide +kernel)
theorem ws_X7_upper : Cond.selects RX7 yX7_upper yX7_upper ∈ uw := uw_in 661 (by decide +kernel)
theorem wm_X7_lower : Cond.instanceMethod yX7_lower ∈ uw := uw_in 664 (by decide +kernel)
theorem ws_X7_lower : Cond.selects RX7 yX7_lower yX7_lower ∈ uw := uw_in 665 (by decide +kernel)
theorem wm_X8_init : Cond.instanceMethod yX8_init ∈ uw := uw_in 670 (by decide +kernel)
theorem wm_X8_status : Cond.instanceMethod yX8_status ∈ uw := uw_in 774 (by decide +kernel)
theorem ws_X8_status : Cond.selects RX8 yX8_status yX8_status ∈ uw := uw_in 775 (by decide +kernel)
theorem wm_X8_tray : Cond.instanceMethod yX8_tray ∈ uw := uw_in 778 (by decide +kernel)
theorem ws_X8_tray : Cond.selects RX8 yX8_tray yX8_tray ∈ uw := uw_in 779 (by decide +kernel)
theorem wm_X8_no : Cond.instanceMethod yX8_no ∈ uw := uw_in 783 (by decide +kernel)
theorem wm_X8_write : Cond.instanceMethod yX8_write ∈ uw := uw_in 786 (by decide +kernel)
theorem ws_X8_write : Cond.selects RX8 yX8_write yX8_write ∈ uw := uw_in 787 (by decide +kernel)
theorem wm_X8_placed : Cond.instanceMethod yX8_placed ∈ uw := uw_in 791 (by decide +kernel)
theorem wm_X8_trayed : Cond.instanceMethod yX8_trayed ∈ uw := uw_in 795 (by decide +kernel)
theorem wst_X8_cut : Cond.static yX8_cut ∈ uw := uw_in 798 (by decide +kernel)
theorem wm_X8_read : Cond.instanceMethod yX8_read ∈ uw := uw_in 801 (by decide +kernel)
theorem ws_X8_read : Cond.selects RX8 yX8_read yX8_read ∈ uw := uw_in 802 (by decide +kernel)
theorem wm_X8_pour : Cond.instanceMethod yX8_pour ∈ uw := uw_in 806 (by decide +kernel)
theorem ws_X8_pour : Cond.selects RX8 yX8_pour yX8_pour ∈ uw := uw_in 807 (by decide +kernel)
theorem wm_X8_thing : Cond.instanceMethod yX8_thing ∈ uw := uw_in 810 (by decide +kernel)
theorem ws_X8_thing : Cond.selects RX8 yX8_thing yX8_thing ∈ uw := uw_in 811 (by decide +kernel)
theorem wm_X8_refuse : Cond.instanceMethod yX8_refuse ∈ uw := uw_in 815 (by decide +kernel)
theorem wm_X8_isThing : Cond.instanceMethod yX8_isThing ∈ uw := uw_in 819 (by decide +kernel)
theorem wm_X8_told : Cond.instanceMethod yX8_told ∈ uw := uw_in 822 (by decide +kernel)
theorem ws_X8_told : Cond.selects RX8 yX8_told yX8_told ∈ uw := uw_in 823 (by decide +kernel)
theorem wm_X8_say : Cond.instanceMethod yX8_say ∈ uw := uw_in 826 (by decide +kernel)
theorem ws_X8_say : Cond.selects RX8 yX8_say yX8_say ∈ uw := uw_in 827 (by decide +kernel)
theorem wst_X8_isField : Cond.static yX8_isField ∈ uw := uw_in 830 (by decide +kernel)
theorem wm_X8_has : Cond.instanceMethod yX8_has ∈ uw := uw_in 833 (by decide +kernel)
theorem ws_X8_has : Cond.selects RX8 yX8_has yX8_has ∈ uw := uw_in 834 (by decide +kernel)
theorem wm_X8_hasOf : Cond.instanceMethod yX8_hasOf ∈ uw := uw_in 838 (by decide +kernel)
theorem wm_X8_span : Cond.instanceMethod yX8_span ∈ uw := uw_in 841 (by decide +kernel)
theorem ws_X8_span : Cond.selects RX8 yX8_span yX8_span ∈ uw := uw_in 842 (by decide +kernel)
theorem wm_X8_noSpan : Cond.instanceMethod yX8_noSpan ∈ uw := uw_in 846 (by decide +kernel)
theorem ws_X8_noSpan : Cond.selects RX8 yX8_noSpan yX8_noSpan ∈ uw := uw_in 847 (by decide +kernel)
theorem wm_X8_held : Cond.instanceMethod yX8_held ∈ uw := uw_in 850 (by decide +kernel)
theorem ws_X8_held : Cond.selects RX8 yX8_held yX8_held ∈ uw := uw_in 851 (by decide +kernel)
theorem wm_X8_holds : Cond.instanceMethod yX8_holds ∈ uw := uw_in 855 (by decide +kernel)
theorem wm_X8_quarrel : Cond.instanceMethod yX8_quarrel ∈ uw := uw_in 860 (by decide +kernel)
theorem ws_X8_quarrel : Cond.selects RX8 yX8_quarrel yX8_quarrel ∈ uw := uw_in 861 (by decide +kernel)
theorem wm_X8_count : Cond.instanceMethod yX8_count ∈ uw := uw_in 864 (by decide +kernel)
theorem ws_X8_count : Cond.selects RX8 yX8_count yX8_count ∈ uw := uw_in 865 (by decide +kernel)
theorem wm_X8_join : Cond.instanceMethod yX8_join ∈ uw := uw_in 868 (by decide +kernel)
theorem ws_X8_join : Cond.selects RX8 yX8_join yX8_join ∈ uw := uw_in 869 (by decide +kernel)
theorem wm_X8_close : Cond.instanceMethod yX8_close ∈ uw := uw_in 872 (by decide +kernel)
theorem ws_X8_close : Cond.selects RX8 yX8_close yX8_close ∈ uw := uw_in 873 (by decide +kernel)
theorem wm_X8_sees : Cond.instanceMethod yX8_sees ∈ uw := uw_in 878 (by decide +kernel)
theorem ws_X8_sees : Cond.selects RX8 yX8_sees yX8_sees ∈ uw := uw_in 879 (by decide +kernel)
theorem wst_X8_isPerson : Cond.static yX8_isPerson ∈ uw := uw_in 882 (by decide +kernel)
theorem wst_X8_isDay : Cond.static yX8_isDay ∈ uw := uw_in 885 (by decide +kernel)
theorem wm_X8_seesOf : Cond.instanceMethod yX8_seesOf ∈ uw := uw_in 890 (by decide +kernel)
theorem wm_X8_number : Cond.instanceMethod yX8_number ∈ uw := uw_in 893 (by decide +kernel)
theorem ws_X8_number : Cond.selects RX8 yX8_number yX8_number ∈ uw := uw_in 894 (by decide +kernel)
theorem wm_X8_isPart : Cond.instanceMethod yX8_isPart ∈ uw := uw_in 898 (by decide +kernel)
theorem wm_X8_isFirst : Cond.instanceMethod yX8_isFirst ∈ uw := uw_in 902 (by decide +kernel)
theorem wm_X8_find : Cond.instanceMethod yX8_find ∈ uw := uw_in 905 (by decide +kernel)
theorem ws_X8_find : Cond.selects RX8 yX8_find yX8_find ∈ uw := uw_in 906 (by decide +kernel)
theorem wm_X8_mark : Cond.instanceMethod yX8_mark ∈ uw := uw_in 909 (by decide +kernel)
theorem ws_X8_mark : Cond.selects RX8 yX8_mark yX8_mark ∈ uw := uw_in 910 (by decide +kernel)
theorem wm_X8_walk : Cond.instanceMethod yX8_walk ∈ uw := uw_in 913 (by decide +kernel)
theorem ws_X8_walk : Cond.selects RX8 yX8_walk yX8_walk ∈ uw := uw_in 914 (by decide +kernel)
theorem wm_X8_fetch : Cond.instanceMethod yX8_fetch ∈ uw := uw_in 917 (by decide +kernel)
theorem ws_X8_fetch : Cond.selects RX8 yX8_fetch yX8_fetch ∈ uw := uw_in 918 (by decide +kernel)
theorem wm_X8_lastTick : Cond.instanceMethod yX8_lastTick ∈ uw := uw_in 922 (by decide +kernel)
theorem wm_X8_isOut : Cond.instanceMethod yX8_isOut ∈ uw := uw_in 926 (by decide +kernel)
theorem wm_X8_latest : Cond.instanceMethod yX8_latest ∈ uw := uw_in 930 (by decide +kernel)
theorem wm_X8_enter : Cond.instanceMethod yX8_enter ∈ uw := uw_in 934 (by decide +kernel)
theorem wm_X8_back : Cond.instanceMethod yX8_back ∈ uw := uw_in 937 (by decide +kernel)
theorem ws_X8_back : Cond.selects RX8 yX8_back yX8_back ∈ uw := uw_in 938 (by decide +kernel)
theorem wm_X8_where : Cond.instanceMethod yX8_where ∈ uw := uw_in 941 (by decide +kernel)
theorem ws_X8_where : Cond.selects RX8 yX8_where yX8_where ∈ uw := uw_in 942 (by decide +kernel)
theorem wm_X8_stand : Cond.instanceMethod yX8_stand ∈ uw := uw_in 945 (by decide +kernel)
theorem ws_X8_stand : Cond.selects RX8 yX8_stand yX8_stand ∈ uw := uw_in 946 (by decide +kernel)
theorem wm_X8_boxed : Cond.instanceMethod yX8_boxed ∈ uw := uw_in 950 (by decide +kernel)
theorem wm_X8_goal : Cond.instanceMethod yX8_goal ∈ uw := uw_in 953 (by decide +kernel)
theorem ws_X8_goal : Cond.selects RX8 yX8_goal yX8_goal ∈ uw := uw_in 954 (by decide +kernel)
theorem wm_X8_plan : Cond.instanceMethod yX8_plan ∈ uw := uw_in 957 (by decide +kernel)
theorem ws_X8_plan : Cond.selects RX8 yX8_plan yX8_plan ∈ uw := uw_in 958 (by decide +kernel)
theorem wm_X8_plans : Cond.instanceMethod yX8_plans ∈ uw := uw_in 962 (by decide +kernel)
theorem wm_X8_isAway : Cond.instanceMethod yX8_isAway ∈ uw := uw_in 966 (by decide +kernel)
theorem wm_X8_take : Cond.instanceMethod yX8_take ∈ uw := uw_in 970 (by decide +kernel)
theorem wm_X8_carry : Cond.instanceMethod yX8_carry ∈ uw := uw_in 973 (by decide +kernel)
theorem ws_X8_carry : Cond.selects RX8 yX8_carry yX8_carry ∈ uw := uw_in 974 (by decide +kernel)
theorem wm_X8_carried : Cond.instanceMethod yX8_carried ∈ uw := uw_in 977 (by decide +kernel)
theorem ws_X8_carried : Cond.selects RX8 yX8_carried yX8_carried ∈ uw := uw_in 978 (by decide +kernel)
theorem wm_X8_search : Cond.instanceMethod yX8_search ∈ uw := uw_in 981 (by decide +kernel)
theorem ws_X8_search : Cond.selects RX8 yX8_search yX8_search ∈ uw := uw_in 982 (by decide +kernel)
theorem wm_X8_costOf : Cond.instanceMethod yX8_costOf ∈ uw := uw_in 987 (by decide +kernel)
theorem wm_X8_weightOf : Cond.instanceMethod yX8_weightOf ∈ uw := uw_in 991 (by decide +kernel)
theorem wm_X8_upper : Cond.instanceMethod yX8_upper ∈ uw := uw_in 994 (by decide +kernel)
theorem ws_X8_upper : Cond.selects RX8 yX8_upper yX8_upper ∈ uw := uw_in 995 (by decide +kernel)
theorem wm_X8_lower : Cond.instanceMethod yX8_lower ∈ uw := uw_in 998 (by decide +kernel)
theorem ws_X8_lower : Cond.selects RX8 yX8_lower yX8_lower ∈ uw := uw_in 999 (by decide +kernel)
theorem ws_X7_trayAt : Cond.selects RX7 yX7_trayAt yX7_trayAt ∈ uw := uw_in 0 (by decide +kernel)
theorem ws_X7_deny : Cond.selects RX7 yX7_deny yX7_deny ∈ uw := uw_in 1 (by decide +kernel)
theorem ws_X7_grant : Cond.selects RX7 yX7_grant yX7_grant ∈ uw := uw_in 2 (by decide +kernel)
theorem ws_X6_cut : Cond.selects RX6 yX6_cut yX6_cut ∈ uw := uw_in 3 (by decide +kernel)
theorem ws_X7_refuse : Cond.selects RX7 yX7_refuse yX7_refuse ∈ uw := uw_in 4 (by decide +kernel)
theorem ws_X7_answer : Cond.selects RX7 yX7_answer yX7_answer ∈ uw := uw_in 5 (by decide +kernel)
theorem ws_X5_isClosedTo : Cond.selects RX5 yX5_isClosedTo yX5_isClosedTo ∈ uw := uw_in 6 (by decide +kernel)
theorem ws_X0_insertByMark : Cond.selects RX0 yX0_insertByMark yX0_insertByMark ∈ uw := uw_in 7 (by decide +kernel)
theorem ws_X7_whyNotOnShelf : Cond.selects RX7 yX7_whyNotOnShelf yX7_whyNotOnShelf ∈ uw := uw_in 8 (by decide +kernel)
theorem ws_X4_isGoalBlocked : Cond.selects RX4 yX4_isGoalBlocked yX4_isGoalBlocked ∈ uw := uw_in 9 (by decide +kernel)
theorem ws_X4_isAstray : Cond.selects RX4 yX4_isAstray yX4_isAstray ∈ uw := uw_in 10 (by decide +kernel)
theorem ws_X4_nextBox : Cond.selects RX4 yX4_nextBox yX4_nextBox ∈ uw := uw_in 11 (by decide +kernel)
theorem ws_X4_isGoalEmpty : Cond.selects RX4 yX4_isGoalEmpty yX4_isGoalEmpty ∈ uw := uw_in 12 (by decide +kernel)
theorem ws_X4_addCarry : Cond.selects RX4 yX4_addCarry yX4_addCarry ∈ uw := uw_in 13 (by decide +kernel)
theorem ws_X3_isCheaper : Cond.selects RX3 yX3_isCheaper yX3_isCheaper ∈ uw := uw_in 14 (by decide +kernel)
theorem ws_X7_keepFraction : Cond.selects RX7 yX7_keepFraction yX7_keepFraction ∈ uw := uw_in 15 (by decide +kernel)
theorem ws_X8_no : Cond.selects RX8 yX8_no yX8_no ∈ uw := uw_in 16 (by decide +kernel)
theorem ws_X8_placed : Cond.selects RX8 yX8_placed yX8_placed ∈ uw := uw_in 17 (by decide +kernel)
theorem ws_X8_trayed : Cond.selects RX8 yX8_trayed yX8_trayed ∈ uw := uw_in 18 (by decide +kernel)
theorem ws_X8_refuse : Cond.selects RX8 yX8_refuse yX8_refuse ∈ uw := uw_in 19 (by decide +kernel)
theorem ws_X8_isThing : Cond.selects RX8 yX8_isThing yX8_isThing ∈ uw := uw_in 20 (by decide +kernel)
theorem ws_X8_hasOf : Cond.selects RX8 yX8_hasOf yX8_hasOf ∈ uw := uw_in 21 (by decide +kernel)
theorem ws_X8_holds : Cond.selects RX8 yX8_holds yX8_holds ∈ uw := uw_in 22 (by decide +kernel)
theorem ws_X8_seesOf : Cond.selects RX8 yX8_seesOf yX8_seesOf ∈ uw := uw_in 23 (by decide +kernel)
theorem ws_X8_isPart : Cond.selects RX8 yX8_isPart yX8_isPart ∈ uw := uw_in 24 (by decide +kernel)
theorem ws_X8_isFirst : Cond.selects RX8 yX8_isFirst yX8_isFirst ∈ uw := uw_in 25 (by decide +kernel)
theorem ws_X8_lastTick : Cond.selects RX8 yX8_lastTick yX8_lastTick ∈ uw := uw_in 26 (by decide +kernel)
theorem ws_X8_isOut : Cond.selects RX8 yX8_isOut yX8_isOut ∈ uw := uw_in 27 (by decide +kernel)
theorem ws_X8_latest : Cond.selects RX8 yX8_latest yX8_latest ∈ uw := uw_in 28 (by decide +kernel)
theorem ws_X8_enter : Cond.selects RX8 yX8_enter yX8_enter ∈ uw := uw_in 29 (by decide +kernel)
theorem ws_X8_boxed : Cond.selects RX8 yX8_boxed yX8_boxed ∈ uw := uw_in 30 (by decide +kernel)
theorem ws_X8_plans : Cond.selects RX8 yX8_plans yX8_plans ∈ uw := uw_in 31 (by decide +kernel)
theorem ws_X8_isAway : Cond.selects RX8 yX8_isAway yX8_isAway ∈ uw := uw_in 32 (by decide +kernel)
theorem ws_X8_take : Cond.selects RX8 yX8_take yX8_take ∈ uw := uw_in 33 (by decide +kernel)
theorem ws_X8_costOf : Cond.selects RX8 yX8_costOf yX8_costOf ∈ uw := uw_in 34 (by decide +kernel)
theorem ws_X8_weightOf : Cond.selects RX8 yX8_weightOf yX8_weightOf ∈ uw := uw_in 35 (by decide +kernel)
theorem wd_X7_init : Cond.code yX7_init cX7_init 2 none ∈ uw := uw_in 53 (by decide +kernel)
theorem wd_objectInit : Cond.code objectInit ⟨#[0xb1]⟩ 1 none ∈ uw := uw_in 56 (by decide +kernel)
theorem wd_X0_init : Cond.code yX0_init cX0_init 1 none ∈ uw := uw_in 63 (by decide +kernel)
theorem wd_X2_init : Cond.code yX2_init cX2_init 1 none ∈ uw := uw_in 88 (by decide +kernel)
theorem wd_X4_init : Cond.code yX4_init cX4_init 1 none ∈ uw := uw_in 108 (by decide +kernel)
theorem wd_X1_init : Cond.code yX1_init cX1_init 1 none ∈ uw := uw_in 114 (by decide +kernel)
theorem wd_J7_fill_53178 : Cond.code yJ7_fill_53178 cJ7_fill_53178 4 none ∈ uw := uw_in 118 (by decide +kernel)
theorem wd_X3_init : Cond.code yX3_init cX3_init 1 none ∈ uw := uw_in 163 (by decide +kernel)
theorem wd_X6_init : Cond.code yX6_init cX6_init 1 none ∈ uw := uw_in 183 (by decide +kernel)
theorem wd_X7_status : Cond.code yX7_status cX7_status 1 (some .int) ∈ uw := uw_in 225 (by decide +kernel)
theorem wd_X7_tray : Cond.code yX7_tray cX7_tray 5 (some .boolean) ∈ uw := uw_in 229 (by decide +kernel)
theorem wd_X7_trayAt : Cond.code yX7_trayAt cX7_trayAt 2 (some (.object "BoxArchive$Tray")) ∈ uw := uw_in 233 (by decide +kernel)
theorem wd_X7_within : Cond.code yX7_within cX7_within 3 (some .boolean) ∈ uw := uw_in 236 (by decide +kernel)
theorem wd_X7_deny : Cond.code yX7_deny cX7_deny 2 (some .boolean) ∈ uw := uw_in 240 (by decide +kernel)
theorem wd_X6_renew : Cond.code yX6_renew cX6_renew 3 none ∈ uw := uw_in 244 (by decide +kernel)
theorem wd_J7_fill_d0a16 : Cond.code yJ7_fill_d0a16 cJ7_fill_d0a16 5 none ∈ uw := uw_in 247 (by decide +kernel)
theorem wd_X7_grant : Cond.code yX7_grant cX7_grant 1 (some .boolean) ∈ uw := uw_in 251 (by decide +kernel)
theorem wd_X7_write : Cond.code yX7_write cX7_write 7 (some .boolean) ∈ uw := uw_in 255 (by decide +kernel)
theorem wd_X7_whyNotIn : Cond.code yX7_whyNotIn cX7_whyNotIn 2 (some .int) ∈ uw := uw_in 258 (by decide +kernel)
theorem wd_X6_isMissing : Cond.code yX6_isMissing cX6_isMissing 1 (some .boolean) ∈ uw := uw_in 262 (by decide +kernel)
theorem wd_X6_hasPlace : Cond.code yX6_hasPlace cX6_hasPlace 2 (some .boolean) ∈ uw := uw_in 266 (by decide +kernel)
theorem wd_X6_put : Cond.code yX6_put cX6_put 4 none ∈ uw := uw_in 270 (by decide +kernel)
theorem wd_X6_cut : Cond.code yX6_cut cX6_cut 3 (some .long) ∈ uw := uw_in 274 (by decide +kernel)
theorem wd_X7_read : Cond.code yX7_read cX7_read 5 (some .long) ∈ uw := uw_in 278 (by decide +kernel)
theorem wd_X7_refuse : Cond.code yX7_refuse cX7_refuse 2 (some .int) ∈ uw := uw_in 282 (by decide +kernel)
theorem wd_X7_pour : Cond.code yX7_pour cX7_pour 8 (some .boolean) ∈ uw := uw_in 286 (by decide +kernel)
theorem wd_X6_hasRun : Cond.code yX6_hasRun cX6_hasRun 3 (some .boolean) ∈ uw := uw_in 290 (by decide +kernel)
theorem wd_X7_thing : Cond.code yX7_thing cX7_thing 4 (some .int) ∈ uw := uw_in 297 (by decide +kernel)
theorem wd_X0_at : Cond.code yX0_at cX0_at 2 (some (.object "BoxArchive$Thing")) ∈ uw := uw_in 301 (by decide +kernel)
theorem wd_X7_mayBeIn : Cond.code yX7_mayBeIn cX7_mayBeIn 2 (some .boolean) ∈ uw := uw_in 304 (by decide +kernel)
theorem wd_X0_add : Cond.code yX0_add cX0_add 4 (some .int) ∈ uw := uw_in 308 (by decide +kernel)
theorem wd_X5_init : Cond.code yX5_init cX5_init 4 none ∈ uw := uw_in 312 (by decide +kernel)
theorem wd_X7_answer : Cond.code yX7_answer cX7_answer 2 (some .int) ∈ uw := uw_in 370 (by decide +kernel)
theorem wd_X7_told : Cond.code yX7_told cX7_told 4 (some .int) ∈ uw := uw_in 374 (by decide +kernel)
theorem wd_X0_rightIn : Cond.code yX0_rightIn cX0_rightIn 4 (some .int) ∈ uw := uw_in 378 (by decide +kernel)
theorem wd_X7_say : Cond.code yX7_say cX7_say 5 (some .boolean) ∈ uw := uw_in 382 (by decide +kernel)
theorem wd_X7_isField : Cond.code yX7_isField cX7_isField 1 (some .boolean) ∈ uw := uw_in 385 (by decide +kernel)
theorem wd_X7_has : Cond.code yX7_has cX7_has 5 (some .int) ∈ uw := uw_in 389 (by decide +kernel)
theorem wd_X5_saidInLine : Cond.code yX5_saidInLine cX5_saidInLine 4 (some .int) ∈ uw := uw_in 393 (by decide +kernel)
theorem wd_X7_span : Cond.code yX7_span cX7_span 5 (some .boolean) ∈ uw := uw_in 397 (by decide +kernel)
theorem wd_X7_noSpan : Cond.code yX7_noSpan cX7_noSpan 3 (some .boolean) ∈ uw := uw_in 402 (by decide +kernel)
theorem wd_X5_hasSpan : Cond.code yX5_hasSpan cX5_hasSpan 1 (some .boolean) ∈ uw := uw_in 406 (by decide +kernel)
theorem wd_X7_held : Cond.code yX7_held cX7_held 5 (some .int) ∈ uw := uw_in 410 (by decide +kernel)
theorem wd_X0_heldDay : Cond.code yX0_heldDay cX0_heldDay 6 (some .int) ∈ uw := uw_in 414 (by decide +kernel)
theorem wd_X5_showsSpanTo : Cond.code yX5_showsSpanTo cX5_showsSpanTo 3 (some .boolean) ∈ uw := uw_in 419 (by decide +kernel)
theorem wd_J9_max_7cf53 : Cond.code yJ9_max_7cf53 cJ9_max_7cf53 2 (some .int) ∈ uw := uw_in 423 (by decide +kernel)
theorem wd_X0_earlier : Cond.code yX0_earlier cX0_earlier 2 (some .int) ∈ uw := uw_in 426 (by decide +kernel)
theorem wd_J9_min_7cf53 : Cond.code yJ9_min_7cf53 cJ9_min_7cf53 2 (some .int) ∈ uw := uw_in 429 (by decide +kernel)
theorem wd_X7_quarrel : Cond.code yX7_quarrel cX7_quarrel 3 (some .int) ∈ uw := uw_in 433 (by decide +kernel)
theorem wd_X0_quarrelling : Cond.code yX0_quarrelling cX0_quarrelling 4 (some .int) ∈ uw := uw_in 437 (by decide +kernel)
theorem wd_X5_hasQuarrel : Cond.code yX5_hasQuarrel cX5_hasQuarrel 2 (some .boolean) ∈ uw := uw_in 441 (by decide +kernel)
theorem wd_X7_count : Cond.code yX7_count cX7_count 4 (some .boolean) ∈ uw := uw_in 445 (by decide +kernel)
theorem wd_X7_join : Cond.code yX7_join cX7_join 5 (some .boolean) ∈ uw := uw_in 449 (by decide +kernel)
theorem wd_X0_unite : Cond.code yX0_unite cX0_unite 4 none ∈ uw := uw_in 453 (by decide +kernel)
theorem wd_X7_close : Cond.code yX7_close cX7_close 5 (some .boolean) ∈ uw := uw_in 457 (by decide +kernel)
theorem wd_X7_sees : Cond.code yX7_sees cX7_sees 5 (some .int) ∈ uw := uw_in 463 (by decide +kernel)
theorem wd_X7_isPerson : Cond.code yX7_isPerson cX7_isPerson 1 (some .boolean) ∈ uw := uw_in 466 (by decide +kernel)
theorem wd_X7_isDay : Cond.code yX7_isDay cX7_isDay 1 (some .boolean) ∈ uw := uw_in 469 (by decide +kernel)
theorem wd_X5_isSeen : Cond.code yX5_isSeen cX5_isSeen 4 (some .boolean) ∈ uw := uw_in 474 (by decide +kernel)
theorem wd_X5_isClosedTo : Cond.code yX5_isClosedTo cX5_isClosedTo 3 (some .boolean) ∈ uw := uw_in 478 (by decide +kernel)
theorem wd_X7_number : Cond.code yX7_number cX7_number 6 (some .int) ∈ uw := uw_in 482 (by decide +kernel)
theorem wd_X0_piecesSeen : Cond.code yX0_piecesSeen cX0_piecesSeen 7 (some .int) ∈ uw := uw_in 486 (by decide +kernel)
theorem wd_X0_isPartSeen : Cond.code yX0_isPartSeen cX0_isPartSeen 5 (some .boolean) ∈ uw := uw_in 489 (by decide +kernel)
theorem wd_X5_isPartOf : Cond.code yX5_isPartOf cX5_isPartOf 3 (some .boolean) ∈ uw := uw_in 493 (by decide +kernel)
theorem wd_X0_uncataloguedSeen : Cond.code yX0_uncataloguedSeen cX0_uncataloguedSeen 7 (some .int) ∈ uw := uw_in 498 (by decide +kernel)
theorem wd_X0_partsSeen : Cond.code yX0_partsSeen cX0_partsSeen 7 (some .int) ∈ uw := uw_in 502 (by decide +kernel)
theorem wd_X7_find : Cond.code yX7_find cX7_find 10 (some .int) ∈ uw := uw_in 506 (by decide +kernel)
theorem wd_X7_mark : Cond.code yX7_mark cX7_mark 4 (some .boolean) ∈ uw := uw_in 510 (by decide +kernel)
theorem wd_X0_isMarkOfAnother : Cond.code yX0_isMarkOfAnother cX0_isMarkOfAnother 4 (some .boolean) ∈ uw := uw_in 514 (by decide +kernel)
theorem wd_X7_walk : Cond.code yX7_walk cX7_walk 5 (some .int) ∈ uw := uw_in 518 (by decide +kernel)
theorem wd_X0_lineUpByMark : Cond.code yX0_lineUpByMark cX0_lineUpByMark 6 (some .int) ∈ uw := uw_in 522 (by decide +kernel)
theorem wd_X0_insertByMark : Cond.code yX0_insertByMark cX0_insertByMark 4 none ∈ uw := uw_in 526 (by decide +kernel)
theorem wd_X7_fetch : Cond.code yX7_fetch cX7_fetch 5 (some .boolean) ∈ uw := uw_in 530 (by decide +kernel)
theorem wd_X2_whyNot : Cond.code yX2_whyNot cX2_whyNot 3 (some .int) ∈ uw := uw_in 534 (by decide +kernel)
theorem wd_X2_holder : Cond.code yX2_holder cX2_holder 4 (some .int) ∈ uw := uw_in 540 (by decide +kernel)
theorem wd_X2_append : Cond.code yX2_append cX2_append 4 none ∈ uw := uw_in 544 (by decide +kernel)
theorem wd_X7_back : Cond.code yX7_back cX7_back 4 (some .boolean) ∈ uw := uw_in 548 (by decide +kernel)
theorem wd_X7_where : Cond.code yX7_where cX7_where 6 (some .int) ∈ uw := uw_in 552 (by decide +kernel)
theorem wd_X7_stand : Cond.code yX7_stand cX7_stand 4 (some .boolean) ∈ uw := uw_in 556 (by decide +kernel)
theorem wd_X7_whyNotOnShelf : Cond.code yX7_whyNotOnShelf cX7_whyNotOnShelf 4 (some .int) ∈ uw := uw_in 560 (by decide +kernel)
theorem wd_X1_isFreeFor : Cond.code yX1_isFreeFor cX1_isFreeFor 3 (some .boolean) ∈ uw := uw_in 564 (by decide +kernel)
theorem wd_X1_put : Cond.code yX1_put cX1_put 3 none ∈ uw := uw_in 568 (by decide +kernel)
theorem wd_X7_goal : Cond.code yX7_goal cX7_goal 4 (some .boolean) ∈ uw := uw_in 572 (by decide +kernel)
theorem wd_X4_isGoalOfAnother : Cond.code yX4_isGoalOfAnother cX4_isGoalOfAnother 4 (some .boolean) ∈ uw := uw_in 576 (by decide +kernel)
theorem wd_X7_plan : Cond.code yX7_plan cX7_plan 1 (some .int) ∈ uw := uw_in 580 (by decide +kernel)
theorem wd_X4_makePlan : Cond.code yX4_makePlan cX4_makePlan 4 (some .boolean) ∈ uw := uw_in 584 (by decide +kernel)
theorem wd_X1_copyFrom : Cond.code yX1_copyFrom cX1_copyFrom 2 none ∈ uw := uw_in 588 (by decide +kernel)
theorem wd_X4_isGoalBlocked : Cond.code yX4_isGoalBlocked cX4_isGoalBlocked 3 (some .boolean) ∈ uw := uw_in 593 (by decide +kernel)
theorem wd_X4_isAstray : Cond.code yX4_isAstray cX4_isAstray 2 (some .boolean) ∈ uw := uw_in 597 (by decide +kernel)
theorem wd_X4_nextBox : Cond.code yX4_nextBox cX4_nextBox 3 (some .int) ∈ uw := uw_in 601 (by decide +kernel)
theorem wd_X4_isGoalEmpty : Cond.code yX4_isGoalEmpty cX4_isGoalEmpty 2 (some .boolean) ∈ uw := uw_in 605 (by decide +kernel)
theorem wd_X1_leastEmpty : Cond.code yX1_leastEmpty cX1_leastEmpty 2 (some .int) ∈ uw := uw_in 609 (by decide +kernel)
theorem wd_X4_addCarry : Cond.code yX4_addCarry cX4_addCarry 3 none ∈ uw := uw_in 613 (by decide +kernel)
theorem wd_X7_carry : Cond.code yX7_carry cX7_carry 3 (some .int) ∈ uw := uw_in 618 (by decide +kernel)
theorem wd_X7_carried : Cond.code yX7_carried cX7_carried 1 (some .boolean) ∈ uw := uw_in 622 (by decide +kernel)
theorem wd_X7_search : Cond.code yX7_search cX7_search 5 (some .int) ∈ uw := uw_in 627 (by decide +kernel)
theorem wd_X3_takes : Cond.code yX3_takes cX3_takes 4 (some .boolean) ∈ uw := uw_in 631 (by decide +kernel)
theorem wd_X3_isFit : Cond.code yX3_isFit cX3_isFit 2 (some .boolean) ∈ uw := uw_in 634 (by decide +kernel)
theorem wd_X3_arrange : Cond.code yX3_arrange cX3_arrange 3 none ∈ uw := uw_in 639 (by decide +kernel)
theorem wd_X3_isCheaper : Cond.code yX3_isCheaper cX3_isCheaper 3 (some .boolean) ∈ uw := uw_in 643 (by decide +kernel)
theorem wd_X3_weightedCosts : Cond.code yX3_weightedCosts cX3_weightedCosts 6 (some .long) ∈ uw := uw_in 647 (by decide +kernel)
theorem wd_X3_weights : Cond.code yX3_weights cX3_weights 4 (some .long) ∈ uw := uw_in 651 (by decide +kernel)
theorem wd_X7_keepFraction : Cond.code yX7_keepFraction cX7_keepFraction 7 none ∈ uw := uw_in 655 (by decide +kernel)
theorem wd_X7_commonDivisor : Cond.code yX7_commonDivisor cX7_commonDivisor 11 (some .long) ∈ uw := uw_in 658 (by decide +kernel)
theorem wd_X7_upper : Cond.code yX7_upper cX7_upper 1 (some .long) ∈ uw := uw_in 662 (by decide +kernel)
theorem wd_X7_lower : Cond.code yX7_lower cX7_lower 1 (some .long) ∈ uw := uw_in 666 (by decide +kernel)
theorem wd_X8_init : Cond.code yX8_init cX8_init 2 none ∈ uw := uw_in 671 (by decide +kernel)
theorem wd_X8_status : Cond.code yX8_status cX8_status 1 (some .int) ∈ uw := uw_in 776 (by decide +kernel)
theorem wd_X8_tray : Cond.code yX8_tray cX8_tray 5 (some .boolean) ∈ uw := uw_in 780 (by decide +kernel)
theorem wd_X8_no : Cond.code yX8_no cX8_no 2 (some .boolean) ∈ uw := uw_in 784 (by decide +kernel)
theorem wd_X8_write : Cond.code yX8_write cX8_write 5 (some .boolean) ∈ uw := uw_in 788 (by decide +kernel)
theorem wd_X8_placed : Cond.code yX8_placed cX8_placed 4 (some .int) ∈ uw := uw_in 792 (by decide +kernel)
theorem wd_X8_trayed : Cond.code yX8_trayed cX8_trayed 2 (some .int) ∈ uw := uw_in 796 (by decide +kernel)
theorem wd_X8_cut : Cond.code yX8_cut cX8_cut 3 (some .long) ∈ uw := uw_in 799 (by decide +kernel)
theorem wd_X8_read : Cond.code yX8_read cX8_read 3 (some .long) ∈ uw := uw_in 803 (by decide +kernel)
theorem wd_X8_pour : Cond.code yX8_pour cX8_pour 9 (some .boolean) ∈ uw := uw_in 808 (by decide +kernel)
theorem wd_X8_thing : Cond.code yX8_thing cX8_thing 5 (some .int) ∈ uw := uw_in 812 (by decide +kernel)
theorem wd_X8_refuse : Cond.code yX8_refuse cX8_refuse 2 (some .int) ∈ uw := uw_in 816 (by decide +kernel)
theorem wd_X8_isThing : Cond.code yX8_isThing cX8_isThing 2 (some .boolean) ∈ uw := uw_in 820 (by decide +kernel)
theorem wd_X8_told : Cond.code yX8_told cX8_told 5 (some .int) ∈ uw := uw_in 824 (by decide +kernel)
theorem wd_X8_say : Cond.code yX8_say cX8_say 4 (some .boolean) ∈ uw := uw_in 828 (by decide +kernel)
theorem wd_X8_isField : Cond.code yX8_isField cX8_isField 1 (some .boolean) ∈ uw := uw_in 831 (by decide +kernel)
theorem wd_X8_has : Cond.code yX8_has cX8_has 4 (some .int) ∈ uw := uw_in 835 (by decide +kernel)
theorem wd_X8_hasOf : Cond.code yX8_hasOf cX8_hasOf 4 (some .int) ∈ uw := uw_in 839 (by decide +kernel)
theorem wd_X8_span : Cond.code yX8_span cX8_span 4 (some .boolean) ∈ uw := uw_in 843 (by decide +kernel)
theorem wd_X8_noSpan : Cond.code yX8_noSpan cX8_noSpan 2 (some .boolean) ∈ uw := uw_in 848 (by decide +kernel)
theorem wd_X8_held : Cond.code yX8_held cX8_held 3 (some .int) ∈ uw := uw_in 852 (by decide +kernel)
theorem wd_X8_holds : Cond.code yX8_holds cX8_holds 3 none ∈ uw := uw_in 856 (by decide +kernel)
theorem wd_X8_quarrel : Cond.code yX8_quarrel cX8_quarrel 5 (some .int) ∈ uw := uw_in 862 (by decide +kernel)
theorem wd_X8_count : Cond.code yX8_count cX8_count 3 (some .boolean) ∈ uw := uw_in 866 (by decide +kernel)
theorem wd_X8_join : Cond.code yX8_join cX8_join 6 (some .boolean) ∈ uw := uw_in 870 (by decide +kernel)
theorem wd_X8_close : Cond.code yX8_close cX8_close 4 (some .boolean) ∈ uw := uw_in 874 (by decide +kernel)
theorem wd_X8_sees : Cond.code yX8_sees cX8_sees 4 (some .int) ∈ uw := uw_in 880 (by decide +kernel)
theorem wd_X8_isPerson : Cond.code yX8_isPerson cX8_isPerson 1 (some .boolean) ∈ uw := uw_in 883 (by decide +kernel)
theorem wd_X8_isDay : Cond.code yX8_isDay cX8_isDay 1 (some .boolean) ∈ uw := uw_in 886 (by decide +kernel)
theorem wd_X8_seesOf : Cond.code yX8_seesOf cX8_seesOf 5 (some .boolean) ∈ uw := uw_in 891 (by decide +kernel)
theorem wd_X8_number : Cond.code yX8_number cX8_number 7 (some .int) ∈ uw := uw_in 895 (by decide +kernel)
theorem wd_X8_isPart : Cond.code yX8_isPart cX8_isPart 4 (some .boolean) ∈ uw := uw_in 899 (by decide +kernel)
theorem wd_X8_isFirst : Cond.code yX8_isFirst cX8_isFirst 6 (some .boolean) ∈ uw := uw_in 903 (by decide +kernel)
theorem wd_X8_find : Cond.code yX8_find cX8_find 8 (some .int) ∈ uw := uw_in 907 (by decide +kernel)
theorem wd_X8_mark : Cond.code yX8_mark cX8_mark 4 (some .boolean) ∈ uw := uw_in 911 (by decide +kernel)
theorem wd_X8_walk : Cond.code yX8_walk cX8_walk 8 (some .int) ∈ uw := uw_in 915 (by decide +kernel)
theorem wd_X8_fetch : Cond.code yX8_fetch cX8_fetch 4 (some .boolean) ∈ uw := uw_in 919 (by decide +kernel)
theorem wd_X8_lastTick : Cond.code yX8_lastTick cX8_lastTick 1 (some .int) ∈ uw := uw_in 923 (by decide +kernel)
theorem wd_X8_isOut : Cond.code yX8_isOut cX8_isOut 3 (some .boolean) ∈ uw := uw_in 927 (by decide +kernel)
theorem wd_X8_latest : Cond.code yX8_latest cX8_latest 5 (some .int) ∈ uw := uw_in 931 (by decide +kernel)
theorem wd_X8_enter : Cond.code yX8_enter cX8_enter 4 none ∈ uw := uw_in 935 (by decide +kernel)
theorem wd_X8_back : Cond.code yX8_back cX8_back 3 (some .boolean) ∈ uw := uw_in 939 (by decide +kernel)
theorem wd_X8_where : Cond.code yX8_where cX8_where 5 (some .int) ∈ uw := uw_in 943 (by decide +kernel)
theorem wd_X8_stand : Cond.code yX8_stand cX8_stand 4 (some .boolean) ∈ uw := uw_in 947 (by decide +kernel)
theorem wd_X8_boxed : Cond.code yX8_boxed cX8_boxed 3 (some .int) ∈ uw := uw_in 951 (by decide +kernel)
theorem wd_X8_goal : Cond.code yX8_goal cX8_goal 4 (some .boolean) ∈ uw := uw_in 955 (by decide +kernel)
theorem wd_X8_plan : Cond.code yX8_plan cX8_plan 1 (some .int) ∈ uw := uw_in 959 (by decide +kernel)
theorem wd_X8_plans : Cond.code yX8_plans cX8_plans 5 (some .boolean) ∈ uw := uw_in 963 (by decide +kernel)
theorem wd_X8_isAway : Cond.code yX8_isAway cX8_isAway 2 (some .boolean) ∈ uw := uw_in 967 (by decide +kernel)
theorem wd_X8_take : Cond.code yX8_take cX8_take 3 none ∈ uw := uw_in 971 (by decide +kernel)
theorem wd_X8_carry : Cond.code yX8_carry cX8_carry 3 (some .int) ∈ uw := uw_in 975 (by decide +kernel)
theorem wd_X8_carried : Cond.code yX8_carried cX8_carried 2 (some .boolean) ∈ uw := uw_in 979 (by decide +kernel)
theorem wd_X8_search : Cond.code yX8_search cX8_search 16 (some .int) ∈ uw := uw_in 983 (by decide +kernel)
theorem wd_X8_costOf : Cond.code yX8_costOf cX8_costOf 3 (some .long) ∈ uw := uw_in 988 (by decide +kernel)
theorem wd_X8_weightOf : Cond.code yX8_weightOf cX8_weightOf 3 (some .long) ∈ uw := uw_in 992 (by decide +kernel)
theorem wd_X8_upper : Cond.code yX8_upper cX8_upper 1 (some .long) ∈ uw := uw_in 996 (by decide +kernel)
theorem wd_X8_lower : Cond.code yX8_lower cX8_lower 1 (some .long) ∈ uw := uw_in 1000 (by decide +kernel)
theorem inX0 : ∀ w ∈ u_ws RX0 TX0 4, w ∈ uw := uw_ins [74, 76, 78, 80] (by decide +kernel) (by decide +kernel)
theorem inX1 : ∀ w ∈ u_ws RX1 TX1 2, w ∈ uw := uw_ins [124, 126] (by decide +kernel) (by decide +kernel)
theorem inX2 : ∀ w ∈ u_ws RX2 TX2 4, w ∈ uw := uw_ins [94, 96, 98, 100] (by decide +kernel) (by decide +kernel)
theorem inX3 : ∀ w ∈ u_ws RX3 TX3 4, w ∈ uw := uw_ins [170, 172, 174, 176] (by decide +kernel) (by decide +kernel)
theorem inX4 : ∀ w ∈ u_ws RX4 TX4 7, w ∈ uw := uw_ins [144, 146, 148, 150, 152, 154, 156] (by decide +kernel) (by decide +kernel)
theorem inX5 : ∀ w ∈ u_ws RX5 TX5 11, w ∈ uw := uw_ins [344, 346, 348, 350, 352, 354, 356, 358, 360, 362, 364] (by decide +kernel) (by decide +kernel)
theorem inX6 : ∀ w ∈ u_ws RX6 TX6 3, w ∈ uw := uw_ins [190, 192, 194] (by decide +kernel) (by decide +kernel)
theorem inX7 : ∀ w ∈ u_ws RX7 TX7 8, w ∈ uw := uw_ins [205, 207, 209, 211, 213, 215, 217, 219] (by decide +kernel) (by decide +kernel)
theorem inX8 : ∀ w ∈ u_ws RX8 TX8 33, w ∈ uw := uw_ins [706, 708, 710, 712, 714, 716, 718, 720, 722, 724, 726, 728, 730, 732, 734, 736, 738, 740, 742, 744, 746, 748, 750, 752, 754, 756, 758, 760, 762, 764, 766, 768, 770] (by decide +kernel) (by decide +kernel)
def nestW : List Cond := [Cond.methodLinkNest RX7 17 yX0_init "BoxArchive", Cond.methodLinkNest RX7 24 yX2_init "BoxArchive", Cond.methodLinkNest RX7 38 yX3_init "BoxArchive", Cond.methodLinkNest RX7 54 yX6_init "BoxArchive", Cond.methodLinkNest RX2 26 yX7_within "BoxArchive"]
theorem nestW_in : ∀ w ∈ nestW, w ∈ lw_tbl := by
  intro w hw
  have hp : nestW = [61, 86, 161, 181, 536].filterMap (fun i => lw_tbl[i]?) := by decide +kernel
  rw [hp] at hw
  obtain ⟨i, -, hi⟩ := List.mem_filterMap.mp hw
  exact List.mem_of_getElem? hi
theorem wq_X7_17 : Cond.methodLinkNest RX7 17 yX0_init "BoxArchive" ∈ nestW := List.mem_of_getElem? (i := 0) rfl
theorem wq_X7_24 : Cond.methodLinkNest RX7 24 yX2_init "BoxArchive" ∈ nestW := List.mem_of_getElem? (i := 1) rfl
theorem wq_X7_38 : Cond.methodLinkNest RX7 38 yX3_init "BoxArchive" ∈ nestW := List.mem_of_getElem? (i := 2) rfl
theorem wq_X7_54 : Cond.methodLinkNest RX7 54 yX6_init "BoxArchive" ∈ nestW := List.mem_of_getElem? (i := 3) rfl
theorem wq_X2_26 : Cond.methodLinkNest RX2 26 yX7_within "BoxArchive" ∈ nestW := List.mem_of_getElem? (i := 4) rfl
theorem wo_X5 : Cond.arrayOver (.object RX5) ∈ lw_tbl := List.mem_of_getElem? (i := 66) (by decide +kernel)
theorem wo_X6 : Cond.arrayOver (.object RX6) ∈ lw_tbl := List.mem_of_getElem? (i := 58) (by decide +kernel)
end
section
/-! MEMORY: the cells that the law and what it calls have made, by number: cell r lies at address sz + r. A memory: how many cells, what ints, longs and references they hold. -/
abbrev Mm : Type := Nat × (Nat → Nat → Int32) × (Nat → Nat → Int64) × (Nat → Nat → Option Nat)
def gI (u : Mm) (r k : Nat) : Int32 := u.2.1 r k
def gL (u : Mm) (r k : Nat) : Int64 := u.2.2.1 r k
def gR (u : Mm) (r k : Nat) : Option Nat := u.2.2.2 r k
def up2 {α : Type} (f : Nat → Nat → α) (r k : Nat) (v : α) : Nat → Nat → α := fun a j => if a = r ∧ j = k then v else f a j
def upr {α : Type} (f : Nat → Nat → α) (r : Nat) (g : Nat → α) : Nat → Nat → α := fun a j => if a = r then g j else f a j
def sI (u : Mm) (r k : Nat) (v : Int32) : Mm := (u.1, up2 u.2.1 r k v, u.2.2.1, u.2.2.2)
def sL (u : Mm) (r k : Nat) (v : Int64) : Mm := (u.1, u.2.1, up2 u.2.2.1 r k v, u.2.2.2)
def sR (u : Mm) (r k : Nat) (v : Option Nat) : Mm := (u.1, u.2.1, u.2.2.1, up2 u.2.2.2 r k v)
/-- a whole row of ints, of longs -/
def rI (u : Mm) (r : Nat) (g : Nat → Int32) : Mm := (u.1, upr u.2.1 r g, u.2.2.1, u.2.2.2)
def rL (u : Mm) (r : Nat) (g : Nat → Int64) : Mm := (u.1, u.2.1, upr u.2.2.1 r g, u.2.2.2)
/-- one cell more, empty -/
def nw (u : Mm) : Mm := (u.1 + 1, upr u.2.1 u.1 (fun _ => 0), upr u.2.2.1 u.1 (fun _ => 0), upr u.2.2.2 u.1 (fun _ => none))
/-- the cells of the law: which kind each number has (0 to 8: objects by the classes' list; 9 int rows, 10 long rows, 11 boolean rows, 12 rows of things, 13 rows of trays), how long a row is; from 60 on: a thing, its row of fields, a thing .. -/
def shpT : List Nat := [7, 13, 0, 12, 12, 11, 2, 9, 9, 9, 4, 1, 9, 9, 1, 9, 9, 9, 9, 9, 9, 3, 9, 10, 10, 6, 10, 6, 10, 6, 10, 6, 10, 8, 9, 9, 10, 9, 9, 9, 9, 9, 9, 9, 9, 9, 9, 9, 9, 9, 9, 9, 9, 9, 9, 9, 9, 9, 9, 9]
def alnT : List Nat := [0, 4, 0, 80, 80, 80, 0, 200, 200, 200, 0, 0, 80, 40, 0, 80, 40, 80, 80, 80, 80, 0, 20, 20, 20, 0, 40, 0, 40, 0, 40, 0, 40, 0, 4, 4, 160, 80, 80, 80, 80, 480, 80, 80, 80, 80, 80, 80, 80, 80, 80, 200, 200, 200, 40, 80, 400, 400, 400, 20]
def shp (r : Nat) : Nat := if r < 60 then shpT.getD r 99 else if r % 2 = 0 then 5 else 9
def aln (r : Nat) : Nat := if r < 60 then alnT.getD r 0 else 6
def nfl (c : Nat) : Nat := [4, 2, 4, 4, 7, 11, 3, 8, 33].getD c 0
def kd (c k : Nat) : Nat := match c with
  | 0 => [2, 0, 2, 2].getD k 0
  | 1 => [2, 2].getD k 0
  | 2 => [2, 2, 2, 0].getD k 0
  | 3 => [2, 2, 2, 0].getD k 0
  | 4 => [2, 2, 2, 2, 2, 2, 0].getD k 0
  | 5 => [0, 0, 2, 2, 0, 0, 0, 0, 0, 0, 0].getD k 0
  | 6 => [2, 0, 0].getD k 0
  | 7 => [2, 2, 2, 2, 2, 0, 1, 1].getD k 0
  | 8 => [0, 0, 1, 1, 2, 2, 2, 0, 2, 2, 2, 2, 2, 2, 2, 2, 2, 2, 2, 2, 2, 2, 0, 2, 2, 2, 2, 2, 2, 2, 2, 0, 2].getD k 0
  | 9 => 0
  | 10 => 1
  | 11 => 0
  | _ => 2
/-- the value that stands in a place, by its kind: 0 an int, 1 a long, else a reference -/
def rv (sz : Nat) (x : Option Nat) : Value := va_rf (x.map (fun a => sz + a))
def mv (sz : Nat) (u : Mm) (kk r k : Nat) : Value := match kk with
  | 0 => .int (gI u r k)
  | 1 => .long (gL u r k)
  | _ => rv sz (gR u r k)
theorem rv_cat (sz : Nat) (x : Option Nat) : (rv sz x).category = 1 := by cases x <;> rfl
def cellOk (D : va_G) (cy : Nat → ClassId) (sz : Nat) (u : Mm) (r : Nat) (H : Heap) : Prop :=
  if shp r < 9 then t_OB (sz + r) (D.1 (shp r)) (nfl (shp r)) (D.2 (shp r)) H (fun k => mv sz u (kd (shp r) k) r k)
  else H[sz + r]? = some (arrV (cy (shp r)) (aln r) (fun j => mv sz u (kd (shp r) 0) r j))
/-- the heap is that of the law's start below sz, and the memory's cells from there on; all that was written lies there -/
def MM (D : va_G) (cy : Nat → ClassId) (sz : Nat) (H0 : Heap) (u : Mm) (H : Heap) (locs : List Loc) : Prop :=
  H.size = sz + u.1 ∧ (∀ q : Nat, q < sz → H[q]? = H0[q]?) ∧ (∀ r : Nat, r < u.1 → cellOk D cy sz u r H) ∧ ∀ q ∈ locs, sz ≤ q.base
def okO (u : Mm) (r c : Nat) : Bool := decide (r < u.1) && decide (shp r = c)
def okA (u : Mm) (r c : Nat) (i : Int32) : Bool := decide (r < u.1) && decide (shp r = c) && decide (¬ (i < 0 ∨ aln r ≤ i.toNatClampNeg))
def okN (u : Mm) (c : Nat) : Bool := decide (shp u.1 = c)
def okM (u : Mm) (c n : Nat) : Bool := decide (shp u.1 = c) && decide (aln u.1 = n)
def isB (v : Int32) : Bool := decide (v = 0) || decide (v = 1)
theorem okO_1 {u : Mm} {r c : Nat} (h : okO u r c = true) : r < u.1 ∧ shp r = c := by simpa [okO] using h
theorem okA_1 {u : Mm} {r c : Nat} {i : Int32} (h : okA u r c i = true) : r < u.1 ∧ shp r = c ∧ vp_in i (aln r) := by
  simp only [okA, Bool.and_eq_true, decide_eq_true_eq] at h
  exact ⟨h.1.1, h.1.2, h.2⟩
theorem okO_nw {u : Mm} {r c : Nat} (h : okO u r c = true) : okO (nw u) r c = true := by
  have := okO_1 h
  have h2 : r < (nw u).1 := Nat.lt_succ_of_lt this.1
  simp [okO, this.2, h2]
theorem okO_new {u : Mm} {c : Nat} (h : okN u c = true) : okO (nw u) u.1 c = true := by
  have h1 : shp u.1 = c := by simpa [okN] using h
  have h2 : u.1 < (nw u).1 := Nat.lt_succ_self _
  simp [okO, h1, h2]
theorem okO_newM {u : Mm} {c n : Nat} (h : okM u c n = true) : okO (nw u) u.1 c = true := by
  have h1 : shp u.1 = c ∧ aln u.1 = n := by simpa [okM] using h
  have h2 : u.1 < (nw u).1 := Nat.lt_succ_self _
  simp [okO, h1.1, h2]
/-- pieces of the programs: a guard, a name, a call, a case on a reference -/
def gd {α : Type} (b : Bool) (X : Option α) : Option α := match b with
  | true => X
  | false => none
def bb {α β : Type} (e : β) (K : β → Option α) : Option α := K e
def bd {α β : Type} (e : Option β) (K : β → Option α) : Option α := match e with
  | none => none
  | some v => K v
def cs {α : Type} (x : Option Nat) (A : Option α) (B : Nat → Option α) : Option α := match x with
  | none => A
  | some k => B k
theorem k_gd {α : Type} {b : Bool} {X : Option α} {res : α} (h : gd b X = some res) : b = true ∧ X = some res := by
  cases b
  · cases h
  · exact ⟨rfl, h⟩
theorem k_bb {α β : Type} {e : β} {K : β → Option α} {res : α} (h : bb e K = some res) (v : β) (hv : v = e) : K v = some res := by
  subst hv
  exact h
theorem k_bd {α β : Type} {e : Option β} {K : β → Option α} {res : α} (h : bd e K = some res) : ∃ v, e = some v ∧ K v = some res := by
  cases e with
  | none => cases h
  | some v => exact ⟨v, rfl, h⟩
theorem k_if {α : Type} {c : Prop} [Decidable c] {A B : Option α} {res : α} (h : (if c then A else B) = some res) : (c → A = some res) ∧ (¬ c → B = some res) := by
  by_cases hc : c
  · rw [if_pos hc] at h
    exact ⟨fun _ => h, fun q => absurd hc q⟩
  · rw [if_neg hc] at h
    exact ⟨fun q => absurd q hc, fun _ => h⟩
theorem gd_t {α : Type} (X : Option α) : gd true X = X := rfl
theorem bd_s {α β : Type} (v : β) (K : β → Option α) : bd (some v) K = K v := rfl
theorem cs_n {α : Type} (A : Option α) (B : Nat → Option α) : cs none A B = A := rfl
theorem cs_s {α : Type} (k : Nat) (A : Option α) (B : Nat → Option α) : cs (some k) A B = B k := rfl
theorem bb_e {α β : Type} (e : β) (K : β → Option α) : bb e K = K e := rfl
/-- a store: one cell changes -/
theorem MM.put {D : va_G} {cy : Nat → ClassId} {sz : Nat} {H0 H H' : Heap} {u u' : Mm} {locs : List Loc} {r : Nat} (h : MM D cy sz H0 u H locs) (hr : r < u.1) (z : H'.size = H.size) (oq : ∀ q : Nat, q ≠ sz + r → H'[q]? = H[q]?) (h1 : u'.1 = u.1)
    (hs : ∀ r' kk k : Nat, r' ≠ r → mv sz u' kk r' k = mv sz u kk r' k) (hc : cellOk D cy sz u' r H') {L : List Loc} (hL : ∀ q ∈ L, sz ≤ q.base) : MM D cy sz H0 u' H' (locs ++ L) := by
  obtain ⟨a1, a2, a3, a4⟩ := h
  refine ⟨by rw [z, a1, h1], fun q hq => by rw [oq q (by omega)]; exact a2 q hq, fun r' hr' => ?_, fun q hq => ?_⟩
  · by_cases e : r' = r
    · subst e; exact hc
    · have h2 := a3 r' (by rw [← h1]; exact hr')
      have h3 : H'[sz + r']? = H[sz + r']? := oq _ (by omega)
      unfold cellOk at h2 ⊢
      split
      · rename_i hlt
        rw [if_pos hlt] at h2
        exact (h2.kept h3).to (fun k _ => (hs r' _ k e).symm)
      · rename_i hlt
        rw [if_neg hlt] at h2
        rw [h3, h2]
        congr 2
        funext j
        exact (hs r' _ j e).symm
  · rcases List.mem_append.mp hq with h | h
    · exact a4 q h
    · exact hL q h
theorem mv_sI {sz : Nat} {u : Mm} {r k : Nat} {v : Int32} : ∀ r' kk j : Nat, r' ≠ r → mv sz (sI u r k v) kk r' j = mv sz u kk r' j := by
  intro r' kk j h
  match kk with
  | 0 => simp [mv, gI, sI, up2, h]
  | 1 => rfl
  | n + 2 => rfl
theorem mv_sL {sz : Nat} {u : Mm} {r k : Nat} {v : Int64} : ∀ r' kk j : Nat, r' ≠ r → mv sz (sL u r k v) kk r' j = mv sz u kk r' j := by
  intro r' kk j h
  match kk with
  | 0 => rfl
  | 1 => simp [mv, gL, sL, up2, h]
  | n + 2 => rfl
theorem mv_sR {sz : Nat} {u : Mm} {r k : Nat} {v : Option Nat} : ∀ r' kk j : Nat, r' ≠ r → mv sz (sR u r k v) kk r' j = mv sz u kk r' j := by
  intro r' kk j h
  match kk with
  | 0 => rfl
  | 1 => rfl
  | n + 2 => simp [mv, gR, sR, up2, h]
theorem mv_rI {sz : Nat} {u : Mm} {r : Nat} {g : Nat → Int32} : ∀ r' kk j : Nat, r' ≠ r → mv sz (rI u r g) kk r' j = mv sz u kk r' j := by
  intro r' kk j h
  match kk with
  | 0 => simp [mv, gI, rI, upr, h]
  | 1 => rfl
  | n + 2 => rfl
theorem mv_rL {sz : Nat} {u : Mm} {r : Nat} {g : Nat → Int64} : ∀ r' kk j : Nat, r' ≠ r → mv sz (rL u r g) kk r' j = mv sz u kk r' j := by
  intro r' kk j h
  match kk with
  | 0 => rfl
  | 1 => simp [mv, gL, rL, upr, h]
  | n + 2 => rfl
theorem mv_nw {sz : Nat} {u : Mm} : ∀ r' kk j : Nat, r' ≠ u.1 → mv sz (nw u) kk r' j = mv sz u kk r' j := by
  intro r' kk j h
  match kk with
  | 0 => simp [mv, gI, nw, upr, h]
  | 1 => simp [mv, gL, nw, upr, h]
  | n + 2 => simp [mv, gR, nw, upr, h]
theorem MM.new {D : va_G} {cy : Nat → ClassId} {sz : Nat} {H0 H H' : Heap} {u : Mm} {locs : List Loc} (h : MM D cy sz H0 u H locs) (z : H'.size = sz + u.1 + 1) (oq : ∀ q : Nat, q < sz + u.1 → H'[q]? = H[q]?) (hc : cellOk D cy sz (nw u) u.1 H') : MM D cy sz H0 (nw u) H' locs := by
  obtain ⟨a1, a2, a3, a4⟩ := h
  refine ⟨by rw [z]; rfl, fun q hq => by rw [oq q (by omega)]; exact a2 q hq, fun r' hr' => ?_, a4⟩
  by_cases e : r' = u.1
  · subst e; exact hc
  · have hr2 : r' < u.1 := by
      have : r' < u.1 + 1 := hr'
      omega
    have h2 := a3 r' hr2
    have h3 : H'[sz + r']? = H[sz + r']? := oq _ (by omega)
    unfold cellOk at h2 ⊢
    split
    · rename_i hlt
      rw [if_pos hlt] at h2
      exact (h2.kept h3).to (fun k _ => (mv_nw r' _ k e).symm)
    · rename_i hlt
      rw [if_neg hlt] at h2
      rw [h3, h2]
      congr 2
      funext j
      exact (mv_nw r' _ j e).symm
/-- the tables' part of a world: the classes, the classes of the arrays, the nest mates' links -/
def tysOf (cy : Nat → ClassId) : List (ClassId × FieldType) := [(cy 9, .int), (cy 10, .long), (cy 11, .boolean), (cy 12, .object RX5), (cy 13, .object RX6)]
def KK (D : va_G) (cy : Nat → ClassId) (U : State) : Prop := va_K D vwCl (tysOf cy) U ∧ va_AO RX5 U ∧ va_AO RX6 U ∧ ∀ w ∈ nestW, va_Nw w U
theorem nestW_ok : ∀ w ∈ nestW, w.onTables = true := by decide
theorem nestW_link : ∀ w ∈ nestW, ∃ a i x h, w = Cond.methodLinkNest a i x h := by
  intro w hw
  simp only [nestW, List.mem_cons, List.not_mem_nil, or_false] at hw
  rcases hw with rfl | rfl | rfl | rfl | rfl <;> exact ⟨_, _, _, _, rfl⟩
theorem KK.warm {D : va_G} {cy : Nat → ClassId} {s U : State} (hW : s.WarmedH U.vm) (h : KK D cy s) : KK D cy U := by
  obtain ⟨h1, h2, h3, h4⟩ := h
  refine ⟨h1.moved hW.alike, h2.moved hW.alike, h3.moved hW.alike, fun w hw => ?_⟩
  have hq := h4 w hw
  obtain ⟨a, i, x, y, rfl⟩ := nestW_link w hw
  exact va_Nw.warmM hW hq
theorem KK.same {D : va_G} {cy : Nat → ClassId} {s U : State} (hv : s.vm = U.vm) (h : KK D cy s) : KK D cy U := by
  obtain ⟨h1, h2, h3, h4⟩ := h
  have ha : s.vm.Alike U.vm := by rw [hv]; exact Vm.Alike.refl _
  exact ⟨h1.moved ha, h2.moved ha, h3.moved ha, fun w hw => va_Nw.same (nestW_ok w hw) hv (h4 w hw)⟩
/-- what a walk stands on -/
def EE (p : Program) (s : State) (m : MethodId) (args : Array Value) (c : Code) (cc : ByteArray) (nL : Nat) (own : String) (D : va_G) (cy : Nat → ClassId) : Prop :=
  p.tables.exec = Jvm.exec ∧ c.code = cc ∧ c.maxLocals = nL ∧ s.vm.findClass own = some m.cls ∧ (∀ w ∈ uw, w.before args s = true) ∧ KK D cy s
def Pre (D : va_G) (cy : Nat → ClassId) (sz : Nat) (H0 : Heap) (u : Mm) (av : List Value) : Array Value → State → Prop := fun v U => v = av.toArray ∧ MM D cy sz H0 u U.heap [] ∧ KK D cy U
def Post (D : va_G) (cy : Nat → ClassId) (sz : Nat) (H0 : Heap) (o : Option Value) (u' : Mm) : Array Value → State → Outcome → State → Prop := fun _ _ oc t => oc = .returned o ∧ MM D cy sz H0 u' t.heap []
theorem Pre.blind {D : va_G} {cy : Nat → ClassId} {sz : Nat} {H0 : Heap} {u : Mm} {av : List Value} : FrameBlind (Pre D cy sz H0 u av) := by
  intro a U g mk h
  exact ⟨h.1, h.2.1, KK.same (s := U) (U := U.calling g mk a) rfl h.2.2⟩
/-- a method's contract: called in memory u with av it returns o, in memory u' -/
abbrev Ctr (l : Launch) (y : MethodName) (cc : ByteArray) (mxL : Nat) (ret : Option FieldType) (rm : Room) (mc ms : Nat) (D : va_G) (cy : Nat → ClassId) (sz : Nat) (H0 : Heap) (u : Mm) (av : List Value) (o : Option Value) (u' : Mm) : Prop :=
  Met l y (Cond.code y cc mxL ret :: uw) rm (Pre D cy sz H0 u av) (Post D cy sz H0 o u') mc ms (fun q => sz ≤ q)
end
section
section MROWS
variable {p : Program} {l : Launch} {e : Env} {R : Room} {s : State} {m : MethodId} {args : Array Value} {below : List Frame} {meth : Method} {c : Code} {H : Heap} {locs : List Loc} {cells slots : Nat} {Q : State → Prop}
variable {cc : ByteArray} {pc nL : Nat} {ls : Array Slot} {rest : List Value} {own : String} {D : va_G} {cy : Nat → ClassId} {sz : Nat} {H0 : Heap} {u : Mm} {r : Nat}
theorem cell_obj {ci N : Nat} {C : String} {T : u_T} (hM : MM D cy sz H0 u H locs) (hok : okO u r ci = true) (hci : ci < 9) (hN : nfl ci = N) : t_OB (sz + r) (D.1 ci) N (D.2 ci) H (fun k => mv sz u (kd ci k) r k) := by
  obtain ⟨h1, h2⟩ := okO_1 hok
  have h3 := hM.2.2.1 r h1
  unfold cellOk at h3
  rw [h2, if_pos hci, hN] at h3
  exact h3
theorem cell_arr {sh : Nat} (hM : MM D cy sz H0 u H locs) (h1 : r < u.1) (h2 : shp r = sh) (hsh : ¬ sh < 9) : H[sz + r]? = some (arrV (cy sh) (aln r) (fun j => mv sz u (kd sh 0) r j)) := by
  have h3 := hM.2.2.1 r h1
  unfold cellOk at h3
  rw [h2, if_neg hsh] at h3
  exact h3
theorem m_get (E : EE p s m args c cc nL own D cy) (hM : MM D cy sz H0 u H locs) {ci N k index : Nat} {C ref : String} {T : u_T} (hok : okO u r ci = true) (hci : ci < 9) (hN : nfl ci = N) (hc : vwCl[ci]? = some (C, T, N)) (hk : k < N) (hin : ∀ w ∈ u_ws C T N, w ∈ uw) (href : (T k).1 = ref) (hlink : Cond.fieldLink own index ref (T k).2.1 (T k).2.2.1 ∈ uw) (hdg : decode cc pc = .ok (.getfield index, 3))
    (kk : W p l e R s m args below meth c H locs cells slots Q (F0 m (pc + 3) ls (mv sz u (kd ci k) r k :: rest))) : W p l e R s m args below meth c H locs cells slots Q (F0 m pc ls (.ref (sz + r) :: rest)) := by
  obtain ⟨hx, hb, hml, hown, hts, hK, -⟩ := E
  obtain ⟨cell, q1, q2, q3, q4⟩ := cell_obj (C := C) (T := T) hM hok hci hN
  obtain ⟨hS, hfc, kC, hkC, hkind⟩ := hK.1 ci _ hc
  obtain ⟨cf, kf, fi, f, hi, hsl⟩ := hS k hk
  subst href
  refine W.getf hx hb hown (hts _ hlink) hi (u_facts hfc hkC (u_lays hts hin hk) hi).1 q1 (by rw [q3]; exact fun h => by cases h) (v := mv sz u (kd ci k) r k) ?_ rfl rfl hdg kk
  rw [hsl, q4 k hk]
theorem cell_set {ci N k : Nat} {u' : Mm} {cell : Cell} {H' : Heap} {v : Value} (hok : okO u r ci = true) (hci : ci < 9) (hN : nfl ci = N) (hk : k < N) (hap : ∀ a b, a < N → b < N → a ≠ b → D.2 ci a ≠ D.2 ci b) (q2 : cell.cls = D.1 ci) (q3 : cell.vm = .none) (q4 : ∀ j, j < N → cell.slots[D.2 ci j]? = some (mv sz u (kd ci j) r j))
    (e1 : H'[sz + r]? = some (cell.setSlot (D.2 ci k) v)) (hv : ∀ j, j < N → updV (fun j => mv sz u (kd ci j) r j) k v j = mv sz u' (kd ci j) r j) : cellOk D cy sz u' r H' := by
  obtain ⟨h1, h2⟩ := okO_1 hok
  unfold cellOk
  rw [h2, if_pos hci, hN]
  exact t_OB.to (V := updV (fun j => mv sz u (kd ci j) r j) k v) ⟨_, e1, q2, q3, t_set (V := fun j => mv sz u (kd ci j) r j) q4 hap hk v⟩ hv
theorem m_put (E : EE p s m args c cc nL own D cy) (hM : MM D cy sz H0 u H locs) {ci N k index : Nat} {C ref : String} {T : u_T} {u' : Mm} (ty0 : Nat → FieldType) (hty : ∀ k, k < N → parseFieldDescriptor (T k).2.2.1 = some (ty0 k)) (hnm : ∀ a, a < N → ∀ b, b < N → a ≠ b → (T a).2.1 ≠ (T b).2.1) (hok : okO u r ci = true) (hci : ci < 9) (hN : nfl ci = N) (hc : vwCl[ci]? = some (C, T, N)) (hk : k < N) (hin : ∀ w ∈ u_ws C T N, w ∈ uw) (href : (T k).1 = ref) (hlink : Cond.fieldLink own index ref (T k).2.1 (T k).2.2.1 ∈ uw)
    (hfin : (T k).2.2.2 = false ∨ ((T k).2.2.2 = true ∧ meth.name = "<init>" ∧ (T k).1 = own)) {v : Value} (hn : narrow (ty0 k) v = v) (hfit : fits (ty0 k) v = true) (h1 : u'.1 = u.1) (hs : ∀ r' kk j : Nat, r' ≠ r → mv sz u' kk r' j = mv sz u kk r' j) (hv : ∀ j, j < N → updV (fun j => mv sz u (kd ci j) r j) k v j = mv sz u' (kd ci j) r j) (hdg : decode cc pc = .ok (.putfield index, 3))
    (kk : ∀ (H1 : Heap) (locs1 : List Loc), MM D cy sz H0 u' H1 locs1 → W p l e R s m args below meth c H1 locs1 cells slots Q (F0 m (pc + 3) ls rest)) : W p l e R s m args below meth c H locs cells slots Q (F0 m pc ls (v :: .ref (sz + r) :: rest)) := by
  obtain ⟨hx, hb, hml, hown, hts, hK, -⟩ := E
  have hap := va_apart (own := own) hts hin ty0 hty hnm hK hc
  obtain ⟨cell, q1, q2, q3, q4⟩ := cell_obj (C := C) (T := T) hM hok hci hN
  obtain ⟨hS, hfc, kC, hkC, hkind⟩ := hK.1 ci _ hc
  obtain ⟨cf, kf, fi, f, hi, hsl⟩ := hS k hk
  have hlay := hts _ (hin _ (u_in_lay hk))
  have hst := (u_facts hfc hkC (u_lays hts hin hk) hi).1
  subst href
  have hrl : r < u.1 := (okO_1 hok).1
  rcases hfin with hfin | ⟨hfin, hin2, hdecl⟩
  · unfold u_lay at hlay
    rw [if_neg (by rw [hfin]; decide)] at hlay
    have h6 := u_store hfc hkC hkind hlay hi (hty k hk) hn hfit
    refine W.putK hx hb (f := f) ⟨hown, hts _ hlink, ⟨_, _, _, hi⟩, hst⟩ (by rw [q2]; exact h6) q1 q3 (by rw [hsl]; exact k2_hasslot (q4 k hk)) rfl rfl hdg fun H' e1 e2 e3 => ?_
    rw [hsl] at e1 ⊢
    exact kk H' _ (hM.put hrl e2 e3 h1 hs (cell_set hok hci hN hk hap q2 q3 q4 e1 hv) (fun q hq => by rw [List.mem_singleton.mp hq]; exact Nat.le_add_right _ _))
  · unfold u_lay at hlay
    rw [if_pos hfin] at hlay
    have hcf : m.cls = cf := by
      obtain ⟨_, _, c', _, _, _, -, -, hf', -, -, -, hown2, -⟩ := Cond.laysFinal_spec hlay
      have e1 : c' = cf := by have := hi.symm.trans hf'; simp at this; exact this.1.symm
      rw [hdecl] at hown2
      rw [← e1]; exact Option.some.inj (hown.symm.trans hown2)
    have h6 := u_fits hfc hkC hkind (Or.inr hlay) hi (hty k hk) hn hfit
    refine W.putFinK hx hb hown (hts _ hlink) hi hst hcf hin2 (by rw [q2]; exact h6) q1 q3 (by rw [hsl]; exact k2_hasslot (q4 k hk)) rfl rfl hdg fun H' e1 e2 e3 => ?_
    rw [hsl] at e1 ⊢
    exact kk H' _ (hM.put hrl e2 e3 h1 hs (cell_set hok hci hN hk hap q2 q3 q4 e1 hv) (fun q hq => by rw [List.mem_singleton.mp hq]; exact Nat.le_add_right _ _))
theorem upd_sI {ci k : Nat} {x : Int32} (h : kd ci k = 0) : ∀ j, updV (fun j => mv sz u (kd ci j) r j) k (.int x) j = mv sz (sI u r k x) (kd ci j) r j := by
  intro j
  by_cases hj : j = k
  · subst hj; simp [updV, h, mv, gI, sI, up2]
  · simp only [updV, if_neg hj]
    generalize kd ci j = q
    match q with
    | 0 => simp [mv, gI, sI, up2, hj]
    | 1 => rfl
    | n + 2 => rfl
theorem upd_sL {ci k : Nat} {x : Int64} (h : kd ci k = 1) : ∀ j, updV (fun j => mv sz u (kd ci j) r j) k (.long x) j = mv sz (sL u r k x) (kd ci j) r j := by
  intro j
  by_cases hj : j = k
  · subst hj; simp [updV, h, mv, gL, sL, up2]
  · simp only [updV, if_neg hj]
    generalize kd ci j = q
    match q with
    | 0 => rfl
    | 1 => simp [mv, gL, sL, up2, hj]
    | n + 2 => rfl
theorem upd_sR {ci k : Nat} {x : Option Nat} (h : kd ci k = 2) : ∀ j, updV (fun j => mv sz u (kd ci j) r j) k (rv sz x) j = mv sz (sR u r k x) (kd ci j) r j := by
  intro j
  by_cases hj : j = k
  · subst hj; simp [updV, h, mv, gR, sR, up2]
  · simp only [updV, if_neg hj]
    generalize kd ci j = q
    match q with
    | 0 => rfl
    | 1 => rfl
    | n + 2 => simp [mv, gR, sR, up2, hj]
theorem rv_nar {sz : Nat} {x : Option Nat} {ty : FieldType} (h : (∃ n, ty = .object n) ∨ ∃ t, ty = .array t) : narrow ty (rv sz x) = rv sz x ∧ fits ty (rv sz x) = true := by
  rcases h with ⟨n, rfl⟩ | ⟨t, rfl⟩ <;> cases x <;> exact ⟨rfl, rfl⟩
-- arrays
theorem m_iald (E : EE p s m args c cc nL own D cy) (hM : MM D cy sz H0 u H locs) {i : Int32} (hok : okA u r 9 i = true) (hdg : decode cc pc = .ok (.iaload, 1))
    (kk : W p l e R s m args below meth c H locs cells slots Q (F0 m (pc + 1) ls (.int (gI u r i.toNatClampNeg) :: rest))) : W p l e R s m args below meth c H locs cells slots Q (F0 m pc ls (.int i :: .ref (sz + r) :: rest)) := by
  obtain ⟨hx, hb, hml, hown, hts, hK, -⟩ := E
  obtain ⟨h1, h2, h3⟩ := okA_1 hok
  have hlt : i.toNatClampNeg < aln r := Nat.not_le.mp fun q => h3 (Or.inr q)
  exact W.iald (v := .int (gI u r i.toNatClampNeg)) hx hb (cell_arr hM h1 h2 (by decide)) ((hK.2 0 (cy 9, .int) rfl).1 _ _) (fun q => by cases q) (by rw [arrV_size]; exact h3) (by rw [arrV_read _ _ hlt]; rfl) rfl rfl hdg kk
theorem m_zald (E : EE p s m args c cc nL own D cy) (hM : MM D cy sz H0 u H locs) {i : Int32} (hok : okA u r 11 i = true) (hdg : decode cc pc = .ok (.baload, 1))
    (kk : W p l e R s m args below meth c H locs cells slots Q (F0 m (pc + 1) ls (.int (gI u r i.toNatClampNeg) :: rest))) : W p l e R s m args below meth c H locs cells slots Q (F0 m pc ls (.int i :: .ref (sz + r) :: rest)) := by
  obtain ⟨hx, hb, hml, hown, hts, hK, -⟩ := E
  obtain ⟨h1, h2, h3⟩ := okA_1 hok
  have hlt : i.toNatClampNeg < aln r := Nat.not_le.mp fun q => h3 (Or.inr q)
  exact W.zald (v := .int (gI u r i.toNatClampNeg)) hx hb (cell_arr hM h1 h2 (by decide)) ((hK.2 2 (cy 11, .boolean) rfl).1 _ _) (fun q => by cases q) (by rw [arrV_size]; exact h3) (by rw [arrV_read _ _ hlt]; rfl) rfl rfl hdg kk
theorem m_lald (E : EE p s m args c cc nL own D cy) (hM : MM D cy sz H0 u H locs) {i : Int32} (hok : okA u r 10 i = true) (hdg : decode cc pc = .ok (.laload, 1))
    (kk : W p l e R s m args below meth c H locs cells slots Q (F0 m (pc + 1) ls (.long (gL u r i.toNatClampNeg) :: rest))) : W p l e R s m args below meth c H locs cells slots Q (F0 m pc ls (.int i :: .ref (sz + r) :: rest)) := by
  obtain ⟨hx, hb, hml, hown, hts, hK, -⟩ := E
  obtain ⟨h1, h2, h3⟩ := okA_1 hok
  have hlt : i.toNatClampNeg < aln r := Nat.not_le.mp fun q => h3 (Or.inr q)
  exact W.lald (v := .long (gL u r i.toNatClampNeg)) hx hb (cell_arr hM h1 h2 (by decide)) ((hK.2 1 (cy 10, .long) rfl).1 _ _) (fun q => by cases q) (by rw [arrV_size]; exact h3) (by rw [arrV_read _ _ hlt]; rfl) rfl rfl hdg kk
theorem m_aald {sh tp : Nat} {C : String} (hsh : ¬ sh < 9) (hkd : kd sh 0 = 2) (htp : (tysOf cy)[tp]? = some (cy sh, .object C)) (E : EE p s m args c cc nL own D cy) (hM : MM D cy sz H0 u H locs) {i : Int32} (hok : okA u r sh i = true) (hdg : decode cc pc = .ok (.aaload, 1))
    (kk : ∀ x, gR u r i.toNatClampNeg = x → W p l e R s m args below meth c H locs cells slots Q (F0 m (pc + 1) ls (rv sz x :: rest))) : W p l e R s m args below meth c H locs cells slots Q (F0 m pc ls (.int i :: .ref (sz + r) :: rest)) := by
  obtain ⟨hx, hb, hml, hown, hts, hK, -⟩ := E
  obtain ⟨h1, h2, h3⟩ := okA_1 hok
  have hlt : i.toNatClampNeg < aln r := Nat.not_le.mp fun q => h3 (Or.inr q)
  exact W.aald (v := rv sz (gR u r i.toNatClampNeg)) (ty := .object C) hx hb (cell_arr hM h1 h2 hsh) ((hK.2 tp _ htp).1 _ _) rfl (fun q => by cases q) (by rw [arrV_size]; exact h3) (by rw [arrV_read _ _ hlt, hkd]; rfl) rfl rfl hdg (kk _ rfl)
theorem m_arrset {sh : Nat} {u' : Mm} {H' : Heap} {i : Nat} {v : Value} (h2 : shp r = sh) (hsh : ¬ sh < 9) (e1 : H'[sz + r]? = some ((arrV (cy sh) (aln r) (fun j => mv sz u (kd sh 0) r j)).setSlot i v)) (hv : ∀ j, updV (fun j => mv sz u (kd sh 0) r j) i v j = mv sz u' (kd sh 0) r j) : cellOk D cy sz u' r H' := by
  unfold cellOk
  rw [h2, if_neg hsh, e1, arrV_store]
  congr 2
  funext j
  exact hv j
theorem upd_aI {k : Nat} {x : Int32} : ∀ j, updV (fun j => mv sz u 0 r j) k (.int x) j = mv sz (sI u r k x) 0 r j := by
  intro j
  by_cases hj : j = k
  · subst hj; simp [updV, mv, gI, sI, up2]
  · simp [updV, hj, mv, gI, sI, up2]
theorem upd_aL {k : Nat} {x : Int64} : ∀ j, updV (fun j => mv sz u 1 r j) k (.long x) j = mv sz (sL u r k x) 1 r j := by
  intro j
  by_cases hj : j = k
  · subst hj; simp [updV, mv, gL, sL, up2]
  · simp [updV, hj, mv, gL, sL, up2]
theorem upd_aR {k : Nat} {x : Option Nat} : ∀ j, updV (fun j => mv sz u 2 r j) k (rv sz x) j = mv sz (sR u r k x) 2 r j := by
  intro j
  by_cases hj : j = k
  · subst hj; simp [updV, mv, gR, sR, up2]
  · simp [updV, hj, mv, gR, sR, up2]
theorem m_iast (E : EE p s m args c cc nL own D cy) (hM : MM D cy sz H0 u H locs) {i x : Int32} (hok : okA u r 9 i = true) (hdg : decode cc pc = .ok (.iastore, 1))
    (kk : ∀ (H1 : Heap) (locs1 : List Loc), MM D cy sz H0 (sI u r i.toNatClampNeg x) H1 locs1 → W p l e R s m args below meth c H1 locs1 cells slots Q (F0 m (pc + 1) ls rest)) : W p l e R s m args below meth c H locs cells slots Q (F0 m pc ls (.int x :: .int i :: .ref (sz + r) :: rest)) := by
  obtain ⟨hx, hb, hml, hown, hts, hK, -⟩ := E
  obtain ⟨h1, h2, h3⟩ := okA_1 hok
  refine W.iast hx hb (cell_arr hM h1 h2 (by decide)) ((hK.2 0 (cy 9, .int) rfl).1 _ _) (fun q => by cases q) (by rw [arrV_size]; exact h3) rfl rfl hdg fun H1 e z oq => ?_
  exact kk H1 _ (hM.put (u' := sI u r i.toNatClampNeg x) h1 z oq rfl mv_sI (m_arrset h2 (by decide) e upd_aI) (fun q hq => by rw [List.mem_singleton.mp hq]; exact Nat.le_add_right _ _))
theorem m_zast (E : EE p s m args c cc nL own D cy) (hM : MM D cy sz H0 u H locs) {i x : Int32} (hxn : narrow .boolean (.int x) = .int x) (hok : okA u r 11 i = true) (hdg : decode cc pc = .ok (.bastore, 1))
    (kk : ∀ (H1 : Heap) (locs1 : List Loc), MM D cy sz H0 (sI u r i.toNatClampNeg x) H1 locs1 → W p l e R s m args below meth c H1 locs1 cells slots Q (F0 m (pc + 1) ls rest)) : W p l e R s m args below meth c H locs cells slots Q (F0 m pc ls (.int x :: .int i :: .ref (sz + r) :: rest)) := by
  obtain ⟨hx, hb, hml, hown, hts, hK, -⟩ := E
  obtain ⟨h1, h2, h3⟩ := okA_1 hok
  refine W.zast hx hb (cell_arr hM h1 h2 (by decide)) ((hK.2 2 (cy 11, .boolean) rfl).1 _ _) (fun q => by cases q) (by rw [arrV_size]; exact h3) rfl rfl hdg fun H1 e z oq => ?_
  rw [hxn] at e
  exact kk H1 _ (hM.put (u' := sI u r i.toNatClampNeg x) h1 z oq rfl mv_sI (m_arrset h2 (by decide) e upd_aI) (fun q hq => by rw [List.mem_singleton.mp hq]; exact Nat.le_add_right _ _))
theorem m_last (E : EE p s m args c cc nL own D cy) (hM : MM D cy sz H0 u H locs) {i : Int32} {x : Int64} (hok : okA u r 10 i = true) (hdg : decode cc pc = .ok (.lastore, 1))
    (kk : ∀ (H1 : Heap) (locs1 : List Loc), MM D cy sz H0 (sL u r i.toNatClampNeg x) H1 locs1 → W p l e R s m args below meth c H1 locs1 cells slots Q (F0 m (pc + 1) ls rest)) : W p l e R s m args below meth c H locs cells slots Q (F0 m pc ls (.long x :: .int i :: .ref (sz + r) :: rest)) := by
  obtain ⟨hx, hb, hml, hown, hts, hK, -⟩ := E
  obtain ⟨h1, h2, h3⟩ := okA_1 hok
  refine W.last hx hb (cell_arr hM h1 h2 (by decide)) ((hK.2 1 (cy 10, .long) rfl).1 _ _) (fun q => by cases q) (by rw [arrV_size]; exact h3) rfl rfl hdg fun H1 e z oq => ?_
  exact kk H1 _ (hM.put (u' := sL u r i.toNatClampNeg x) h1 z oq rfl mv_sL (m_arrset h2 (by decide) e upd_aL) (fun q hq => by rw [List.mem_singleton.mp hq]; exact Nat.le_add_right _ _))
theorem m_aast {sh tp ci N : Nat} {T : u_T} {C : String} (hsh : ¬ sh < 9) (hkd : kd sh 0 = 2) (htp : (tysOf cy)[tp]? = some (cy sh, .object C)) (hci : ci < 9) (hN : nfl ci = N) (hc : vwCl[ci]? = some (C, T, N)) (E : EE p s m args c cc nL own D cy) (hM : MM D cy sz H0 u H locs) {i : Int32} {x : Nat} (hok : okA u r sh i = true) (hv : okO u x ci = true) (hdg : decode cc pc = .ok (.aastore, 1))
    (kk : ∀ (H1 : Heap) (locs1 : List Loc), MM D cy sz H0 (sR u r i.toNatClampNeg (some x)) H1 locs1 → W p l e R s m args below meth c H1 locs1 cells slots Q (F0 m (pc + 1) ls rest)) : W p l e R s m args below meth c H locs cells slots Q (F0 m pc ls (.ref (sz + x) :: .int i :: .ref (sz + r) :: rest)) := by
  obtain ⟨hx, hb, hml, hown, hts, hK, -⟩ := E
  obtain ⟨h1, h2, h3⟩ := okA_1 hok
  have hlt : i.toNatClampNeg < aln r := Nat.not_le.mp fun q => h3 (Or.inr q)
  have h0 : ¬ i < 0 := fun q => h3 (Or.inl q)
  obtain ⟨cellV, g1, g2, g3, -⟩ := cell_obj (C := C) (T := T) hM hv hci hN
  have hcls := (hK.1 ci _ hc).2
  obtain ⟨kA, comp, k1, k2, k3, -⟩ := (hK.2 tp _ htp).2
  have hcomp : comp = D.1 ci := Option.some.inj (k3.symm.trans hcls.1)
  subst hcomp
  obtain ⟨kC, hkC, -⟩ := hcls.2
  refine W.aast hx hb (cell_arr hM h1 h2 hsh) (fun q h => by cases h) (fun h => by cases h) k1 k2 rfl hkC ⟨h0, by rw [arrV_size]; exact hlt⟩ g1 (fun q h => by rw [g3] at h; cases h) (by rw [g2]; exact hkC) (by rw [g2]; exact va_assign hcls) rfl rfl hdg fun H1 e z oq => ?_
  exact kk H1 _ (hM.put (u' := sR u r i.toNatClampNeg (some x)) h1 z oq rfl mv_sR (m_arrset h2 hsh e (by rw [hkd]; exact upd_aR (x := some x))) (fun q hq => by rw [List.mem_singleton.mp hq]; exact Nat.le_add_right _ _))
theorem m_alen {sh tp : Nat} {ty : FieldType} (hsh : ¬ sh < 9) (htp : (tysOf cy)[tp]? = some (cy sh, ty)) (E : EE p s m args c cc nL own D cy) (hM : MM D cy sz H0 u H locs) (hok : okO u r sh = true) (hdg : decode cc pc = .ok (.arraylength, 1))
    (kk : W p l e R s m args below meth c H locs cells slots Q (F0 m (pc + 1) ls (.int (Int32.ofNat (aln r)) :: rest))) : W p l e R s m args below meth c H locs cells slots Q (F0 m pc ls (.ref (sz + r) :: rest)) := by
  obtain ⟨hx, hb, hml, hown, hts, hK, -⟩ := E
  obtain ⟨h1, h2⟩ := okO_1 hok
  exact W.alen (n := Int32.ofNat (aln r)) hx hb (cell_arr hM h1 h2 hsh) ((hK.2 tp _ htp).1 _ _) (by rw [arrV_size] <;> rfl) rfl rfl hdg kk
-- new cells
theorem m_new (E : EE p s m args c cc nL own D cy) (hM : MM D cy sz H0 u H locs) {ci N index : Nat} {C : String} {T : u_T} (ty0 : Nat → FieldType) (hty : ∀ k, k < N → parseFieldDescriptor (T k).2.2.1 = some (ty0 k)) (hok : okN u ci = true) (hci : ci < 9) (hN : nfl ci = N) (hc : vwCl[ci]? = some (C, T, N)) (hin : ∀ w ∈ u_ws C T N, w ∈ uw) (hcl : Cond.classLink own index C ∈ uw) (hinst : Cond.instantiable C N ∈ uw) (hini : Cond.initialized C ∈ uw)
    (hd : ∀ j, j < N → defaultValue (ty0 j) = mv sz (nw u) (kd ci j) u.1 j) (hcells : cells + 1 ≤ R.cells) (hslots : slots + N ≤ R.slots) (hdg : decode cc pc = .ok (.new index, 3))
    (kk : ∀ (H1 : Heap), MM D cy sz H0 (nw u) H1 locs → W p l e R s m args below meth c H1 locs (cells + 1) (slots + N) Q (F0 m (pc + 3) ls (.ref (sz + u.1) :: rest))) : W p l e R s m args below meth c H locs cells slots Q (F0 m pc ls rest) := by
  obtain ⟨hx, hb, hml, hown, hts, hK, -⟩ := E
  have hKn := hK.1 ci _ hc
  have hs : shp u.1 = ci := by simpa [okN] using hok
  refine W.newcK hx hb hown (hts _ hcl) (hts _ hinst) (hts _ hini) rfl hdg hcells hslots hKn.2.1 hM.1 fun H1 kC hkC e1 z1 o1 => ?_
  refine kk H1 (hM.new z1 (fun q hq => o1 q hq) ?_)
  unfold cellOk
  rw [hs, if_pos hci, hN]
  exact (u_born ty0 hts hin hKn hkC e1 hty).to hd
theorem m_newa {sh : Nat} {atype : ArrayType} {ty : FieldType} (hsh : ¬ sh < 9) (hty : newarray.typeOf atype = ty) (tp : Nat) (htp : (tysOf cy)[tp]? = some (cy sh, ty)) (hRA : ∀ U : State, va_RA U (cy sh) ty → U.vm.findClass ("[" ++ ty.toString) = some (cy sh)) (harr : Cond.arrayClass ty ∈ uw) (E : EE p s m args c cc nL own D cy) (hM : MM D cy sz H0 u H locs)
    {n : Int32} {N : Nat} (hok : okM u sh N = true) (hn : ¬ n < 0) (hN : n.toNatClampNeg = N) (hbytes : N * componentBytes ty ≤ 536870912) (hd : defaultValue ty = mv sz (nw u) (kd sh 0) u.1 0) (hd2 : ∀ j, mv sz (nw u) (kd sh 0) u.1 j = mv sz (nw u) (kd sh 0) u.1 0) (hcells : cells + 1 ≤ R.cells) (hslots : slots + N ≤ R.slots) (hdg : decode cc pc = .ok (.newarray atype, 2))
    (kk : ∀ (H1 : Heap), MM D cy sz H0 (nw u) H1 locs → W p l e R s m args below meth c H1 locs (cells + 1) (slots + N) Q (F0 m (pc + 2) ls (.ref (sz + u.1) :: rest))) : W p l e R s m args below meth c H locs cells slots Q (F0 m pc ls (.int n :: rest)) := by
  subst hty
  obtain ⟨hx, hb, hml, hown, hts, hK, -⟩ := E
  have hs : shp u.1 = sh ∧ aln u.1 = N := by simpa [okM] using hok
  refine va_newaK hx hb (hts _ harr) rfl hdg rfl hn hN hbytes hcells hslots hM.1 fun H1 cA e1 z1 o1 hAr hNm => ?_
  refine kk H1 (hM.new z1 (fun q hq => o1 q hq) ?_)
  have hcA : cA = cy sh := Option.some.inj (hNm.symm.trans (hRA s (hK.2 tp _ htp).2))
  unfold cellOk
  rw [hs.1, if_neg hsh, hs.2, e1, hcA]
  congr 2
  funext j
  rw [hd2 j, ← hd]
theorem m_newq {sh : Nat} {C : String} {index : Nat} (hsh : ¬ sh < 9) (hkd : kd sh 0 = 2) (tp : Nat) (htp : (tysOf cy)[tp]? = some (cy sh, .object C)) (hover : va_AO C s) (hcl : Cond.classLink own index C ∈ uw) (E : EE p s m args c cc nL own D cy) (hM : MM D cy sz H0 u H locs)
    {n : Int32} {N : Nat} (hok : okM u sh N = true) (hn : ¬ n < 0) (hN : n.toNatClampNeg = N) (hbytes : N * 4 ≤ 536870912) (hcells : cells + 1 ≤ R.cells) (hslots : slots + N ≤ R.slots) (hdg : decode cc pc = .ok (.anewarray index, 3))
    (kk : ∀ (H1 : Heap), MM D cy sz H0 (nw u) H1 locs → W p l e R s m args below meth c H1 locs (cells + 1) (slots + N) Q (F0 m (pc + 3) ls (.ref (sz + u.1) :: rest))) : W p l e R s m args below meth c H locs cells slots Q (F0 m pc ls (.int n :: rest)) := by
  subst hN
  obtain ⟨hx, hb, hml, hown, hts, hK, -⟩ := E
  have hs : shp u.1 = sh ∧ aln u.1 = n.toNatClampNeg := by simpa [okM] using hok
  refine W.anew hx hb hown (hts _ hcl) (va_AO.use hover) rfl hdg rfl hn hbytes hcells hslots fun cA kA comp f1 f2 f3 f4 => ?_
  generalize hH1 : H.push ({ cls := cA, slots := Array.replicate n.toNatClampNeg .null, vm := .none } : Cell) = H1
  have z1 : H1.size = H.size + 1 := by rw [← hH1, Array.size_push]
  have e1 : H1[H.size]? = some (arrV cA n.toNatClampNeg (fun _ => .null)) := by rw [← hH1, Array.getElem?_push_size, ← arrV_new]
  have o1 : ∀ q : Nat, q < H.size → H1[q]? = H[q]? := fun q hq => by rw [← hH1, Array.getElem?_push, if_neg (Nat.ne_of_lt hq)]
  obtain ⟨kA', comp', k1, k2, k3, k4⟩ := (hK.2 tp _ htp).2
  have hcA : cA = cy sh := Option.some.inj (f1.symm.trans k4)
  rw [hM.1] at z1 e1 o1
  rw [hM.1]
  refine kk H1 (hM.new z1 o1 ?_)
  unfold cellOk
  rw [hs.1, if_neg hsh, hs.2, e1, hcA]
  congr 2
  funext j
  rw [hkd]
  simp [mv, gR, nw, upr, rv, va_rf]
theorem nw_i {u : Mm} (j : Nat) : mv sz (nw u) 0 u.1 j = .int 0 := by simp [mv, gI, nw, upr]
theorem nw_l {u : Mm} (j : Nat) : mv sz (nw u) 1 u.1 j = .long 0 := by simp [mv, gL, nw, upr]
theorem nw_r {u : Mm} (j : Nat) : mv sz (nw u) 2 u.1 j = .null := by simp [mv, gR, nw, upr, rv, va_rf]
-- references in locals
theorem m_aload_n (hx : p.tables.exec = Jvm.exec) (hb : c.code = cc) {k : Fin 4} {i : Nat} {x : Option Nat} (hdg : decode cc pc = .ok (.aload_n k, 1)) (hi : (k : Nat) = i) (hl : ls[i]? = some (.val (rv sz x)))
    (kk : W p l e R s m args below meth c H locs cells slots Q (F0 m (pc + 1) ls (rv sz x :: rest))) : W p l e R s m args below meth c H locs cells slots Q (F0 m pc ls (rest)) := by
  cases x with
  | none => exact lv_aload_nN hx hb hdg hi hl kk
  | some a => exact lv_aload_n hx hb hdg hi hl kk
theorem m_aload (hx : p.tables.exec = Jvm.exec) (hb : c.code = cc) {i : Nat} {x : Option Nat} (hdg : decode cc pc = .ok (.aload i, 2)) (hl : ls[i]? = some (.val (rv sz x)))
    (kk : W p l e R s m args below meth c H locs cells slots Q (F0 m (pc + 2) ls (rv sz x :: rest))) : W p l e R s m args below meth c H locs cells slots Q (F0 m pc ls (rest)) := by
  cases x with
  | none => exact lv_aloadN hx hb hdg hl kk
  | some a => exact lv_aload hx hb hdg hl kk
theorem m_astore_n (hx : p.tables.exec = Jvm.exec) (hb : c.code = cc) {k : Fin 4} {i : Nat} {x : Option Nat} {lv lv' : List (Nat × Value)} (hdg : decode cc pc = .ok (.astore_n k, 1)) (hi : (k : Nat) = i) (h : lv_has ls nL lv) (hn : i < nL) (hl : (i, rv sz x) :: lv.filter (fun q => !(q.1 == i) && !(q.1 + 1 == i && q.2.category == 2)) = lv')
    (kk : ∀ ls' : Array Slot, lv_has ls' nL lv' → W p l e R s m args below meth c H locs cells slots Q (F0 m (pc + 1) ls' rest)) : W p l e R s m args below meth c H locs cells slots Q (F0 m pc ls (rv sz x :: rest)) := by
  cases x with
  | none => exact lv_astore_nN hx hb hdg hi h hn hl kk
  | some a => exact lv_astore_n hx hb hdg hi h hn hl kk
theorem m_astore (hx : p.tables.exec = Jvm.exec) (hb : c.code = cc) {i : Nat} {x : Option Nat} {lv lv' : List (Nat × Value)} (hdg : decode cc pc = .ok (.astore i, 2)) (h : lv_has ls nL lv) (hn : i < nL) (hl : (i, rv sz x) :: lv.filter (fun q => !(q.1 == i) && !(q.1 + 1 == i && q.2.category == 2)) = lv')
    (kk : ∀ ls' : Array Slot, lv_has ls' nL lv' → W p l e R s m args below meth c H locs cells slots Q (F0 m (pc + 2) ls' rest)) : W p l e R s m args below meth c H locs cells slots Q (F0 m pc ls (rv sz x :: rest)) := by
  cases x with
  | none => exact lv_astoreN hx hb hdg h hn hl kk
  | some a => exact lv_astore hx hb hdg h hn hl kk
theorem m_acmp_eq (hx : p.tables.exec = Jvm.exec) (hb : c.code = cc) {x y : Option Nat} {off : Int} {tgt : Nat} (hdg : decode cc pc = .ok (.if_acmp .eq off, 3)) (ht : (pc : Int) + off = (tgt : Int))
    (kt : x = y → W p l e R s m args below meth c H locs cells slots Q (F0 m tgt ls rest)) (kf : ¬ x = y → W p l e R s m args below meth c H locs cells slots Q (F0 m (pc + 3) ls rest)) : W p l e R s m args below meth c H locs cells slots Q (F0 m pc ls (rv sz y :: rv sz x :: rest)) := by
  refine lv_acmp_eq hx hb hdg ht (fun h => kt ?_) (fun h => kf (fun q => h (by rw [q])))
  cases x <;> cases y <;> simp at h <;> simp [h]
theorem m_acmp_ne (hx : p.tables.exec = Jvm.exec) (hb : c.code = cc) {x y : Option Nat} {off : Int} {tgt : Nat} (hdg : decode cc pc = .ok (.if_acmp .ne off, 3)) (ht : (pc : Int) + off = (tgt : Int))
    (kt : ¬ x = y → W p l e R s m args below meth c H locs cells slots Q (F0 m tgt ls rest)) (kf : x = y → W p l e R s m args below meth c H locs cells slots Q (F0 m (pc + 3) ls rest)) : W p l e R s m args below meth c H locs cells slots Q (F0 m pc ls (rv sz y :: rv sz x :: rest)) := by
  refine lv_acmp_ne hx hb hdg ht (fun h => kt (fun q => h (by rw [q]))) (fun h => kf ?_)
  cases x <;> cases y <;> simp at h <;> simp [h]
-- ends
theorem post_of {o : Option Value} {u u' : Mm} {av : Array Value} (hM : MM D cy sz H0 u H locs) (hu : u' = u) : ∀ t : State, t.heap = H → Post D cy sz H0 o u' av s (.returned o) t := by
  intro t ht
  subst hu
  exact ⟨rfl, by rw [ht]; exact ⟨hM.1, hM.2.1, hM.2.2.1, fun q h => by cases h⟩⟩
theorem m_iret (hx : p.tables.exec = Jvm.exec) (hb : c.code = cc) (hr : meth.sig.returnType = some .int) (hlk : meth.locks = false) (hM : MM D cy sz H0 u H locs) {v : Int32} {o : Option Value} {u' : Mm} (ho : o = some (.int v)) (hu : u' = u) (hdg : decode cc pc = .ok (.ireturn, 1)) : W p l e R s m args below meth c H locs cells slots (MQ below (Post D cy sz H0 o u') args s cells slots (fun q => sz ≤ q)) (F0 m pc ls [.int v]) := by
  subst ho
  exact W.iret hx hb hr (fun t ht _ => post_of hM hu t ht) hM.2.2.2 hdg hlk
theorem isB_nar {v : Int32} (h : isB v = true) : narrow .boolean (.int v) = .int v := by
  simp only [isB, Bool.or_eq_true, decide_eq_true_eq] at h
  rcases h with rfl | rfl <;> decide
theorem m_zret (hx : p.tables.exec = Jvm.exec) (hb : c.code = cc) (hr : meth.sig.returnType = some .boolean) (hlk : meth.locks = false) (hM : MM D cy sz H0 u H locs) {v : Int32} {o : Option Value} {u' : Mm} (hB : isB v = true) (ho : o = some (.int v)) (hu : u' = u) (hdg : decode cc pc = .ok (.ireturn, 1)) : W p l e R s m args below meth c H locs cells slots (MQ below (Post D cy sz H0 o u') args s cells slots (fun q => sz ≤ q)) (F0 m pc ls [.int v]) := by
  subst ho
  exact W.zret hx hb hr (isB_nar hB) (fun t ht _ => post_of hM hu t ht) hM.2.2.2 hdg hlk
theorem m_lret (hx : p.tables.exec = Jvm.exec) (hb : c.code = cc) (hr : meth.sig.returnType = some .long) (hlk : meth.locks = false) (hM : MM D cy sz H0 u H locs) {v : Int64} {o : Option Value} {u' : Mm} (ho : o = some (.long v)) (hu : u' = u) (hdg : decode cc pc = .ok (.lreturn, 1)) : W p l e R s m args below meth c H locs cells slots (MQ below (Post D cy sz H0 o u') args s cells slots (fun q => sz ≤ q)) (F0 m pc ls [.long v]) := by
  subst ho
  exact W.lret hx hb hr (fun t ht _ => post_of hM hu t ht) hM.2.2.2 hdg hlk
theorem m_vret (hx : p.tables.exec = Jvm.exec) (hb : c.code = cc) (hr : meth.sig.returnType = none) (hlk : meth.locks = false) (hM : MM D cy sz H0 u H locs) {u' : Mm} (hu : u' = u) (hdg : decode cc pc = .ok (.return_, 1)) : W p l e R s m args below meth c H locs cells slots (MQ below (Post D cy sz H0 none u') args s cells slots (fun q => sz ≤ q)) (F0 m pc ls []) :=
  W.vret hx hb hr (fun t ht _ => post_of hM hu t ht) hM.2.2.2 hdg hlk
theorem m_aret (hx : p.tables.exec = Jvm.exec) (hb : c.code = cc) {n : String} (hr : meth.sig.returnType = some (.object n)) (hlk : meth.locks = false) (hM : MM D cy sz H0 u H locs) {x : Option Nat} {o : Option Value} {u' : Mm} (ho : o = some (rv sz x)) (hu : u' = u) (hdg : decode cc pc = .ok (.areturn, 1)) : W p l e R s m args below meth c H locs cells slots (MQ below (Post D cy sz H0 o u') args s cells slots (fun q => sz ≤ q)) (F0 m pc ls [rv sz x]) := by
  subst ho
  exact W.aret hx hb hr (Or.inl ⟨n, rfl⟩) (va_rf_or _) (fun t ht _ => post_of hM hu t ht) hM.2.2.2 hdg hlk
-- a method's start
theorem m_start {y : MethodName} {mxL : Nat} {ret : Option FieldType} {rm : Room} {mc ms : Nat} {av : List Value} {o : Option Value} {u' : Mm} {lv : List (Nat × Value)} (hy : plainName y.cls = true) (hlen : (lg_sl av).length ≤ mxL) (hlv : lv_args 0 av = lv)
    (body : ∀ p e s m below meth c ls, EE p s m av.toArray c cc mxL y.cls D cy → meth.sig.returnType = ret → meth.locks = false → meth.name = y.name → MM D cy sz H0 u s.heap [] → lv_has ls mxL lv →
      W p l e rm s m av.toArray below meth c s.heap [] 0 0 (MQ below (Post D cy sz H0 o u') av.toArray s mc ms (fun q => sz ≤ q)) (F0 m 0 ls [])) : Ctr l y cc mxL ret rm mc ms D cy sz H0 u av o u' := by
  refine Met.ofW (cc := cc) (maxL := mxL) (ret := ret) hy rfl ?_
  intro p e s m args below meth c s₁ B hml hv
  obtain ⟨rfl, hM, hK⟩ := hv
  have hts := atoms_spec (ws := Cond.code y cc mxL ret :: uw) B.pre
  have hl := lv_entry av (n := mxL) hlen
  rw [lg_entry_eq]
  generalize (lg_sl av ++ List.replicate (mxL - (lg_sl av).length) Slot.unset).toArray = ls at hl ⊢
  exact body p e s m below meth c ls ⟨B.exec, B.bytes, hml, findClass_of_methodNamed B.named, fun w hw => hts w (List.mem_cons_of_mem _ hw), hK⟩ B.returns B.notSynchronized (name_of_methodNamed B.named B.method).1 hM (hlv ▸ hl)
-- calls
theorem run_back {mc ms : Nat} {st0 : List Value} {a : Array Value} {o : Option Value} {u' : Mm} (hM : MM D cy sz H0 u H locs) (hr : va_Run p l e R s m args below meth c H locs cells slots mc ms (F0 m pc ls st0) rest (Post D cy sz H0 o u' a) (fun q => sz ≤ q))
    (kk : ∀ (H1 : Heap) (locs1 : List Loc), MM D cy sz H0 u' H1 locs1 → W p l e R s m args below meth c H1 locs1 (cells + mc) (slots + ms) Q (F0 m (pc + 3) ls (o.toList ++ rest))) : W p l e R s m args below meth c H locs cells slots Q (F0 m pc ls st0) := by
  intro T hT X
  obtain ⟨v, st₀, t, T', L, h0, X', hL, e1, e2, ⟨hv, hm⟩, st⟩ := hr T hT X
  cases hv
  have hM1 : MM D cy sz H0 u' T'.heap (locs ++ L) := by
    rw [e1]
    refine ⟨hm.1, hm.2.1, hm.2.2.1, fun q hq => ?_⟩
    rcases List.mem_append.mp hq with h | h
    · exact hM.2.2.2 q h
    · exact hL q h
  obtain ⟨t2, a1, b1⟩ := kk T'.heap (locs ++ L) hM1 T' rfl X'
  exact ⟨t2, st t2 a1, b1⟩
variable {y : MethodName} {mxL mc ms n index : Nat} {ret : Option FieldType} {rm : Room} {As : List Value} {o : Option Value} {u' : Mm} {bc : ByteArray} {C : String}
theorem pre_ok {av : List Value} (E : EE p s m args c cc nL own D cy) (hM : MM D cy sz H0 u H locs) : ∀ U : State, U.heap = H → s.WarmedH U.vm → Pre D cy sz H0 u av av.toArray U := fun U hU hW => ⟨rfl, by rw [hU]; exact ⟨hM.1, hM.2.1, hM.2.2.1, fun q h => by cases h⟩, E.2.2.2.2.2.warm hW⟩
theorem m_callV (E : EE p s m args c cc nL own D cy) (hM : MM D cy sz H0 u H locs) (hls : ls.size = nL) {ci N : Nat} {T : u_T} (hok : okO u r ci = true) (hci : ci < 9) (hN : nfl ci = N) (hc : vwCl[ci]? = some (C, T, N)) (hC : Ctr l y bc mxL ret rm mc ms D cy sz H0 u (.ref (sz + r) :: As) o u')
    (w1 : Cond.methodLink own index y ∈ uw) (w2 : Cond.instanceMethod y ∈ uw) (w3 : Cond.selects C y y ∈ uw) (w4 : Cond.initialized C ∈ uw) (w5 : Cond.code y bc mxL ret ∈ uw) (hrc : rm.cells = mc) (hrs : rm.slots = ms)
    (hd : y.cls = C ∧ y.cls ≠ "java/lang/invoke/MethodHandle" ∧ y.cls ≠ "java/lang/invoke/VarHandle" ∧ (parseMethodDescriptor y.desc).map (fun d => d.parameters.length) = some n) (hR : rm.frames + 1 ≤ R.frames ∧ 8 + (mxL + 11) + rm.locals ≤ R.locals) (hn : As.length = n) {st0 : List Value} (hst : st0 = As.reverse ++ .ref (sz + r) :: rest) (hW : (rest.map fun v => v.category).sum ≤ 8) (hdg : decode cc pc = .ok (.invokevirtual index, 3)) (hf : cells + mc ≤ R.cells ∧ slots + ms ≤ R.slots)
    (kk : ∀ (H1 : Heap) (locs1 : List Loc), MM D cy sz H0 u' H1 locs1 → W p l e R s m args below meth c H1 locs1 (cells + mc) (slots + ms) Q (F0 m (pc + 3) ls (o.toList ++ rest))) : W p l e R s m args below meth c H locs cells slots Q (F0 m pc ls st0) := by
  have hG : GoodIn uw (wsV own index C y (Cond.code y bc mxL ret :: uw)) := by
    intro w hw
    rcases List.mem_append.mp hw with h | h
    · simp only [List.mem_cons, List.not_mem_nil, or_false] at h
      rcases h with rfl | rfl | rfl | rfl
      · exact ⟨w1, uw_good _ w1⟩
      · exact ⟨w2, uw_good _ w2⟩
      · exact ⟨w3, uw_good _ w3⟩
      · exact ⟨w4, uw_good _ w4⟩
    · exact uw_of w5 w h
  obtain ⟨cell, q1, q2, q3, q4⟩ := cell_obj (C := C) (T := T) hM hok hci hN
  refine run_back hM (va_runV (As := As) (rest := rest) (n := n) ⟨E.1, E.2.1, E.2.2.1, E.2.2.2.1, E.2.2.2.2.1⟩ hC (cwV n E.2.2.2.2.1 hG rfl hrc hrs hd hR) ⟨Pre.blind, ⟨cell, q1, by rw [q3]; rfl, by rw [q2]; exact (E.2.2.2.2.2.1.1 ci _ hc).2.1⟩, pre_ok E hM⟩ rfl hn hls hst (lv_room hW) hdg hf) kk
theorem m_callS (E : EE p s m args c cc nL own D cy) (hM : MM D cy sz H0 u H locs) (hls : ls.size = nL) (hC : Ctr l y bc mxL ret rm mc ms D cy sz H0 u As o u')
    (w1 : Cond.methodLink own index y ∈ uw) (w2 : Cond.static y ∈ uw) (w4 : Cond.initialized y.cls ∈ uw) (w5 : Cond.code y bc mxL ret ∈ uw) (hrc : rm.cells = mc) (hrs : rm.slots = ms)
    (hd : y.cls ≠ "java/lang/invoke/MethodHandle" ∧ y.cls ≠ "java/lang/invoke/VarHandle" ∧ (parseMethodDescriptor y.desc).map (fun d => d.parameters.length) = some n) (hR : rm.frames + 1 ≤ R.frames ∧ 8 + (mxL + 11) + rm.locals ≤ R.locals) (hn : As.length = n) {st0 : List Value} (hst : st0 = As.reverse ++ rest) (hW : (rest.map fun v => v.category).sum ≤ 8) (hdg : decode cc pc = .ok (.invokestatic index, 3)) (hf : cells + mc ≤ R.cells ∧ slots + ms ≤ R.slots)
    (kk : ∀ (H1 : Heap) (locs1 : List Loc), MM D cy sz H0 u' H1 locs1 → W p l e R s m args below meth c H1 locs1 (cells + mc) (slots + ms) Q (F0 m (pc + 3) ls (o.toList ++ rest))) : W p l e R s m args below meth c H locs cells slots Q (F0 m pc ls st0) := by
  have hG : GoodIn uw (va_wsS own index y (Cond.code y bc mxL ret :: uw)) := by
    intro w hw
    rcases List.mem_append.mp hw with h | h
    · simp only [List.mem_cons, List.not_mem_nil, or_false] at h
      rcases h with rfl | rfl | rfl
      · exact ⟨w1, uw_good _ w1⟩
      · exact ⟨w2, uw_good _ w2⟩
      · exact ⟨w4, uw_good _ w4⟩
    · exact uw_of w5 w h
  refine run_back hM (va_runS (As := As) (rest := rest) (n := n) ⟨E.1, E.2.1, E.2.2.1, E.2.2.2.1, E.2.2.2.2.1⟩ hC (va_cwS n E.2.2.2.2.1 hG rfl hrc hrs hd hR) ⟨Pre.blind, pre_ok E hM⟩ rfl hn hls hst (lv_room hW) hdg hf) kk
theorem m_callSN {host : String} (E : EE p s m args c cc nL own D cy) (hM : MM D cy sz H0 u H locs) (hls : ls.size = nL) (hC : Ctr l y bc mxL ret rm mc ms D cy sz H0 u As o u')
    (w1 : Cond.methodLinkNest own index y host ∈ nestW) (w2 : Cond.static y ∈ uw) (w4 : Cond.initialized y.cls ∈ uw) (w5 : Cond.code y bc mxL ret ∈ uw) (hrc : rm.cells = mc) (hrs : rm.slots = ms)
    (hd : y.cls ≠ "java/lang/invoke/MethodHandle" ∧ y.cls ≠ "java/lang/invoke/VarHandle" ∧ (parseMethodDescriptor y.desc).map (fun d => d.parameters.length) = some n) (hR : rm.frames + 1 ≤ R.frames ∧ 8 + (mxL + 11) + rm.locals ≤ R.locals) (hn : As.length = n) {st0 : List Value} (hst : st0 = As.reverse ++ rest) (hW : (rest.map fun v => v.category).sum ≤ 8) (hdg : decode cc pc = .ok (.invokestatic index, 3)) (hf : cells + mc ≤ R.cells ∧ slots + ms ≤ R.slots)
    (kk : ∀ (H1 : Heap) (locs1 : List Loc), MM D cy sz H0 u' H1 locs1 → W p l e R s m args below meth c H1 locs1 (cells + mc) (slots + ms) Q (F0 m (pc + 3) ls (o.toList ++ rest))) : W p l e R s m args below meth c H locs cells slots Q (F0 m pc ls st0) := by
  refine run_back hM (va_runSN (As := As) (rest := rest) (n := n) ⟨E.1, E.2.1, E.2.2.1, E.2.2.2.1, E.2.2.2.2.1⟩ hC ⟨va_cnB n E.2.2.2.2.1 (uw_of w5) rfl hrc hrs (E.2.2.2.2.2.2.2.2 _ w1) (E.2.2.2.2.1 _ w4) hd hR, E.2.2.2.2.1 _ w2, trivial⟩ ⟨Pre.blind, pre_ok E hM⟩ rfl hn hls hst (lv_room hW) hdg hf) kk
theorem m_callI (E : EE p s m args c cc nL own D cy) (hM : MM D cy sz H0 u H locs) (hls : ls.size = nL) (hC : Ctr l y bc mxL none rm mc ms D cy sz H0 u (.ref (sz + r) :: As) o u')
    (w1 : Cond.methodLink own index y ∈ uw) (w2 : Cond.instanceMethod y ∈ uw) (w4 : Cond.initialized y.cls ∈ uw) (w5 : Cond.code y bc mxL none ∈ uw) (hrc : rm.cells = mc) (hrs : rm.slots = ms) (hy1 : y.name = "<init>")
    (hd : y.cls ≠ "java/lang/invoke/MethodHandle" ∧ y.cls ≠ "java/lang/invoke/VarHandle" ∧ (parseMethodDescriptor y.desc).map (fun d => d.parameters.length) = some n) (hR : rm.frames + 1 ≤ R.frames ∧ 8 + (mxL + 11) + rm.locals ≤ R.locals) (hn : As.length = n) {st0 : List Value} (hst : st0 = As.reverse ++ .ref (sz + r) :: rest) (hW : (rest.map fun v => v.category).sum ≤ 8) (hdg : decode cc pc = .ok (.invokespecial index, 3)) (hf : cells + mc ≤ R.cells ∧ slots + ms ≤ R.slots)
    (kk : ∀ (H1 : Heap) (locs1 : List Loc), MM D cy sz H0 u' H1 locs1 → W p l e R s m args below meth c H1 locs1 (cells + mc) (slots + ms) Q (F0 m (pc + 3) ls (o.toList ++ rest))) : W p l e R s m args below meth c H locs cells slots Q (F0 m pc ls st0) := by
  refine run_back hM (va_runI (As := As) (rest := rest) (n := n) ⟨E.1, E.2.1, E.2.2.1, E.2.2.2.1, E.2.2.2.2.1⟩ hC (cwI n E.2.2.2.2.1 (uw_of w5) rfl hrc hrs (E.2.2.2.2.1 _ w4) (E.2.2.2.2.1 _ w1) (E.2.2.2.2.1 _ w2) hy1 hd hR) ⟨Pre.blind, pre_ok E hM⟩ rfl hn hls hst (lv_room hW) hdg hf) kk
theorem m_callIN {host : String} (E : EE p s m args c cc nL own D cy) (hM : MM D cy sz H0 u H locs) (hls : ls.size = nL) (hC : Ctr l y bc mxL none rm mc ms D cy sz H0 u (.ref (sz + r) :: As) o u')
    (w1 : Cond.methodLinkNest own index y host ∈ nestW) (w2 : Cond.instanceMethod y ∈ uw) (w4 : Cond.initialized y.cls ∈ uw) (w5 : Cond.code y bc mxL none ∈ uw) (hrc : rm.cells = mc) (hrs : rm.slots = ms) (hy1 : y.name = "<init>")
    (hd : y.cls ≠ "java/lang/invoke/MethodHandle" ∧ y.cls ≠ "java/lang/invoke/VarHandle" ∧ (parseMethodDescriptor y.desc).map (fun d => d.parameters.length) = some n) (hR : rm.frames + 1 ≤ R.frames ∧ 8 + (mxL + 11) + rm.locals ≤ R.locals) (hn : As.length = n) {st0 : List Value} (hst : st0 = As.reverse ++ .ref (sz + r) :: rest) (hW : (rest.map fun v => v.category).sum ≤ 8) (hdg : decode cc pc = .ok (.invokespecial index, 3)) (hf : cells + mc ≤ R.cells ∧ slots + ms ≤ R.slots)
    (kk : ∀ (H1 : Heap) (locs1 : List Loc), MM D cy sz H0 u' H1 locs1 → W p l e R s m args below meth c H1 locs1 (cells + mc) (slots + ms) Q (F0 m (pc + 3) ls (o.toList ++ rest))) : W p l e R s m args below meth c H locs cells slots Q (F0 m pc ls st0) := by
  refine run_back hM (va_runIN (As := As) (rest := rest) (n := n) ⟨E.1, E.2.1, E.2.2.1, E.2.2.2.1, E.2.2.2.2.1⟩ hC ⟨va_cnB n E.2.2.2.2.1 (uw_of w5) rfl hrc hrs (E.2.2.2.2.2.2.2.2 _ w1) (E.2.2.2.2.1 _ w4) hd hR, hy1, E.2.2.2.2.1 _ w2⟩ ⟨Pre.blind, pre_ok E hM⟩ rfl hn hls hst (lv_room hW) hdg hf) kk
theorem m_obj {rst : List Value} (E : EE p s m args c cc nL own D cy) (hls : ls.size = nL) (w1 : Cond.methodLink own index objectInit ∈ uw) (w2 : Cond.instanceMethod objectInit ∈ uw) (w5 : Cond.code objectInit ⟨#[0xb1]⟩ 1 none ∈ uw) {a : Nat} (hdg : decode cc pc = .ok (.invokespecial index, 3)) (hfr : 1 ≤ R.frames) (hlo : (rst.map fun v => v.category).sum + 12 ≤ R.locals)
    (kk : W p l e R s m args below meth c H locs cells slots Q (F0 m (pc + 3) ls rst)) : W p l e R s m args below meth c H locs cells slots Q (F0 m pc ls (.ref a :: rst)) :=
  W.objInit E.1 E.2.1 E.2.2.2.1 (E.2.2.2.2.1 _ w1) (E.2.2.2.2.1 _ w2) (E.2.2.2.2.1 _ w5) rfl (hls.trans E.2.2.1.symm) rfl hdg hfr (by show 2 * 0 + _ + 12 ≤ _; omega) kk
end MROWS
end
section
section SITES
variable {p : Program} {l : Launch} {e : Env} {R : Room} {s : State} {m : MethodId} {args : Array Value} {below : List Frame} {meth : Method} {c : Code} {H : Heap} {locs : List Loc} {cells slots : Nat} {Q : State → Prop}
variable {cc : ByteArray} {pc nL : Nat} {ls : Array Slot} {rest : List Value} {D : va_G} {cy : Nat → ClassId} {sz : Nat} {H0 : Heap} {u : Mm} {r : Nat}
theorem gs_X0_11 (E : EE p s m args c cc nL RX0 D cy) (hM : MM D cy sz H0 u H locs) (hok : okO u r 0 = true) (hdg : decode cc pc = .ok (.getfield 11, 3)) (kk : ∀ x, gR u r 0 = x → W p l e R s m args below meth c H locs cells slots Q (F0 m (pc + 3) ls (rv sz x :: rest))) : W p l e R s m args below meth c H locs cells slots Q (F0 m pc ls (.ref (sz + r) :: rest)) := m_get E hM (ci := 0) (N := 4) (k := 0) (C := RX0) (T := TX0) hok (by decide) rfl rfl (by decide) inX0 rfl wf_X0_11 hdg (kk _ rfl)
theorem ps_X0_11 {v : Option Nat} (E : EE p s m args c cc nL RX0 D cy) (hM : MM D cy sz H0 u H locs) (hok : okO u r 0 = true) (hinit : meth.name = "<init>") (hdg : decode cc pc = .ok (.putfield 11, 3)) (kk : ∀ (H1 : Heap) (locs1 : List Loc), MM D cy sz H0 (sR u r 0 v) H1 locs1 → W p l e R s m args below meth c H1 locs1 cells slots Q (F0 m (pc + 3) ls rest)) : W p l e R s m args below meth c H locs cells slots Q (F0 m pc ls (rv sz v :: .ref (sz + r) :: rest)) := m_put E hM (u' := sR u r 0 v) (ci := 0) (N := 4) (k := 0) (C := RX0) (T := TX0) tyX0 tyX0_ok nmX0 hok (by decide) rfl rfl (by decide) inX0 rfl wf_X0_11 (Or.inr ⟨rfl, hinit, rfl⟩) (rv_nar (Or.inr ⟨_, rfl⟩)).1 (rv_nar (Or.inr ⟨_, rfl⟩)).2 rfl mv_sR (fun j _ => upd_sR rfl j) hdg kk
theorem gs_X7_219 (E : EE p s m args c cc nL RX7 D cy) (hM : MM D cy sz H0 u H locs) (hok : okO u r 0 = true) (hdg : decode cc pc = .ok (.getfield 219, 3)) (kk : ∀ x, gR u r 0 = x → W p l e R s m args below meth c H locs cells slots Q (F0 m (pc + 3) ls (rv sz x :: rest))) : W p l e R s m args below meth c H locs cells slots Q (F0 m pc ls (.ref (sz + r) :: rest)) := m_get E hM (ci := 0) (N := 4) (k := 0) (C := RX0) (T := TX0) hok (by decide) rfl rfl (by decide) inX0 rfl wf_X7_219 hdg (kk _ rfl)
theorem gs_X0_17 (E : EE p s m args c cc nL RX0 D cy) (hM : MM D cy sz H0 u H locs) (hok : okO u r 0 = true) (hdg : decode cc pc = .ok (.getfield 17, 3)) (kk : W p l e R s m args below meth c H locs cells slots Q (F0 m (pc + 3) ls (.int (gI u r 1) :: rest))) : W p l e R s m args below meth c H locs cells slots Q (F0 m pc ls (.ref (sz + r) :: rest)) := m_get E hM (ci := 0) (N := 4) (k := 1) (C := RX0) (T := TX0) hok (by decide) rfl rfl (by decide) inX0 rfl wf_X0_17 hdg kk
theorem ps_X0_17 {v : Int32} (E : EE p s m args c cc nL RX0 D cy) (hM : MM D cy sz H0 u H locs) (hok : okO u r 0 = true) (hdg : decode cc pc = .ok (.putfield 17, 3)) (kk : ∀ (H1 : Heap) (locs1 : List Loc), MM D cy sz H0 (sI u r 1 v) H1 locs1 → W p l e R s m args below meth c H1 locs1 cells slots Q (F0 m (pc + 3) ls rest)) : W p l e R s m args below meth c H locs cells slots Q (F0 m pc ls (.int v :: .ref (sz + r) :: rest)) := m_put E hM (u' := sI u r 1 v) (ci := 0) (N := 4) (k := 1) (C := RX0) (T := TX0) tyX0 tyX0_ok nmX0 hok (by decide) rfl rfl (by decide) inX0 rfl wf_X0_17 (Or.inl rfl) rfl rfl rfl mv_sI (fun j _ => upd_sI rfl j) hdg kk
theorem gs_X7_119 (E : EE p s m args c cc nL RX7 D cy) (hM : MM D cy sz H0 u H locs) (hok : okO u r 0 = true) (hdg : decode cc pc = .ok (.getfield 119, 3)) (kk : W p l e R s m args below meth c H locs cells slots Q (F0 m (pc + 3) ls (.int (gI u r 1) :: rest))) : W p l e R s m args below meth c H locs cells slots Q (F0 m pc ls (.ref (sz + r) :: rest)) := m_get E hM (ci := 0) (N := 4) (k := 1) (C := RX0) (T := TX0) hok (by decide) rfl rfl (by decide) inX0 rfl wf_X7_119 hdg kk
theorem gs_X0_21 (E : EE p s m args c cc nL RX0 D cy) (hM : MM D cy sz H0 u H locs) (hok : okO u r 0 = true) (hdg : decode cc pc = .ok (.getfield 21, 3)) (kk : ∀ x, gR u r 2 = x → W p l e R s m args below meth c H locs cells slots Q (F0 m (pc + 3) ls (rv sz x :: rest))) : W p l e R s m args below meth c H locs cells slots Q (F0 m pc ls (.ref (sz + r) :: rest)) := m_get E hM (ci := 0) (N := 4) (k := 2) (C := RX0) (T := TX0) hok (by decide) rfl rfl (by decide) inX0 rfl wf_X0_21 hdg (kk _ rfl)
theorem ps_X0_21 {v : Option Nat} (E : EE p s m args c cc nL RX0 D cy) (hM : MM D cy sz H0 u H locs) (hok : okO u r 0 = true) (hinit : meth.name = "<init>") (hdg : decode cc pc = .ok (.putfield 21, 3)) (kk : ∀ (H1 : Heap) (locs1 : List Loc), MM D cy sz H0 (sR u r 2 v) H1 locs1 → W p l e R s m args below meth c H1 locs1 cells slots Q (F0 m (pc + 3) ls rest)) : W p l e R s m args below meth c H locs cells slots Q (F0 m pc ls (rv sz v :: .ref (sz + r) :: rest)) := m_put E hM (u' := sR u r 2 v) (ci := 0) (N := 4) (k := 2) (C := RX0) (T := TX0) tyX0 tyX0_ok nmX0 hok (by decide) rfl rfl (by decide) inX0 rfl wf_X0_21 (Or.inr ⟨rfl, hinit, rfl⟩) (rv_nar (Or.inr ⟨_, rfl⟩)).1 (rv_nar (Or.inr ⟨_, rfl⟩)).2 rfl mv_sR (fun j _ => upd_sR rfl j) hdg kk
theorem gs_X7_234 (E : EE p s m args c cc nL RX7 D cy) (hM : MM D cy sz H0 u H locs) (hok : okO u r 0 = true) (hdg : decode cc pc = .ok (.getfield 234, 3)) (kk : ∀ x, gR u r 2 = x → W p l e R s m args below meth c H locs cells slots Q (F0 m (pc + 3) ls (rv sz x :: rest))) : W p l e R s m args below meth c H locs cells slots Q (F0 m pc ls (.ref (sz + r) :: rest)) := m_get E hM (ci := 0) (N := 4) (k := 2) (C := RX0) (T := TX0) hok (by decide) rfl rfl (by decide) inX0 rfl wf_X7_234 hdg (kk _ rfl)
theorem gs_X0_24 (E : EE p s m args c cc nL RX0 D cy) (hM : MM D cy sz H0 u H locs) (hok : okO u r 0 = true) (hdg : decode cc pc = .ok (.getfield 24, 3)) (kk : ∀ x, gR u r 3 = x → W p l e R s m args below meth c H locs cells slots Q (F0 m (pc + 3) ls (rv sz x :: rest))) : W p l e R s m args below meth c H locs cells slots Q (F0 m pc ls (.ref (sz + r) :: rest)) := m_get E hM (ci := 0) (N := 4) (k := 3) (C := RX0) (T := TX0) hok (by decide) rfl rfl (by decide) inX0 rfl wf_X0_24 hdg (kk _ rfl)
theorem ps_X0_24 {v : Option Nat} (E : EE p s m args c cc nL RX0 D cy) (hM : MM D cy sz H0 u H locs) (hok : okO u r 0 = true) (hinit : meth.name = "<init>") (hdg : decode cc pc = .ok (.putfield 24, 3)) (kk : ∀ (H1 : Heap) (locs1 : List Loc), MM D cy sz H0 (sR u r 3 v) H1 locs1 → W p l e R s m args below meth c H1 locs1 cells slots Q (F0 m (pc + 3) ls rest)) : W p l e R s m args below meth c H locs cells slots Q (F0 m pc ls (rv sz v :: .ref (sz + r) :: rest)) := m_put E hM (u' := sR u r 3 v) (ci := 0) (N := 4) (k := 3) (C := RX0) (T := TX0) tyX0 tyX0_ok nmX0 hok (by decide) rfl rfl (by decide) inX0 rfl wf_X0_24 (Or.inr ⟨rfl, hinit, rfl⟩) (rv_nar (Or.inr ⟨_, rfl⟩)).1 (rv_nar (Or.inr ⟨_, rfl⟩)).2 rfl mv_sR (fun j _ => upd_sR rfl j) hdg kk
theorem gs_X2_9 (E : EE p s m args c cc nL RX2 D cy) (hM : MM D cy sz H0 u H locs) (hok : okO u r 2 = true) (hdg : decode cc pc = .ok (.getfield 9, 3)) (kk : ∀ x, gR u r 0 = x → W p l e R s m args below meth c H locs cells slots Q (F0 m (pc + 3) ls (rv sz x :: rest))) : W p l e R s m args below meth c H locs cells slots Q (F0 m pc ls (.ref (sz + r) :: rest)) := m_get E hM (ci := 2) (N := 4) (k := 0) (C := RX2) (T := TX2) hok (by decide) rfl rfl (by decide) inX2 rfl wf_X2_9 hdg (kk _ rfl)
theorem ps_X2_9 {v : Option Nat} (E : EE p s m args c cc nL RX2 D cy) (hM : MM D cy sz H0 u H locs) (hok : okO u r 2 = true) (hinit : meth.name = "<init>") (hdg : decode cc pc = .ok (.putfield 9, 3)) (kk : ∀ (H1 : Heap) (locs1 : List Loc), MM D cy sz H0 (sR u r 0 v) H1 locs1 → W p l e R s m args below meth c H1 locs1 cells slots Q (F0 m (pc + 3) ls rest)) : W p l e R s m args below meth c H locs cells slots Q (F0 m pc ls (rv sz v :: .ref (sz + r) :: rest)) := m_put E hM (u' := sR u r 0 v) (ci := 2) (N := 4) (k := 0) (C := RX2) (T := TX2) tyX2 tyX2_ok nmX2 hok (by decide) rfl rfl (by decide) inX2 rfl wf_X2_9 (Or.inr ⟨rfl, hinit, rfl⟩) (rv_nar (Or.inr ⟨_, rfl⟩)).1 (rv_nar (Or.inr ⟨_, rfl⟩)).2 rfl mv_sR (fun j _ => upd_sR rfl j) hdg kk
theorem gs_X2_15 (E : EE p s m args c cc nL RX2 D cy) (hM : MM D cy sz H0 u H locs) (hok : okO u r 2 = true) (hdg : decode cc pc = .ok (.getfield 15, 3)) (kk : ∀ x, gR u r 1 = x → W p l e R s m args below meth c H locs cells slots Q (F0 m (pc + 3) ls (rv sz x :: rest))) : W p l e R s m args below meth c H locs cells slots Q (F0 m pc ls (.ref (sz + r) :: rest)) := m_get E hM (ci := 2) (N := 4) (k := 1) (C := RX2) (T := TX2) hok (by decide) rfl rfl (by decide) inX2 rfl wf_X2_15 hdg (kk _ rfl)
theorem ps_X2_15 {v : Option Nat} (E : EE p s m args c cc nL RX2 D cy) (hM : MM D cy sz H0 u H locs) (hok : okO u r 2 = true) (hinit : meth.name = "<init>") (hdg : decode cc pc = .ok (.putfield 15, 3)) (kk : ∀ (H1 : Heap) (locs1 : List Loc), MM D cy sz H0 (sR u r 1 v) H1 locs1 → W p l e R s m args below meth c H1 locs1 cells slots Q (F0 m (pc + 3) ls rest)) : W p l e R s m args below meth c H locs cells slots Q (F0 m pc ls (rv sz v :: .ref (sz + r) :: rest)) := m_put E hM (u' := sR u r 1 v) (ci := 2) (N := 4) (k := 1) (C := RX2) (T := TX2) tyX2 tyX2_ok nmX2 hok (by decide) rfl rfl (by decide) inX2 rfl wf_X2_15 (Or.inr ⟨rfl, hinit, rfl⟩) (rv_nar (Or.inr ⟨_, rfl⟩)).1 (rv_nar (Or.inr ⟨_, rfl⟩)).2 rfl mv_sR (fun j _ => upd_sR rfl j) hdg kk
theorem gs_X2_18 (E : EE p s m args c cc nL RX2 D cy) (hM : MM D cy sz H0 u H locs) (hok : okO u r 2 = true) (hdg : decode cc pc = .ok (.getfield 18, 3)) (kk : ∀ x, gR u r 2 = x → W p l e R s m args below meth c H locs cells slots Q (F0 m (pc + 3) ls (rv sz x :: rest))) : W p l e R s m args below meth c H locs cells slots Q (F0 m pc ls (.ref (sz + r) :: rest)) := m_get E hM (ci := 2) (N := 4) (k := 2) (C := RX2) (T := TX2) hok (by decide) rfl rfl (by decide) inX2 rfl wf_X2_18 hdg (kk _ rfl)
theorem ps_X2_18 {v : Option Nat} (E : EE p s m args c cc nL RX2 D cy) (hM : MM D cy sz H0 u H locs) (hok : okO u r 2 = true) (hinit : meth.name = "<init>") (hdg : decode cc pc = .ok (.putfield 18, 3)) (kk : ∀ (H1 : Heap) (locs1 : List Loc), MM D cy sz H0 (sR u r 2 v) H1 locs1 → W p l e R s m args below meth c H1 locs1 cells slots Q (F0 m (pc + 3) ls rest)) : W p l e R s m args below meth c H locs cells slots Q (F0 m pc ls (rv sz v :: .ref (sz + r) :: rest)) := m_put E hM (u' := sR u r 2 v) (ci := 2) (N := 4) (k := 2) (C := RX2) (T := TX2) tyX2 tyX2_ok nmX2 hok (by decide) rfl rfl (by decide) inX2 rfl wf_X2_18 (Or.inr ⟨rfl, hinit, rfl⟩) (rv_nar (Or.inr ⟨_, rfl⟩)).1 (rv_nar (Or.inr ⟨_, rfl⟩)).2 rfl mv_sR (fun j _ => upd_sR rfl j) hdg kk
theorem gs_X2_21 (E : EE p s m args c cc nL RX2 D cy) (hM : MM D cy sz H0 u H locs) (hok : okO u r 2 = true) (hdg : decode cc pc = .ok (.getfield 21, 3)) (kk : W p l e R s m args below meth c H locs cells slots Q (F0 m (pc + 3) ls (.int (gI u r 3) :: rest))) : W p l e R s m args below meth c H locs cells slots Q (F0 m pc ls (.ref (sz + r) :: rest)) := m_get E hM (ci := 2) (N := 4) (k := 3) (C := RX2) (T := TX2) hok (by decide) rfl rfl (by decide) inX2 rfl wf_X2_21 hdg kk
theorem ps_X2_21 {v : Int32} (E : EE p s m args c cc nL RX2 D cy) (hM : MM D cy sz H0 u H locs) (hok : okO u r 2 = true) (hdg : decode cc pc = .ok (.putfield 21, 3)) (kk : ∀ (H1 : Heap) (locs1 : List Loc), MM D cy sz H0 (sI u r 3 v) H1 locs1 → W p l e R s m args below meth c H1 locs1 cells slots Q (F0 m (pc + 3) ls rest)) : W p l e R s m args below meth c H locs cells slots Q (F0 m pc ls (.int v :: .ref (sz + r) :: rest)) := m_put E hM (u' := sI u r 3 v) (ci := 2) (N := 4) (k := 3) (C := RX2) (T := TX2) tyX2 tyX2_ok nmX2 hok (by decide) rfl rfl (by decide) inX2 rfl wf_X2_21 (Or.inl rfl) rfl rfl rfl mv_sI (fun j _ => upd_sI rfl j) hdg kk
theorem gs_X1_9 (E : EE p s m args c cc nL RX1 D cy) (hM : MM D cy sz H0 u H locs) (hok : okO u r 1 = true) (hdg : decode cc pc = .ok (.getfield 9, 3)) (kk : ∀ x, gR u r 0 = x → W p l e R s m args below meth c H locs cells slots Q (F0 m (pc + 3) ls (rv sz x :: rest))) : W p l e R s m args below meth c H locs cells slots Q (F0 m pc ls (.ref (sz + r) :: rest)) := m_get E hM (ci := 1) (N := 2) (k := 0) (C := RX1) (T := TX1) hok (by decide) rfl rfl (by decide) inX1 rfl wf_X1_9 hdg (kk _ rfl)
theorem ps_X1_9 {v : Option Nat} (E : EE p s m args c cc nL RX1 D cy) (hM : MM D cy sz H0 u H locs) (hok : okO u r 1 = true) (hinit : meth.name = "<init>") (hdg : decode cc pc = .ok (.putfield 9, 3)) (kk : ∀ (H1 : Heap) (locs1 : List Loc), MM D cy sz H0 (sR u r 0 v) H1 locs1 → W p l e R s m args below meth c H1 locs1 cells slots Q (F0 m (pc + 3) ls rest)) : W p l e R s m args below meth c H locs cells slots Q (F0 m pc ls (rv sz v :: .ref (sz + r) :: rest)) := m_put E hM (u' := sR u r 0 v) (ci := 1) (N := 2) (k := 0) (C := RX1) (T := TX1) tyX1 tyX1_ok nmX1 hok (by decide) rfl rfl (by decide) inX1 rfl wf_X1_9 (Or.inr ⟨rfl, hinit, rfl⟩) (rv_nar (Or.inr ⟨_, rfl⟩)).1 (rv_nar (Or.inr ⟨_, rfl⟩)).2 rfl mv_sR (fun j _ => upd_sR rfl j) hdg kk
theorem gs_X4_73 (E : EE p s m args c cc nL RX4 D cy) (hM : MM D cy sz H0 u H locs) (hok : okO u r 1 = true) (hdg : decode cc pc = .ok (.getfield 73, 3)) (kk : ∀ x, gR u r 0 = x → W p l e R s m args below meth c H locs cells slots Q (F0 m (pc + 3) ls (rv sz x :: rest))) : W p l e R s m args below meth c H locs cells slots Q (F0 m pc ls (.ref (sz + r) :: rest)) := m_get E hM (ci := 1) (N := 2) (k := 0) (C := RX1) (T := TX1) hok (by decide) rfl rfl (by decide) inX1 rfl wf_X4_73 hdg (kk _ rfl)
theorem gs_X7_147 (E : EE p s m args c cc nL RX7 D cy) (hM : MM D cy sz H0 u H locs) (hok : okO u r 1 = true) (hdg : decode cc pc = .ok (.getfield 147, 3)) (kk : ∀ x, gR u r 0 = x → W p l e R s m args below meth c H locs cells slots Q (F0 m (pc + 3) ls (rv sz x :: rest))) : W p l e R s m args below meth c H locs cells slots Q (F0 m pc ls (.ref (sz + r) :: rest)) := m_get E hM (ci := 1) (N := 2) (k := 0) (C := RX1) (T := TX1) hok (by decide) rfl rfl (by decide) inX1 rfl wf_X7_147 hdg (kk _ rfl)
theorem gs_X1_15 (E : EE p s m args c cc nL RX1 D cy) (hM : MM D cy sz H0 u H locs) (hok : okO u r 1 = true) (hdg : decode cc pc = .ok (.getfield 15, 3)) (kk : ∀ x, gR u r 1 = x → W p l e R s m args below meth c H locs cells slots Q (F0 m (pc + 3) ls (rv sz x :: rest))) : W p l e R s m args below meth c H locs cells slots Q (F0 m pc ls (.ref (sz + r) :: rest)) := m_get E hM (ci := 1) (N := 2) (k := 1) (C := RX1) (T := TX1) hok (by decide) rfl rfl (by decide) inX1 rfl wf_X1_15 hdg (kk _ rfl)
theorem ps_X1_15 {v : Option Nat} (E : EE p s m args c cc nL RX1 D cy) (hM : MM D cy sz H0 u H locs) (hok : okO u r 1 = true) (hinit : meth.name = "<init>") (hdg : decode cc pc = .ok (.putfield 15, 3)) (kk : ∀ (H1 : Heap) (locs1 : List Loc), MM D cy sz H0 (sR u r 1 v) H1 locs1 → W p l e R s m args below meth c H1 locs1 cells slots Q (F0 m (pc + 3) ls rest)) : W p l e R s m args below meth c H locs cells slots Q (F0 m pc ls (rv sz v :: .ref (sz + r) :: rest)) := m_put E hM (u' := sR u r 1 v) (ci := 1) (N := 2) (k := 1) (C := RX1) (T := TX1) tyX1 tyX1_ok nmX1 hok (by decide) rfl rfl (by decide) inX1 rfl wf_X1_15 (Or.inr ⟨rfl, hinit, rfl⟩) (rv_nar (Or.inr ⟨_, rfl⟩)).1 (rv_nar (Or.inr ⟨_, rfl⟩)).2 rfl mv_sR (fun j _ => upd_sR rfl j) hdg kk
theorem gs_X4_70 (E : EE p s m args c cc nL RX4 D cy) (hM : MM D cy sz H0 u H locs) (hok : okO u r 1 = true) (hdg : decode cc pc = .ok (.getfield 70, 3)) (kk : ∀ x, gR u r 1 = x → W p l e R s m args below meth c H locs cells slots Q (F0 m (pc + 3) ls (rv sz x :: rest))) : W p l e R s m args below meth c H locs cells slots Q (F0 m pc ls (.ref (sz + r) :: rest)) := m_get E hM (ci := 1) (N := 2) (k := 1) (C := RX1) (T := TX1) hok (by decide) rfl rfl (by decide) inX1 rfl wf_X4_70 hdg (kk _ rfl)
theorem gs_X4_12 (E : EE p s m args c cc nL RX4 D cy) (hM : MM D cy sz H0 u H locs) (hok : okO u r 4 = true) (hdg : decode cc pc = .ok (.getfield 12, 3)) (kk : ∀ x, gR u r 0 = x → W p l e R s m args below meth c H locs cells slots Q (F0 m (pc + 3) ls (rv sz x :: rest))) : W p l e R s m args below meth c H locs cells slots Q (F0 m pc ls (.ref (sz + r) :: rest)) := m_get E hM (ci := 4) (N := 7) (k := 0) (C := RX4) (T := TX4) hok (by decide) rfl rfl (by decide) inX4 rfl wf_X4_12 hdg (kk _ rfl)
theorem ps_X4_12 {v : Option Nat} (E : EE p s m args c cc nL RX4 D cy) (hM : MM D cy sz H0 u H locs) (hok : okO u r 4 = true) (hinit : meth.name = "<init>") (hdg : decode cc pc = .ok (.putfield 12, 3)) (kk : ∀ (H1 : Heap) (locs1 : List Loc), MM D cy sz H0 (sR u r 0 v) H1 locs1 → W p l e R s m args below meth c H1 locs1 cells slots Q (F0 m (pc + 3) ls rest)) : W p l e R s m args below meth c H locs cells slots Q (F0 m pc ls (rv sz v :: .ref (sz + r) :: rest)) := m_put E hM (u' := sR u r 0 v) (ci := 4) (N := 7) (k := 0) (C := RX4) (T := TX4) tyX4 tyX4_ok nmX4 hok (by decide) rfl rfl (by decide) inX4 rfl wf_X4_12 (Or.inr ⟨rfl, hinit, rfl⟩) (rv_nar (Or.inl ⟨_, rfl⟩)).1 (rv_nar (Or.inl ⟨_, rfl⟩)).2 rfl mv_sR (fun j _ => upd_sR rfl j) hdg kk
theorem gs_X7_143 (E : EE p s m args c cc nL RX7 D cy) (hM : MM D cy sz H0 u H locs) (hok : okO u r 4 = true) (hdg : decode cc pc = .ok (.getfield 143, 3)) (kk : ∀ x, gR u r 0 = x → W p l e R s m args below meth c H locs cells slots Q (F0 m (pc + 3) ls (rv sz x :: rest))) : W p l e R s m args below meth c H locs cells slots Q (F0 m pc ls (.ref (sz + r) :: rest)) := m_get E hM (ci := 4) (N := 7) (k := 0) (C := RX4) (T := TX4) hok (by decide) rfl rfl (by decide) inX4 rfl wf_X7_143 hdg (kk _ rfl)
theorem gs_X4_18 (E : EE p s m args c cc nL RX4 D cy) (hM : MM D cy sz H0 u H locs) (hok : okO u r 4 = true) (hdg : decode cc pc = .ok (.getfield 18, 3)) (kk : ∀ x, gR u r 1 = x → W p l e R s m args below meth c H locs cells slots Q (F0 m (pc + 3) ls (rv sz x :: rest))) : W p l e R s m args below meth c H locs cells slots Q (F0 m pc ls (.ref (sz + r) :: rest)) := m_get E hM (ci := 4) (N := 7) (k := 1) (C := RX4) (T := TX4) hok (by decide) rfl rfl (by decide) inX4 rfl wf_X4_18 hdg (kk _ rfl)
theorem ps_X4_18 {v : Option Nat} (E : EE p s m args c cc nL RX4 D cy) (hM : MM D cy sz H0 u H locs) (hok : okO u r 4 = true) (hinit : meth.name = "<init>") (hdg : decode cc pc = .ok (.putfield 18, 3)) (kk : ∀ (H1 : Heap) (locs1 : List Loc), MM D cy sz H0 (sR u r 1 v) H1 locs1 → W p l e R s m args below meth c H1 locs1 cells slots Q (F0 m (pc + 3) ls rest)) : W p l e R s m args below meth c H locs cells slots Q (F0 m pc ls (rv sz v :: .ref (sz + r) :: rest)) := m_put E hM (u' := sR u r 1 v) (ci := 4) (N := 7) (k := 1) (C := RX4) (T := TX4) tyX4 tyX4_ok nmX4 hok (by decide) rfl rfl (by decide) inX4 rfl wf_X4_18 (Or.inr ⟨rfl, hinit, rfl⟩) (rv_nar (Or.inl ⟨_, rfl⟩)).1 (rv_nar (Or.inl ⟨_, rfl⟩)).2 rfl mv_sR (fun j _ => upd_sR rfl j) hdg kk
theorem gs_X7_273 (E : EE p s m args c cc nL RX7 D cy) (hM : MM D cy sz H0 u H locs) (hok : okO u r 4 = true) (hdg : decode cc pc = .ok (.getfield 273, 3)) (kk : ∀ x, gR u r 1 = x → W p l e R s m args below meth c H locs cells slots Q (F0 m (pc + 3) ls (rv sz x :: rest))) : W p l e R s m args below meth c H locs cells slots Q (F0 m pc ls (.ref (sz + r) :: rest)) := m_get E hM (ci := 4) (N := 7) (k := 1) (C := RX4) (T := TX4) hok (by decide) rfl rfl (by decide) inX4 rfl wf_X7_273 hdg (kk _ rfl)
theorem gs_X4_21 (E : EE p s m args c cc nL RX4 D cy) (hM : MM D cy sz H0 u H locs) (hok : okO u r 4 = true) (hdg : decode cc pc = .ok (.getfield 21, 3)) (kk : ∀ x, gR u r 2 = x → W p l e R s m args below meth c H locs cells slots Q (F0 m (pc + 3) ls (rv sz x :: rest))) : W p l e R s m args below meth c H locs cells slots Q (F0 m pc ls (.ref (sz + r) :: rest)) := m_get E hM (ci := 4) (N := 7) (k := 2) (C := RX4) (T := TX4) hok (by decide) rfl rfl (by decide) inX4 rfl wf_X4_21 hdg (kk _ rfl)
theorem ps_X4_21 {v : Option Nat} (E : EE p s m args c cc nL RX4 D cy) (hM : MM D cy sz H0 u H locs) (hok : okO u r 4 = true) (hinit : meth.name = "<init>") (hdg : decode cc pc = .ok (.putfield 21, 3)) (kk : ∀ (H1 : Heap) (locs1 : List Loc), MM D cy sz H0 (sR u r 2 v) H1 locs1 → W p l e R s m args below meth c H1 locs1 cells slots Q (F0 m (pc + 3) ls rest)) : W p l e R s m args below meth c H locs cells slots Q (F0 m pc ls (rv sz v :: .ref (sz + r) :: rest)) := m_put E hM (u' := sR u r 2 v) (ci := 4) (N := 7) (k := 2) (C := RX4) (T := TX4) tyX4 tyX4_ok nmX4 hok (by decide) rfl rfl (by decide) inX4 rfl wf_X4_21 (Or.inr ⟨rfl, hinit, rfl⟩) (rv_nar (Or.inr ⟨_, rfl⟩)).1 (rv_nar (Or.inr ⟨_, rfl⟩)).2 rfl mv_sR (fun j _ => upd_sR rfl j) hdg kk
theorem gs_X7_153 (E : EE p s m args c cc nL RX7 D cy) (hM : MM D cy sz H0 u H locs) (hok : okO u r 4 = true) (hdg : decode cc pc = .ok (.getfield 153, 3)) (kk : ∀ x, gR u r 2 = x → W p l e R s m args below meth c H locs cells slots Q (F0 m (pc + 3) ls (rv sz x :: rest))) : W p l e R s m args below meth c H locs cells slots Q (F0 m pc ls (.ref (sz + r) :: rest)) := m_get E hM (ci := 4) (N := 7) (k := 2) (C := RX4) (T := TX4) hok (by decide) rfl rfl (by decide) inX4 rfl wf_X7_153 hdg (kk _ rfl)
theorem gs_X4_25 (E : EE p s m args c cc nL RX4 D cy) (hM : MM D cy sz H0 u H locs) (hok : okO u r 4 = true) (hdg : decode cc pc = .ok (.getfield 25, 3)) (kk : ∀ x, gR u r 3 = x → W p l e R s m args below meth c H locs cells slots Q (F0 m (pc + 3) ls (rv sz x :: rest))) : W p l e R s m args below meth c H locs cells slots Q (F0 m pc ls (.ref (sz + r) :: rest)) := m_get E hM (ci := 4) (N := 7) (k := 3) (C := RX4) (T := TX4) hok (by decide) rfl rfl (by decide) inX4 rfl wf_X4_25 hdg (kk _ rfl)
theorem ps_X4_25 {v : Option Nat} (E : EE p s m args c cc nL RX4 D cy) (hM : MM D cy sz H0 u H locs) (hok : okO u r 4 = true) (hinit : meth.name = "<init>") (hdg : decode cc pc = .ok (.putfield 25, 3)) (kk : ∀ (H1 : Heap) (locs1 : List Loc), MM D cy sz H0 (sR u r 3 v) H1 locs1 → W p l e R s m args below meth c H1 locs1 cells slots Q (F0 m (pc + 3) ls rest)) : W p l e R s m args below meth c H locs cells slots Q (F0 m pc ls (rv sz v :: .ref (sz + r) :: rest)) := m_put E hM (u' := sR u r 3 v) (ci := 4) (N := 7) (k := 3) (C := RX4) (T := TX4) tyX4 tyX4_ok nmX4 hok (by decide) rfl rfl (by decide) inX4 rfl wf_X4_25 (Or.inr ⟨rfl, hinit, rfl⟩) (rv_nar (Or.inr ⟨_, rfl⟩)).1 (rv_nar (Or.inr ⟨_, rfl⟩)).2 rfl mv_sR (fun j _ => upd_sR rfl j) hdg kk
theorem gs_X7_264 (E : EE p s m args c cc nL RX7 D cy) (hM : MM D cy sz H0 u H locs) (hok : okO u r 4 = true) (hdg : decode cc pc = .ok (.getfield 264, 3)) (kk : ∀ x, gR u r 3 = x → W p l e R s m args below meth c H locs cells slots Q (F0 m (pc + 3) ls (rv sz x :: rest))) : W p l e R s m args below meth c H locs cells slots Q (F0 m pc ls (.ref (sz + r) :: rest)) := m_get E hM (ci := 4) (N := 7) (k := 3) (C := RX4) (T := TX4) hok (by decide) rfl rfl (by decide) inX4 rfl wf_X7_264 hdg (kk _ rfl)
theorem gs_X4_28 (E : EE p s m args c cc nL RX4 D cy) (hM : MM D cy sz H0 u H locs) (hok : okO u r 4 = true) (hdg : decode cc pc = .ok (.getfield 28, 3)) (kk : ∀ x, gR u r 4 = x → W p l e R s m args below meth c H locs cells slots Q (F0 m (pc + 3) ls (rv sz x :: rest))) : W p l e R s m args below meth c H locs cells slots Q (F0 m pc ls (.ref (sz + r) :: rest)) := m_get E hM (ci := 4) (N := 7) (k := 4) (C := RX4) (T := TX4) hok (by decide) rfl rfl (by decide) inX4 rfl wf_X4_28 hdg (kk _ rfl)
theorem ps_X4_28 {v : Option Nat} (E : EE p s m args c cc nL RX4 D cy) (hM : MM D cy sz H0 u H locs) (hok : okO u r 4 = true) (hinit : meth.name = "<init>") (hdg : decode cc pc = .ok (.putfield 28, 3)) (kk : ∀ (H1 : Heap) (locs1 : List Loc), MM D cy sz H0 (sR u r 4 v) H1 locs1 → W p l e R s m args below meth c H1 locs1 cells slots Q (F0 m (pc + 3) ls rest)) : W p l e R s m args below meth c H locs cells slots Q (F0 m pc ls (rv sz v :: .ref (sz + r) :: rest)) := m_put E hM (u' := sR u r 4 v) (ci := 4) (N := 7) (k := 4) (C := RX4) (T := TX4) tyX4 tyX4_ok nmX4 hok (by decide) rfl rfl (by decide) inX4 rfl wf_X4_28 (Or.inr ⟨rfl, hinit, rfl⟩) (rv_nar (Or.inr ⟨_, rfl⟩)).1 (rv_nar (Or.inr ⟨_, rfl⟩)).2 rfl mv_sR (fun j _ => upd_sR rfl j) hdg kk
theorem gs_X7_267 (E : EE p s m args c cc nL RX7 D cy) (hM : MM D cy sz H0 u H locs) (hok : okO u r 4 = true) (hdg : decode cc pc = .ok (.getfield 267, 3)) (kk : ∀ x, gR u r 4 = x → W p l e R s m args below meth c H locs cells slots Q (F0 m (pc + 3) ls (rv sz x :: rest))) : W p l e R s m args below meth c H locs cells slots Q (F0 m pc ls (.ref (sz + r) :: rest)) := m_get E hM (ci := 4) (N := 7) (k := 4) (C := RX4) (T := TX4) hok (by decide) rfl rfl (by decide) inX4 rfl wf_X7_267 hdg (kk _ rfl)
theorem gs_X4_31 (E : EE p s m args c cc nL RX4 D cy) (hM : MM D cy sz H0 u H locs) (hok : okO u r 4 = true) (hdg : decode cc pc = .ok (.getfield 31, 3)) (kk : ∀ x, gR u r 5 = x → W p l e R s m args below meth c H locs cells slots Q (F0 m (pc + 3) ls (rv sz x :: rest))) : W p l e R s m args below meth c H locs cells slots Q (F0 m pc ls (.ref (sz + r) :: rest)) := m_get E hM (ci := 4) (N := 7) (k := 5) (C := RX4) (T := TX4) hok (by decide) rfl rfl (by decide) inX4 rfl wf_X4_31 hdg (kk _ rfl)
theorem ps_X4_31 {v : Option Nat} (E : EE p s m args c cc nL RX4 D cy) (hM : MM D cy sz H0 u H locs) (hok : okO u r 4 = true) (hinit : meth.name = "<init>") (hdg : decode cc pc = .ok (.putfield 31, 3)) (kk : ∀ (H1 : Heap) (locs1 : List Loc), MM D cy sz H0 (sR u r 5 v) H1 locs1 → W p l e R s m args below meth c H1 locs1 cells slots Q (F0 m (pc + 3) ls rest)) : W p l e R s m args below meth c H locs cells slots Q (F0 m pc ls (rv sz v :: .ref (sz + r) :: rest)) := m_put E hM (u' := sR u r 5 v) (ci := 4) (N := 7) (k := 5) (C := RX4) (T := TX4) tyX4 tyX4_ok nmX4 hok (by decide) rfl rfl (by decide) inX4 rfl wf_X4_31 (Or.inr ⟨rfl, hinit, rfl⟩) (rv_nar (Or.inr ⟨_, rfl⟩)).1 (rv_nar (Or.inr ⟨_, rfl⟩)).2 rfl mv_sR (fun j _ => upd_sR rfl j) hdg kk
theorem gs_X7_270 (E : EE p s m args c cc nL RX7 D cy) (hM : MM D cy sz H0 u H locs) (hok : okO u r 4 = true) (hdg : decode cc pc = .ok (.getfield 270, 3)) (kk : ∀ x, gR u r 5 = x → W p l e R s m args below meth c H locs cells slots Q (F0 m (pc + 3) ls (rv sz x :: rest))) : W p l e R s m args below meth c H locs cells slots Q (F0 m pc ls (.ref (sz + r) :: rest)) := m_get E hM (ci := 4) (N := 7) (k := 5) (C := RX4) (T := TX4) hok (by decide) rfl rfl (by decide) inX4 rfl wf_X7_270 hdg (kk _ rfl)
theorem gs_X4_34 (E : EE p s m args c cc nL RX4 D cy) (hM : MM D cy sz H0 u H locs) (hok : okO u r 4 = true) (hdg : decode cc pc = .ok (.getfield 34, 3)) (kk : W p l e R s m args below meth c H locs cells slots Q (F0 m (pc + 3) ls (.int (gI u r 6) :: rest))) : W p l e R s m args below meth c H locs cells slots Q (F0 m pc ls (.ref (sz + r) :: rest)) := m_get E hM (ci := 4) (N := 7) (k := 6) (C := RX4) (T := TX4) hok (by decide) rfl rfl (by decide) inX4 rfl wf_X4_34 hdg kk
theorem ps_X4_34 {v : Int32} (E : EE p s m args c cc nL RX4 D cy) (hM : MM D cy sz H0 u H locs) (hok : okO u r 4 = true) (hdg : decode cc pc = .ok (.putfield 34, 3)) (kk : ∀ (H1 : Heap) (locs1 : List Loc), MM D cy sz H0 (sI u r 6 v) H1 locs1 → W p l e R s m args below meth c H1 locs1 cells slots Q (F0 m (pc + 3) ls rest)) : W p l e R s m args below meth c H locs cells slots Q (F0 m pc ls (.int v :: .ref (sz + r) :: rest)) := m_put E hM (u' := sI u r 6 v) (ci := 4) (N := 7) (k := 6) (C := RX4) (T := TX4) tyX4 tyX4_ok nmX4 hok (by decide) rfl rfl (by decide) inX4 rfl wf_X4_34 (Or.inl rfl) rfl rfl rfl mv_sI (fun j _ => upd_sI rfl j) hdg kk
theorem gs_X7_261 (E : EE p s m args c cc nL RX7 D cy) (hM : MM D cy sz H0 u H locs) (hok : okO u r 4 = true) (hdg : decode cc pc = .ok (.getfield 261, 3)) (kk : W p l e R s m args below meth c H locs cells slots Q (F0 m (pc + 3) ls (.int (gI u r 6) :: rest))) : W p l e R s m args below meth c H locs cells slots Q (F0 m pc ls (.ref (sz + r) :: rest)) := m_get E hM (ci := 4) (N := 7) (k := 6) (C := RX4) (T := TX4) hok (by decide) rfl rfl (by decide) inX4 rfl wf_X7_261 hdg kk
theorem gs_X3_9 (E : EE p s m args c cc nL RX3 D cy) (hM : MM D cy sz H0 u H locs) (hok : okO u r 3 = true) (hdg : decode cc pc = .ok (.getfield 9, 3)) (kk : ∀ x, gR u r 0 = x → W p l e R s m args below meth c H locs cells slots Q (F0 m (pc + 3) ls (rv sz x :: rest))) : W p l e R s m args below meth c H locs cells slots Q (F0 m pc ls (.ref (sz + r) :: rest)) := m_get E hM (ci := 3) (N := 4) (k := 0) (C := RX3) (T := TX3) hok (by decide) rfl rfl (by decide) inX3 rfl wf_X3_9 hdg (kk _ rfl)
theorem ps_X3_9 {v : Option Nat} (E : EE p s m args c cc nL RX3 D cy) (hM : MM D cy sz H0 u H locs) (hok : okO u r 3 = true) (hinit : meth.name = "<init>") (hdg : decode cc pc = .ok (.putfield 9, 3)) (kk : ∀ (H1 : Heap) (locs1 : List Loc), MM D cy sz H0 (sR u r 0 v) H1 locs1 → W p l e R s m args below meth c H1 locs1 cells slots Q (F0 m (pc + 3) ls rest)) : W p l e R s m args below meth c H locs cells slots Q (F0 m pc ls (rv sz v :: .ref (sz + r) :: rest)) := m_put E hM (u' := sR u r 0 v) (ci := 3) (N := 4) (k := 0) (C := RX3) (T := TX3) tyX3 tyX3_ok nmX3 hok (by decide) rfl rfl (by decide) inX3 rfl wf_X3_9 (Or.inr ⟨rfl, hinit, rfl⟩) (rv_nar (Or.inr ⟨_, rfl⟩)).1 (rv_nar (Or.inr ⟨_, rfl⟩)).2 rfl mv_sR (fun j _ => upd_sR rfl j) hdg kk
theorem gs_X7_298 (E : EE p s m args c cc nL RX7 D cy) (hM : MM D cy sz H0 u H locs) (hok : okO u r 3 = true) (hdg : decode cc pc = .ok (.getfield 298, 3)) (kk : ∀ x, gR u r 0 = x → W p l e R s m args below meth c H locs cells slots Q (F0 m (pc + 3) ls (rv sz x :: rest))) : W p l e R s m args below meth c H locs cells slots Q (F0 m pc ls (.ref (sz + r) :: rest)) := m_get E hM (ci := 3) (N := 4) (k := 0) (C := RX3) (T := TX3) hok (by decide) rfl rfl (by decide) inX3 rfl wf_X7_298 hdg (kk _ rfl)
theorem gs_X3_15 (E : EE p s m args c cc nL RX3 D cy) (hM : MM D cy sz H0 u H locs) (hok : okO u r 3 = true) (hdg : decode cc pc = .ok (.getfield 15, 3)) (kk : ∀ x, gR u r 1 = x → W p l e R s m args below meth c H locs cells slots Q (F0 m (pc + 3) ls (rv sz x :: rest))) : W p l e R s m args below meth c H locs cells slots Q (F0 m pc ls (.ref (sz + r) :: rest)) := m_get E hM (ci := 3) (N := 4) (k := 1) (C := RX3) (T := TX3) hok (by decide) rfl rfl (by decide) inX3 rfl wf_X3_15 hdg (kk _ rfl)
theorem ps_X3_15 {v : Option Nat} (E : EE p s m args c cc nL RX3 D cy) (hM : MM D cy sz H0 u H locs) (hok : okO u r 3 = true) (hinit : meth.name = "<init>") (hdg : decode cc pc = .ok (.putfield 15, 3)) (kk : ∀ (H1 : Heap) (locs1 : List Loc), MM D cy sz H0 (sR u r 1 v) H1 locs1 → W p l e R s m args below meth c H1 locs1 cells slots Q (F0 m (pc + 3) ls rest)) : W p l e R s m args below meth c H locs cells slots Q (F0 m pc ls (rv sz v :: .ref (sz + r) :: rest)) := m_put E hM (u' := sR u r 1 v) (ci := 3) (N := 4) (k := 1) (C := RX3) (T := TX3) tyX3 tyX3_ok nmX3 hok (by decide) rfl rfl (by decide) inX3 rfl wf_X3_15 (Or.inr ⟨rfl, hinit, rfl⟩) (rv_nar (Or.inr ⟨_, rfl⟩)).1 (rv_nar (Or.inr ⟨_, rfl⟩)).2 rfl mv_sR (fun j _ => upd_sR rfl j) hdg kk
theorem gs_X3_19 (E : EE p s m args c cc nL RX3 D cy) (hM : MM D cy sz H0 u H locs) (hok : okO u r 3 = true) (hdg : decode cc pc = .ok (.getfield 19, 3)) (kk : ∀ x, gR u r 2 = x → W p l e R s m args below meth c H locs cells slots Q (F0 m (pc + 3) ls (rv sz x :: rest))) : W p l e R s m args below meth c H locs cells slots Q (F0 m pc ls (.ref (sz + r) :: rest)) := m_get E hM (ci := 3) (N := 4) (k := 2) (C := RX3) (T := TX3) hok (by decide) rfl rfl (by decide) inX3 rfl wf_X3_19 hdg (kk _ rfl)
theorem ps_X3_19 {v : Option Nat} (E : EE p s m args c cc nL RX3 D cy) (hM : MM D cy sz H0 u H locs) (hok : okO u r 3 = true) (hinit : meth.name = "<init>") (hdg : decode cc pc = .ok (.putfield 19, 3)) (kk : ∀ (H1 : Heap) (locs1 : List Loc), MM D cy sz H0 (sR u r 2 v) H1 locs1 → W p l e R s m args below meth c H1 locs1 cells slots Q (F0 m (pc + 3) ls rest)) : W p l e R s m args below meth c H locs cells slots Q (F0 m pc ls (rv sz v :: .ref (sz + r) :: rest)) := m_put E hM (u' := sR u r 2 v) (ci := 3) (N := 4) (k := 2) (C := RX3) (T := TX3) tyX3 tyX3_ok nmX3 hok (by decide) rfl rfl (by decide) inX3 rfl wf_X3_19 (Or.inr ⟨rfl, hinit, rfl⟩) (rv_nar (Or.inr ⟨_, rfl⟩)).1 (rv_nar (Or.inr ⟨_, rfl⟩)).2 rfl mv_sR (fun j _ => upd_sR rfl j) hdg kk
theorem gs_X3_22 (E : EE p s m args c cc nL RX3 D cy) (hM : MM D cy sz H0 u H locs) (hok : okO u r 3 = true) (hdg : decode cc pc = .ok (.getfield 22, 3)) (kk : W p l e R s m args below meth c H locs cells slots Q (F0 m (pc + 3) ls (.int (gI u r 3) :: rest))) : W p l e R s m args below meth c H locs cells slots Q (F0 m pc ls (.ref (sz + r) :: rest)) := m_get E hM (ci := 3) (N := 4) (k := 3) (C := RX3) (T := TX3) hok (by decide) rfl rfl (by decide) inX3 rfl wf_X3_22 hdg kk
theorem ps_X3_22 {v : Int32} (E : EE p s m args c cc nL RX3 D cy) (hM : MM D cy sz H0 u H locs) (hok : okO u r 3 = true) (hdg : decode cc pc = .ok (.putfield 22, 3)) (kk : ∀ (H1 : Heap) (locs1 : List Loc), MM D cy sz H0 (sI u r 3 v) H1 locs1 → W p l e R s m args below meth c H1 locs1 cells slots Q (F0 m (pc + 3) ls rest)) : W p l e R s m args below meth c H locs cells slots Q (F0 m pc ls (.int v :: .ref (sz + r) :: rest)) := m_put E hM (u' := sI u r 3 v) (ci := 3) (N := 4) (k := 3) (C := RX3) (T := TX3) tyX3 tyX3_ok nmX3 hok (by decide) rfl rfl (by decide) inX3 rfl wf_X3_22 (Or.inl rfl) rfl rfl rfl mv_sI (fun j _ => upd_sI rfl j) hdg kk
theorem gs_X6_9 (E : EE p s m args c cc nL RX6 D cy) (hM : MM D cy sz H0 u H locs) (hok : okO u r 6 = true) (hdg : decode cc pc = .ok (.getfield 9, 3)) (kk : ∀ x, gR u r 0 = x → W p l e R s m args below meth c H locs cells slots Q (F0 m (pc + 3) ls (rv sz x :: rest))) : W p l e R s m args below meth c H locs cells slots Q (F0 m pc ls (.ref (sz + r) :: rest)) := m_get E hM (ci := 6) (N := 3) (k := 0) (C := RX6) (T := TX6) hok (by decide) rfl rfl (by decide) inX6 rfl wf_X6_9 hdg (kk _ rfl)
theorem ps_X6_9 {v : Option Nat} (E : EE p s m args c cc nL RX6 D cy) (hM : MM D cy sz H0 u H locs) (hok : okO u r 6 = true) (hinit : meth.name = "<init>") (hdg : decode cc pc = .ok (.putfield 9, 3)) (kk : ∀ (H1 : Heap) (locs1 : List Loc), MM D cy sz H0 (sR u r 0 v) H1 locs1 → W p l e R s m args below meth c H1 locs1 cells slots Q (F0 m (pc + 3) ls rest)) : W p l e R s m args below meth c H locs cells slots Q (F0 m pc ls (rv sz v :: .ref (sz + r) :: rest)) := m_put E hM (u' := sR u r 0 v) (ci := 6) (N := 3) (k := 0) (C := RX6) (T := TX6) tyX6 tyX6_ok nmX6 hok (by decide) rfl rfl (by decide) inX6 rfl wf_X6_9 (Or.inr ⟨rfl, hinit, rfl⟩) (rv_nar (Or.inr ⟨_, rfl⟩)).1 (rv_nar (Or.inr ⟨_, rfl⟩)).2 rfl mv_sR (fun j _ => upd_sR rfl j) hdg kk
theorem gs_X7_87 (E : EE p s m args c cc nL RX7 D cy) (hM : MM D cy sz H0 u H locs) (hok : okO u r 6 = true) (hdg : decode cc pc = .ok (.getfield 87, 3)) (kk : ∀ x, gR u r 0 = x → W p l e R s m args below meth c H locs cells slots Q (F0 m (pc + 3) ls (rv sz x :: rest))) : W p l e R s m args below meth c H locs cells slots Q (F0 m pc ls (.ref (sz + r) :: rest)) := m_get E hM (ci := 6) (N := 3) (k := 0) (C := RX6) (T := TX6) hok (by decide) rfl rfl (by decide) inX6 rfl wf_X7_87 hdg (kk _ rfl)
theorem gs_X6_15 (E : EE p s m args c cc nL RX6 D cy) (hM : MM D cy sz H0 u H locs) (hok : okO u r 6 = true) (hdg : decode cc pc = .ok (.getfield 15, 3)) (kk : W p l e R s m args below meth c H locs cells slots Q (F0 m (pc + 3) ls (.int (gI u r 1) :: rest))) : W p l e R s m args below meth c H locs cells slots Q (F0 m pc ls (.ref (sz + r) :: rest)) := m_get E hM (ci := 6) (N := 3) (k := 1) (C := RX6) (T := TX6) hok (by decide) rfl rfl (by decide) inX6 rfl wf_X6_15 hdg kk
theorem ps_X6_15 {v : Int32} (E : EE p s m args c cc nL RX6 D cy) (hM : MM D cy sz H0 u H locs) (hok : okO u r 6 = true) (hdg : decode cc pc = .ok (.putfield 15, 3)) (kk : ∀ (H1 : Heap) (locs1 : List Loc), MM D cy sz H0 (sI u r 1 v) H1 locs1 → W p l e R s m args below meth c H1 locs1 cells slots Q (F0 m (pc + 3) ls rest)) : W p l e R s m args below meth c H locs cells slots Q (F0 m pc ls (.int v :: .ref (sz + r) :: rest)) := m_put E hM (u' := sI u r 1 v) (ci := 6) (N := 3) (k := 1) (C := RX6) (T := TX6) tyX6 tyX6_ok nmX6 hok (by decide) rfl rfl (by decide) inX6 rfl wf_X6_15 (Or.inl rfl) rfl rfl rfl mv_sI (fun j _ => upd_sI rfl j) hdg kk
theorem gs_X7_94 (E : EE p s m args c cc nL RX7 D cy) (hM : MM D cy sz H0 u H locs) (hok : okO u r 6 = true) (hdg : decode cc pc = .ok (.getfield 94, 3)) (kk : W p l e R s m args below meth c H locs cells slots Q (F0 m (pc + 3) ls (.int (gI u r 1) :: rest))) : W p l e R s m args below meth c H locs cells slots Q (F0 m pc ls (.ref (sz + r) :: rest)) := m_get E hM (ci := 6) (N := 3) (k := 1) (C := RX6) (T := TX6) hok (by decide) rfl rfl (by decide) inX6 rfl wf_X7_94 hdg kk
theorem gs_X6_19 (E : EE p s m args c cc nL RX6 D cy) (hM : MM D cy sz H0 u H locs) (hok : okO u r 6 = true) (hdg : decode cc pc = .ok (.getfield 19, 3)) (kk : W p l e R s m args below meth c H locs cells slots Q (F0 m (pc + 3) ls (.int (gI u r 2) :: rest))) : W p l e R s m args below meth c H locs cells slots Q (F0 m pc ls (.ref (sz + r) :: rest)) := m_get E hM (ci := 6) (N := 3) (k := 2) (C := RX6) (T := TX6) hok (by decide) rfl rfl (by decide) inX6 rfl wf_X6_19 hdg kk
theorem ps_X6_19 {v : Int32} (E : EE p s m args c cc nL RX6 D cy) (hM : MM D cy sz H0 u H locs) (hok : okO u r 6 = true) (hdg : decode cc pc = .ok (.putfield 19, 3)) (kk : ∀ (H1 : Heap) (locs1 : List Loc), MM D cy sz H0 (sI u r 2 v) H1 locs1 → W p l e R s m args below meth c H1 locs1 cells slots Q (F0 m (pc + 3) ls rest)) : W p l e R s m args below meth c H locs cells slots Q (F0 m pc ls (.int v :: .ref (sz + r) :: rest)) := m_put E hM (u' := sI u r 2 v) (ci := 6) (N := 3) (k := 2) (C := RX6) (T := TX6) tyX6 tyX6_ok nmX6 hok (by decide) rfl rfl (by decide) inX6 rfl wf_X6_19 (Or.inl rfl) rfl rfl rfl mv_sI (fun j _ => upd_sI rfl j) hdg kk
theorem gs_X7_11 (E : EE p s m args c cc nL RX7 D cy) (hM : MM D cy sz H0 u H locs) (hok : okO u r 7 = true) (hdg : decode cc pc = .ok (.getfield 11, 3)) (kk : ∀ x, gR u r 0 = x → W p l e R s m args below meth c H locs cells slots Q (F0 m (pc + 3) ls (rv sz x :: rest))) : W p l e R s m args below meth c H locs cells slots Q (F0 m pc ls (.ref (sz + r) :: rest)) := m_get E hM (ci := 7) (N := 8) (k := 0) (C := RX7) (T := TX7) hok (by decide) rfl rfl (by decide) inX7 rfl wf_X7_11 hdg (kk _ rfl)
theorem ps_X7_11 {v : Option Nat} (E : EE p s m args c cc nL RX7 D cy) (hM : MM D cy sz H0 u H locs) (hok : okO u r 7 = true) (hinit : meth.name = "<init>") (hdg : decode cc pc = .ok (.putfield 11, 3)) (kk : ∀ (H1 : Heap) (locs1 : List Loc), MM D cy sz H0 (sR u r 0 v) H1 locs1 → W p l e R s m args below meth c H1 locs1 cells slots Q (F0 m (pc + 3) ls rest)) : W p l e R s m args below meth c H locs cells slots Q (F0 m pc ls (rv sz v :: .ref (sz + r) :: rest)) := m_put E hM (u' := sR u r 0 v) (ci := 7) (N := 8) (k := 0) (C := RX7) (T := TX7) tyX7 tyX7_ok nmX7 hok (by decide) rfl rfl (by decide) inX7 rfl wf_X7_11 (Or.inr ⟨rfl, hinit, rfl⟩) (rv_nar (Or.inr ⟨_, rfl⟩)).1 (rv_nar (Or.inr ⟨_, rfl⟩)).2 rfl mv_sR (fun j _ => upd_sR rfl j) hdg kk
theorem gs_X7_18 (E : EE p s m args c cc nL RX7 D cy) (hM : MM D cy sz H0 u H locs) (hok : okO u r 7 = true) (hdg : decode cc pc = .ok (.getfield 18, 3)) (kk : ∀ x, gR u r 1 = x → W p l e R s m args below meth c H locs cells slots Q (F0 m (pc + 3) ls (rv sz x :: rest))) : W p l e R s m args below meth c H locs cells slots Q (F0 m pc ls (.ref (sz + r) :: rest)) := m_get E hM (ci := 7) (N := 8) (k := 1) (C := RX7) (T := TX7) hok (by decide) rfl rfl (by decide) inX7 rfl wf_X7_18 hdg (kk _ rfl)
theorem ps_X7_18 {v : Option Nat} (E : EE p s m args c cc nL RX7 D cy) (hM : MM D cy sz H0 u H locs) (hok : okO u r 7 = true) (hinit : meth.name = "<init>") (hdg : decode cc pc = .ok (.putfield 18, 3)) (kk : ∀ (H1 : Heap) (locs1 : List Loc), MM D cy sz H0 (sR u r 1 v) H1 locs1 → W p l e R s m args below meth c H1 locs1 cells slots Q (F0 m (pc + 3) ls rest)) : W p l e R s m args below meth c H locs cells slots Q (F0 m pc ls (rv sz v :: .ref (sz + r) :: rest)) := m_put E hM (u' := sR u r 1 v) (ci := 7) (N := 8) (k := 1) (C := RX7) (T := TX7) tyX7 tyX7_ok nmX7 hok (by decide) rfl rfl (by decide) inX7 rfl wf_X7_18 (Or.inr ⟨rfl, hinit, rfl⟩) (rv_nar (Or.inl ⟨_, rfl⟩)).1 (rv_nar (Or.inl ⟨_, rfl⟩)).2 rfl mv_sR (fun j _ => upd_sR rfl j) hdg kk
theorem gs_X7_25 (E : EE p s m args c cc nL RX7 D cy) (hM : MM D cy sz H0 u H locs) (hok : okO u r 7 = true) (hdg : decode cc pc = .ok (.getfield 25, 3)) (kk : ∀ x, gR u r 2 = x → W p l e R s m args below meth c H locs cells slots Q (F0 m (pc + 3) ls (rv sz x :: rest))) : W p l e R s m args below meth c H locs cells slots Q (F0 m pc ls (.ref (sz + r) :: rest)) := m_get E hM (ci := 7) (N := 8) (k := 2) (C := RX7) (T := TX7) hok (by decide) rfl rfl (by decide) inX7 rfl wf_X7_25 hdg (kk _ rfl)
theorem ps_X7_25 {v : Option Nat} (E : EE p s m args c cc nL RX7 D cy) (hM : MM D cy sz H0 u H locs) (hok : okO u r 7 = true) (hinit : meth.name = "<init>") (hdg : decode cc pc = .ok (.putfield 25, 3)) (kk : ∀ (H1 : Heap) (locs1 : List Loc), MM D cy sz H0 (sR u r 2 v) H1 locs1 → W p l e R s m args below meth c H1 locs1 cells slots Q (F0 m (pc + 3) ls rest)) : W p l e R s m args below meth c H locs cells slots Q (F0 m pc ls (rv sz v :: .ref (sz + r) :: rest)) := m_put E hM (u' := sR u r 2 v) (ci := 7) (N := 8) (k := 2) (C := RX7) (T := TX7) tyX7 tyX7_ok nmX7 hok (by decide) rfl rfl (by decide) inX7 rfl wf_X7_25 (Or.inr ⟨rfl, hinit, rfl⟩) (rv_nar (Or.inl ⟨_, rfl⟩)).1 (rv_nar (Or.inl ⟨_, rfl⟩)).2 rfl mv_sR (fun j _ => upd_sR rfl j) hdg kk
theorem gs_X7_32 (E : EE p s m args c cc nL RX7 D cy) (hM : MM D cy sz H0 u H locs) (hok : okO u r 7 = true) (hdg : decode cc pc = .ok (.getfield 32, 3)) (kk : ∀ x, gR u r 3 = x → W p l e R s m args below meth c H locs cells slots Q (F0 m (pc + 3) ls (rv sz x :: rest))) : W p l e R s m args below meth c H locs cells slots Q (F0 m pc ls (.ref (sz + r) :: rest)) := m_get E hM (ci := 7) (N := 8) (k := 3) (C := RX7) (T := TX7) hok (by decide) rfl rfl (by decide) inX7 rfl wf_X7_32 hdg (kk _ rfl)
theorem ps_X7_32 {v : Option Nat} (E : EE p s m args c cc nL RX7 D cy) (hM : MM D cy sz H0 u H locs) (hok : okO u r 7 = true) (hinit : meth.name = "<init>") (hdg : decode cc pc = .ok (.putfield 32, 3)) (kk : ∀ (H1 : Heap) (locs1 : List Loc), MM D cy sz H0 (sR u r 3 v) H1 locs1 → W p l e R s m args below meth c H1 locs1 cells slots Q (F0 m (pc + 3) ls rest)) : W p l e R s m args below meth c H locs cells slots Q (F0 m pc ls (rv sz v :: .ref (sz + r) :: rest)) := m_put E hM (u' := sR u r 3 v) (ci := 7) (N := 8) (k := 3) (C := RX7) (T := TX7) tyX7 tyX7_ok nmX7 hok (by decide) rfl rfl (by decide) inX7 rfl wf_X7_32 (Or.inr ⟨rfl, hinit, rfl⟩) (rv_nar (Or.inl ⟨_, rfl⟩)).1 (rv_nar (Or.inl ⟨_, rfl⟩)).2 rfl mv_sR (fun j _ => upd_sR rfl j) hdg kk
theorem gs_X7_39 (E : EE p s m args c cc nL RX7 D cy) (hM : MM D cy sz H0 u H locs) (hok : okO u r 7 = true) (hdg : decode cc pc = .ok (.getfield 39, 3)) (kk : ∀ x, gR u r 4 = x → W p l e R s m args below meth c H locs cells slots Q (F0 m (pc + 3) ls (rv sz x :: rest))) : W p l e R s m args below meth c H locs cells slots Q (F0 m pc ls (.ref (sz + r) :: rest)) := m_get E hM (ci := 7) (N := 8) (k := 4) (C := RX7) (T := TX7) hok (by decide) rfl rfl (by decide) inX7 rfl wf_X7_39 hdg (kk _ rfl)
theorem ps_X7_39 {v : Option Nat} (E : EE p s m args c cc nL RX7 D cy) (hM : MM D cy sz H0 u H locs) (hok : okO u r 7 = true) (hinit : meth.name = "<init>") (hdg : decode cc pc = .ok (.putfield 39, 3)) (kk : ∀ (H1 : Heap) (locs1 : List Loc), MM D cy sz H0 (sR u r 4 v) H1 locs1 → W p l e R s m args below meth c H1 locs1 cells slots Q (F0 m (pc + 3) ls rest)) : W p l e R s m args below meth c H locs cells slots Q (F0 m pc ls (rv sz v :: .ref (sz + r) :: rest)) := m_put E hM (u' := sR u r 4 v) (ci := 7) (N := 8) (k := 4) (C := RX7) (T := TX7) tyX7 tyX7_ok nmX7 hok (by decide) rfl rfl (by decide) inX7 rfl wf_X7_39 (Or.inr ⟨rfl, hinit, rfl⟩) (rv_nar (Or.inl ⟨_, rfl⟩)).1 (rv_nar (Or.inl ⟨_, rfl⟩)).2 rfl mv_sR (fun j _ => upd_sR rfl j) hdg kk
theorem gs_X7_43 (E : EE p s m args c cc nL RX7 D cy) (hM : MM D cy sz H0 u H locs) (hok : okO u r 7 = true) (hdg : decode cc pc = .ok (.getfield 43, 3)) (kk : W p l e R s m args below meth c H locs cells slots Q (F0 m (pc + 3) ls (.int (gI u r 5) :: rest))) : W p l e R s m args below meth c H locs cells slots Q (F0 m pc ls (.ref (sz + r) :: rest)) := m_get E hM (ci := 7) (N := 8) (k := 5) (C := RX7) (T := TX7) hok (by decide) rfl rfl (by decide) inX7 rfl wf_X7_43 hdg kk
theorem ps_X7_43 {v : Int32} (E : EE p s m args c cc nL RX7 D cy) (hM : MM D cy sz H0 u H locs) (hok : okO u r 7 = true) (hdg : decode cc pc = .ok (.putfield 43, 3)) (kk : ∀ (H1 : Heap) (locs1 : List Loc), MM D cy sz H0 (sI u r 5 v) H1 locs1 → W p l e R s m args below meth c H1 locs1 cells slots Q (F0 m (pc + 3) ls rest)) : W p l e R s m args below meth c H locs cells slots Q (F0 m pc ls (.int v :: .ref (sz + r) :: rest)) := m_put E hM (u' := sI u r 5 v) (ci := 7) (N := 8) (k := 5) (C := RX7) (T := TX7) tyX7 tyX7_ok nmX7 hok (by decide) rfl rfl (by decide) inX7 rfl wf_X7_43 (Or.inl rfl) rfl rfl rfl mv_sI (fun j _ => upd_sI rfl j) hdg kk
theorem gs_X7_47 (E : EE p s m args c cc nL RX7 D cy) (hM : MM D cy sz H0 u H locs) (hok : okO u r 7 = true) (hdg : decode cc pc = .ok (.getfield 47, 3)) (kk : W p l e R s m args below meth c H locs cells slots Q (F0 m (pc + 3) ls (.long (gL u r 6) :: rest))) : W p l e R s m args below meth c H locs cells slots Q (F0 m pc ls (.ref (sz + r) :: rest)) := m_get E hM (ci := 7) (N := 8) (k := 6) (C := RX7) (T := TX7) hok (by decide) rfl rfl (by decide) inX7 rfl wf_X7_47 hdg kk
theorem ps_X7_47 {v : Int64} (E : EE p s m args c cc nL RX7 D cy) (hM : MM D cy sz H0 u H locs) (hok : okO u r 7 = true) (hdg : decode cc pc = .ok (.putfield 47, 3)) (kk : ∀ (H1 : Heap) (locs1 : List Loc), MM D cy sz H0 (sL u r 6 v) H1 locs1 → W p l e R s m args below meth c H1 locs1 cells slots Q (F0 m (pc + 3) ls rest)) : W p l e R s m args below meth c H locs cells slots Q (F0 m pc ls (.long v :: .ref (sz + r) :: rest)) := m_put E hM (u' := sL u r 6 v) (ci := 7) (N := 8) (k := 6) (C := RX7) (T := TX7) tyX7 tyX7_ok nmX7 hok (by decide) rfl rfl (by decide) inX7 rfl wf_X7_47 (Or.inl rfl) rfl rfl rfl mv_sL (fun j _ => upd_sL rfl j) hdg kk
theorem gs_X7_51 (E : EE p s m args c cc nL RX7 D cy) (hM : MM D cy sz H0 u H locs) (hok : okO u r 7 = true) (hdg : decode cc pc = .ok (.getfield 51, 3)) (kk : W p l e R s m args below meth c H locs cells slots Q (F0 m (pc + 3) ls (.long (gL u r 7) :: rest))) : W p l e R s m args below meth c H locs cells slots Q (F0 m pc ls (.ref (sz + r) :: rest)) := m_get E hM (ci := 7) (N := 8) (k := 7) (C := RX7) (T := TX7) hok (by decide) rfl rfl (by decide) inX7 rfl wf_X7_51 hdg kk
theorem ps_X7_51 {v : Int64} (E : EE p s m args c cc nL RX7 D cy) (hM : MM D cy sz H0 u H locs) (hok : okO u r 7 = true) (hdg : decode cc pc = .ok (.putfield 51, 3)) (kk : ∀ (H1 : Heap) (locs1 : List Loc), MM D cy sz H0 (sL u r 7 v) H1 locs1 → W p l e R s m args below meth c H1 locs1 cells slots Q (F0 m (pc + 3) ls rest)) : W p l e R s m args below meth c H locs cells slots Q (F0 m pc ls (.long v :: .ref (sz + r) :: rest)) := m_put E hM (u' := sL u r 7 v) (ci := 7) (N := 8) (k := 7) (C := RX7) (T := TX7) tyX7 tyX7_ok nmX7 hok (by decide) rfl rfl (by decide) inX7 rfl wf_X7_51 (Or.inl rfl) rfl rfl rfl mv_sL (fun j _ => upd_sL rfl j) hdg kk
theorem ps_X5_34 {v : Int32} (E : EE p s m args c cc nL RX5 D cy) (hM : MM D cy sz H0 u H locs) (hok : okO u r 5 = true) (hinit : meth.name = "<init>") (hdg : decode cc pc = .ok (.putfield 34, 3)) (kk : ∀ (H1 : Heap) (locs1 : List Loc), MM D cy sz H0 (sI u r 0 v) H1 locs1 → W p l e R s m args below meth c H1 locs1 cells slots Q (F0 m (pc + 3) ls rest)) : W p l e R s m args below meth c H locs cells slots Q (F0 m pc ls (.int v :: .ref (sz + r) :: rest)) := m_put E hM (u' := sI u r 0 v) (ci := 5) (N := 11) (k := 0) (C := RX5) (T := TX5) tyX5 tyX5_ok nmX5 hok (by decide) rfl rfl (by decide) inX5 rfl wf_X5_34 (Or.inr ⟨rfl, hinit, rfl⟩) rfl rfl rfl mv_sI (fun j _ => upd_sI rfl j) hdg kk
theorem gs_X7_133 (E : EE p s m args c cc nL RX7 D cy) (hM : MM D cy sz H0 u H locs) (hok : okO u r 5 = true) (hdg : decode cc pc = .ok (.getfield 133, 3)) (kk : W p l e R s m args below meth c H locs cells slots Q (F0 m (pc + 3) ls (.int (gI u r 0) :: rest))) : W p l e R s m args below meth c H locs cells slots Q (F0 m pc ls (.ref (sz + r) :: rest)) := m_get E hM (ci := 5) (N := 11) (k := 0) (C := RX5) (T := TX5) hok (by decide) rfl rfl (by decide) inX5 rfl wf_X7_133 hdg kk
theorem ps_X5_37 {v : Int32} (E : EE p s m args c cc nL RX5 D cy) (hM : MM D cy sz H0 u H locs) (hok : okO u r 5 = true) (hinit : meth.name = "<init>") (hdg : decode cc pc = .ok (.putfield 37, 3)) (kk : ∀ (H1 : Heap) (locs1 : List Loc), MM D cy sz H0 (sI u r 1 v) H1 locs1 → W p l e R s m args below meth c H1 locs1 cells slots Q (F0 m (pc + 3) ls rest)) : W p l e R s m args below meth c H locs cells slots Q (F0 m pc ls (.int v :: .ref (sz + r) :: rest)) := m_put E hM (u' := sI u r 1 v) (ci := 5) (N := 11) (k := 1) (C := RX5) (T := TX5) tyX5 tyX5_ok nmX5 hok (by decide) rfl rfl (by decide) inX5 rfl wf_X5_37 (Or.inr ⟨rfl, hinit, rfl⟩) rfl rfl rfl mv_sI (fun j _ => upd_sI rfl j) hdg kk
theorem gs_X7_111 (E : EE p s m args c cc nL RX7 D cy) (hM : MM D cy sz H0 u H locs) (hok : okO u r 5 = true) (hdg : decode cc pc = .ok (.getfield 111, 3)) (kk : W p l e R s m args below meth c H locs cells slots Q (F0 m (pc + 3) ls (.int (gI u r 1) :: rest))) : W p l e R s m args below meth c H locs cells slots Q (F0 m pc ls (.ref (sz + r) :: rest)) := m_get E hM (ci := 5) (N := 11) (k := 1) (C := RX5) (T := TX5) hok (by decide) rfl rfl (by decide) inX5 rfl wf_X7_111 hdg kk
theorem gs_X0_74 (E : EE p s m args c cc nL RX0 D cy) (hM : MM D cy sz H0 u H locs) (hok : okO u r 5 = true) (hdg : decode cc pc = .ok (.getfield 74, 3)) (kk : W p l e R s m args below meth c H locs cells slots Q (F0 m (pc + 3) ls (.int (gI u r 1) :: rest))) : W p l e R s m args below meth c H locs cells slots Q (F0 m pc ls (.ref (sz + r) :: rest)) := m_get E hM (ci := 5) (N := 11) (k := 1) (C := RX5) (T := TX5) hok (by decide) rfl rfl (by decide) inX5 rfl wf_X0_74 hdg kk
theorem gs_X5_40 (E : EE p s m args c cc nL RX5 D cy) (hM : MM D cy sz H0 u H locs) (hok : okO u r 5 = true) (hdg : decode cc pc = .ok (.getfield 40, 3)) (kk : ∀ x, gR u r 2 = x → W p l e R s m args below meth c H locs cells slots Q (F0 m (pc + 3) ls (rv sz x :: rest))) : W p l e R s m args below meth c H locs cells slots Q (F0 m pc ls (.ref (sz + r) :: rest)) := m_get E hM (ci := 5) (N := 11) (k := 2) (C := RX5) (T := TX5) hok (by decide) rfl rfl (by decide) inX5 rfl wf_X5_40 hdg (kk _ rfl)
theorem ps_X5_40 {v : Option Nat} (E : EE p s m args c cc nL RX5 D cy) (hM : MM D cy sz H0 u H locs) (hok : okO u r 5 = true) (hinit : meth.name = "<init>") (hdg : decode cc pc = .ok (.putfield 40, 3)) (kk : ∀ (H1 : Heap) (locs1 : List Loc), MM D cy sz H0 (sR u r 2 v) H1 locs1 → W p l e R s m args below meth c H1 locs1 cells slots Q (F0 m (pc + 3) ls rest)) : W p l e R s m args below meth c H locs cells slots Q (F0 m pc ls (rv sz v :: .ref (sz + r) :: rest)) := m_put E hM (u' := sR u r 2 v) (ci := 5) (N := 11) (k := 2) (C := RX5) (T := TX5) tyX5 tyX5_ok nmX5 hok (by decide) rfl rfl (by decide) inX5 rfl wf_X5_40 (Or.inr ⟨rfl, hinit, rfl⟩) (rv_nar (Or.inl ⟨_, rfl⟩)).1 (rv_nar (Or.inl ⟨_, rfl⟩)).2 rfl mv_sR (fun j _ => upd_sR rfl j) hdg kk
theorem gs_X0_31 (E : EE p s m args c cc nL RX0 D cy) (hM : MM D cy sz H0 u H locs) (hok : okO u r 5 = true) (hdg : decode cc pc = .ok (.getfield 31, 3)) (kk : ∀ x, gR u r 2 = x → W p l e R s m args below meth c H locs cells slots Q (F0 m (pc + 3) ls (rv sz x :: rest))) : W p l e R s m args below meth c H locs cells slots Q (F0 m pc ls (.ref (sz + r) :: rest)) := m_get E hM (ci := 5) (N := 11) (k := 2) (C := RX5) (T := TX5) hok (by decide) rfl rfl (by decide) inX5 rfl wf_X0_31 hdg (kk _ rfl)
theorem gs_X7_129 (E : EE p s m args c cc nL RX7 D cy) (hM : MM D cy sz H0 u H locs) (hok : okO u r 5 = true) (hdg : decode cc pc = .ok (.getfield 129, 3)) (kk : ∀ x, gR u r 2 = x → W p l e R s m args below meth c H locs cells slots Q (F0 m (pc + 3) ls (rv sz x :: rest))) : W p l e R s m args below meth c H locs cells slots Q (F0 m pc ls (.ref (sz + r) :: rest)) := m_get E hM (ci := 5) (N := 11) (k := 2) (C := RX5) (T := TX5) hok (by decide) rfl rfl (by decide) inX5 rfl wf_X7_129 hdg (kk _ rfl)
theorem gs_X5_9 (E : EE p s m args c cc nL RX5 D cy) (hM : MM D cy sz H0 u H locs) (hok : okO u r 5 = true) (hdg : decode cc pc = .ok (.getfield 9, 3)) (kk : ∀ x, gR u r 3 = x → W p l e R s m args below meth c H locs cells slots Q (F0 m (pc + 3) ls (rv sz x :: rest))) : W p l e R s m args below meth c H locs cells slots Q (F0 m pc ls (.ref (sz + r) :: rest)) := m_get E hM (ci := 5) (N := 11) (k := 3) (C := RX5) (T := TX5) hok (by decide) rfl rfl (by decide) inX5 rfl wf_X5_9 hdg (kk _ rfl)
theorem ps_X5_9 {v : Option Nat} (E : EE p s m args c cc nL RX5 D cy) (hM : MM D cy sz H0 u H locs) (hok : okO u r 5 = true) (hinit : meth.name = "<init>") (hdg : decode cc pc = .ok (.putfield 9, 3)) (kk : ∀ (H1 : Heap) (locs1 : List Loc), MM D cy sz H0 (sR u r 3 v) H1 locs1 → W p l e R s m args below meth c H1 locs1 cells slots Q (F0 m (pc + 3) ls rest)) : W p l e R s m args below meth c H locs cells slots Q (F0 m pc ls (rv sz v :: .ref (sz + r) :: rest)) := m_put E hM (u' := sR u r 3 v) (ci := 5) (N := 11) (k := 3) (C := RX5) (T := TX5) tyX5 tyX5_ok nmX5 hok (by decide) rfl rfl (by decide) inX5 rfl wf_X5_9 (Or.inr ⟨rfl, hinit, rfl⟩) (rv_nar (Or.inr ⟨_, rfl⟩)).1 (rv_nar (Or.inr ⟨_, rfl⟩)).2 rfl mv_sR (fun j _ => upd_sR rfl j) hdg kk
theorem gs_X7_162 (E : EE p s m args c cc nL RX7 D cy) (hM : MM D cy sz H0 u H locs) (hok : okO u r 5 = true) (hdg : decode cc pc = .ok (.getfield 162, 3)) (kk : ∀ x, gR u r 3 = x → W p l e R s m args below meth c H locs cells slots Q (F0 m (pc + 3) ls (rv sz x :: rest))) : W p l e R s m args below meth c H locs cells slots Q (F0 m pc ls (.ref (sz + r) :: rest)) := m_get E hM (ci := 5) (N := 11) (k := 3) (C := RX5) (T := TX5) hok (by decide) rfl rfl (by decide) inX5 rfl wf_X7_162 hdg (kk _ rfl)
theorem gs_X5_15 (E : EE p s m args c cc nL RX5 D cy) (hM : MM D cy sz H0 u H locs) (hok : okO u r 5 = true) (hdg : decode cc pc = .ok (.getfield 15, 3)) (kk : W p l e R s m args below meth c H locs cells slots Q (F0 m (pc + 3) ls (.int (gI u r 4) :: rest))) : W p l e R s m args below meth c H locs cells slots Q (F0 m pc ls (.ref (sz + r) :: rest)) := m_get E hM (ci := 5) (N := 11) (k := 4) (C := RX5) (T := TX5) hok (by decide) rfl rfl (by decide) inX5 rfl wf_X5_15 hdg kk
theorem ps_X5_15 {v : Int32} (E : EE p s m args c cc nL RX5 D cy) (hM : MM D cy sz H0 u H locs) (hok : okO u r 5 = true) (hdg : decode cc pc = .ok (.putfield 15, 3)) (kk : ∀ (H1 : Heap) (locs1 : List Loc), MM D cy sz H0 (sI u r 4 v) H1 locs1 → W p l e R s m args below meth c H1 locs1 cells slots Q (F0 m (pc + 3) ls rest)) : W p l e R s m args below meth c H locs cells slots Q (F0 m pc ls (.int v :: .ref (sz + r) :: rest)) := m_put E hM (u' := sI u r 4 v) (ci := 5) (N := 11) (k := 4) (C := RX5) (T := TX5) tyX5 tyX5_ok nmX5 hok (by decide) rfl rfl (by decide) inX5 rfl wf_X5_15 (Or.inl rfl) rfl rfl rfl mv_sI (fun j _ => upd_sI rfl j) hdg kk
theorem gs_X0_42 (E : EE p s m args c cc nL RX0 D cy) (hM : MM D cy sz H0 u H locs) (hok : okO u r 5 = true) (hdg : decode cc pc = .ok (.getfield 42, 3)) (kk : W p l e R s m args below meth c H locs cells slots Q (F0 m (pc + 3) ls (.int (gI u r 4) :: rest))) : W p l e R s m args below meth c H locs cells slots Q (F0 m pc ls (.ref (sz + r) :: rest)) := m_get E hM (ci := 5) (N := 11) (k := 4) (C := RX5) (T := TX5) hok (by decide) rfl rfl (by decide) inX5 rfl wf_X0_42 hdg kk
theorem ps_X7_169 {v : Int32} (E : EE p s m args c cc nL RX7 D cy) (hM : MM D cy sz H0 u H locs) (hok : okO u r 5 = true) (hdg : decode cc pc = .ok (.putfield 169, 3)) (kk : ∀ (H1 : Heap) (locs1 : List Loc), MM D cy sz H0 (sI u r 4 v) H1 locs1 → W p l e R s m args below meth c H1 locs1 cells slots Q (F0 m (pc + 3) ls rest)) : W p l e R s m args below meth c H locs cells slots Q (F0 m pc ls (.int v :: .ref (sz + r) :: rest)) := m_put E hM (u' := sI u r 4 v) (ci := 5) (N := 11) (k := 4) (C := RX5) (T := TX5) tyX5 tyX5_ok nmX5 hok (by decide) rfl rfl (by decide) inX5 rfl wf_X7_169 (Or.inl rfl) rfl rfl rfl mv_sI (fun j _ => upd_sI rfl j) hdg kk
theorem gs_X5_19 (E : EE p s m args c cc nL RX5 D cy) (hM : MM D cy sz H0 u H locs) (hok : okO u r 5 = true) (hdg : decode cc pc = .ok (.getfield 19, 3)) (kk : W p l e R s m args below meth c H locs cells slots Q (F0 m (pc + 3) ls (.int (gI u r 5) :: rest))) : W p l e R s m args below meth c H locs cells slots Q (F0 m pc ls (.ref (sz + r) :: rest)) := m_get E hM (ci := 5) (N := 11) (k := 5) (C := RX5) (T := TX5) hok (by decide) rfl rfl (by decide) inX5 rfl wf_X5_19 hdg kk
theorem ps_X5_19 {v : Int32} (E : EE p s m args c cc nL RX5 D cy) (hM : MM D cy sz H0 u H locs) (hok : okO u r 5 = true) (hdg : decode cc pc = .ok (.putfield 19, 3)) (kk : ∀ (H1 : Heap) (locs1 : List Loc), MM D cy sz H0 (sI u r 5 v) H1 locs1 → W p l e R s m args below meth c H1 locs1 cells slots Q (F0 m (pc + 3) ls rest)) : W p l e R s m args below meth c H locs cells slots Q (F0 m pc ls (.int v :: .ref (sz + r) :: rest)) := m_put E hM (u' := sI u r 5 v) (ci := 5) (N := 11) (k := 5) (C := RX5) (T := TX5) tyX5 tyX5_ok nmX5 hok (by decide) rfl rfl (by decide) inX5 rfl wf_X5_19 (Or.inl rfl) rfl rfl rfl mv_sI (fun j _ => upd_sI rfl j) hdg kk
theorem gs_X0_39 (E : EE p s m args c cc nL RX0 D cy) (hM : MM D cy sz H0 u H locs) (hok : okO u r 5 = true) (hdg : decode cc pc = .ok (.getfield 39, 3)) (kk : W p l e R s m args below meth c H locs cells slots Q (F0 m (pc + 3) ls (.int (gI u r 5) :: rest))) : W p l e R s m args below meth c H locs cells slots Q (F0 m pc ls (.ref (sz + r) :: rest)) := m_get E hM (ci := 5) (N := 11) (k := 5) (C := RX5) (T := TX5) hok (by decide) rfl rfl (by decide) inX5 rfl wf_X0_39 hdg kk
theorem ps_X7_172 {v : Int32} (E : EE p s m args c cc nL RX7 D cy) (hM : MM D cy sz H0 u H locs) (hok : okO u r 5 = true) (hdg : decode cc pc = .ok (.putfield 172, 3)) (kk : ∀ (H1 : Heap) (locs1 : List Loc), MM D cy sz H0 (sI u r 5 v) H1 locs1 → W p l e R s m args below meth c H1 locs1 cells slots Q (F0 m (pc + 3) ls rest)) : W p l e R s m args below meth c H locs cells slots Q (F0 m pc ls (.int v :: .ref (sz + r) :: rest)) := m_put E hM (u' := sI u r 5 v) (ci := 5) (N := 11) (k := 5) (C := RX5) (T := TX5) tyX5 tyX5_ok nmX5 hok (by decide) rfl rfl (by decide) inX5 rfl wf_X7_172 (Or.inl rfl) rfl rfl rfl mv_sI (fun j _ => upd_sI rfl j) hdg kk
theorem ps_X5_22 {v : Int32} (E : EE p s m args c cc nL RX5 D cy) (hM : MM D cy sz H0 u H locs) (hok : okO u r 5 = true) (hdg : decode cc pc = .ok (.putfield 22, 3)) (kk : ∀ (H1 : Heap) (locs1 : List Loc), MM D cy sz H0 (sI u r 6 v) H1 locs1 → W p l e R s m args below meth c H1 locs1 cells slots Q (F0 m (pc + 3) ls rest)) : W p l e R s m args below meth c H locs cells slots Q (F0 m pc ls (.int v :: .ref (sz + r) :: rest)) := m_put E hM (u' := sI u r 6 v) (ci := 5) (N := 11) (k := 6) (C := RX5) (T := TX5) tyX5 tyX5_ok nmX5 hok (by decide) rfl rfl (by decide) inX5 rfl wf_X5_22 (Or.inl rfl) rfl rfl rfl mv_sI (fun j _ => upd_sI rfl j) hdg kk
theorem gs_X7_140 (E : EE p s m args c cc nL RX7 D cy) (hM : MM D cy sz H0 u H locs) (hok : okO u r 5 = true) (hdg : decode cc pc = .ok (.getfield 140, 3)) (kk : W p l e R s m args below meth c H locs cells slots Q (F0 m (pc + 3) ls (.int (gI u r 6) :: rest))) : W p l e R s m args below meth c H locs cells slots Q (F0 m pc ls (.ref (sz + r) :: rest)) := m_get E hM (ci := 5) (N := 11) (k := 6) (C := RX5) (T := TX5) hok (by decide) rfl rfl (by decide) inX5 rfl wf_X7_140 hdg kk
theorem ps_X7_140 {v : Int32} (E : EE p s m args c cc nL RX7 D cy) (hM : MM D cy sz H0 u H locs) (hok : okO u r 5 = true) (hdg : decode cc pc = .ok (.putfield 140, 3)) (kk : ∀ (H1 : Heap) (locs1 : List Loc), MM D cy sz H0 (sI u r 6 v) H1 locs1 → W p l e R s m args below meth c H1 locs1 cells slots Q (F0 m (pc + 3) ls rest)) : W p l e R s m args below meth c H locs cells slots Q (F0 m pc ls (.int v :: .ref (sz + r) :: rest)) := m_put E hM (u' := sI u r 6 v) (ci := 5) (N := 11) (k := 6) (C := RX5) (T := TX5) tyX5 tyX5_ok nmX5 hok (by decide) rfl rfl (by decide) inX5 rfl wf_X7_140 (Or.inl rfl) rfl rfl rfl mv_sI (fun j _ => upd_sI rfl j) hdg kk
theorem gs_X0_71 (E : EE p s m args c cc nL RX0 D cy) (hM : MM D cy sz H0 u H locs) (hok : okO u r 5 = true) (hdg : decode cc pc = .ok (.getfield 71, 3)) (kk : W p l e R s m args below meth c H locs cells slots Q (F0 m (pc + 3) ls (.int (gI u r 6) :: rest))) : W p l e R s m args below meth c H locs cells slots Q (F0 m pc ls (.ref (sz + r) :: rest)) := m_get E hM (ci := 5) (N := 11) (k := 6) (C := RX5) (T := TX5) hok (by decide) rfl rfl (by decide) inX5 rfl wf_X0_71 hdg kk
theorem gs_X5_25 (E : EE p s m args c cc nL RX5 D cy) (hM : MM D cy sz H0 u H locs) (hok : okO u r 5 = true) (hdg : decode cc pc = .ok (.getfield 25, 3)) (kk : W p l e R s m args below meth c H locs cells slots Q (F0 m (pc + 3) ls (.int (gI u r 7) :: rest))) : W p l e R s m args below meth c H locs cells slots Q (F0 m pc ls (.ref (sz + r) :: rest)) := m_get E hM (ci := 5) (N := 11) (k := 7) (C := RX5) (T := TX5) hok (by decide) rfl rfl (by decide) inX5 rfl wf_X5_25 hdg kk
theorem ps_X5_25 {v : Int32} (E : EE p s m args c cc nL RX5 D cy) (hM : MM D cy sz H0 u H locs) (hok : okO u r 5 = true) (hdg : decode cc pc = .ok (.putfield 25, 3)) (kk : ∀ (H1 : Heap) (locs1 : List Loc), MM D cy sz H0 (sI u r 7 v) H1 locs1 → W p l e R s m args below meth c H1 locs1 cells slots Q (F0 m (pc + 3) ls rest)) : W p l e R s m args below meth c H locs cells slots Q (F0 m pc ls (.int v :: .ref (sz + r) :: rest)) := m_put E hM (u' := sI u r 7 v) (ci := 5) (N := 11) (k := 7) (C := RX5) (T := TX5) tyX5 tyX5_ok nmX5 hok (by decide) rfl rfl (by decide) inX5 rfl wf_X5_25 (Or.inl rfl) rfl rfl rfl mv_sI (fun j _ => upd_sI rfl j) hdg kk
theorem ps_X7_193 {v : Int32} (E : EE p s m args c cc nL RX7 D cy) (hM : MM D cy sz H0 u H locs) (hok : okO u r 5 = true) (hdg : decode cc pc = .ok (.putfield 193, 3)) (kk : ∀ (H1 : Heap) (locs1 : List Loc), MM D cy sz H0 (sI u r 7 v) H1 locs1 → W p l e R s m args below meth c H1 locs1 cells slots Q (F0 m (pc + 3) ls rest)) : W p l e R s m args below meth c H locs cells slots Q (F0 m pc ls (.int v :: .ref (sz + r) :: rest)) := m_put E hM (u' := sI u r 7 v) (ci := 5) (N := 11) (k := 7) (C := RX5) (T := TX5) tyX5 tyX5_ok nmX5 hok (by decide) rfl rfl (by decide) inX5 rfl wf_X7_193 (Or.inl rfl) rfl rfl rfl mv_sI (fun j _ => upd_sI rfl j) hdg kk
theorem gs_X5_28 (E : EE p s m args c cc nL RX5 D cy) (hM : MM D cy sz H0 u H locs) (hok : okO u r 5 = true) (hdg : decode cc pc = .ok (.getfield 28, 3)) (kk : W p l e R s m args below meth c H locs cells slots Q (F0 m (pc + 3) ls (.int (gI u r 8) :: rest))) : W p l e R s m args below meth c H locs cells slots Q (F0 m pc ls (.ref (sz + r) :: rest)) := m_get E hM (ci := 5) (N := 11) (k := 8) (C := RX5) (T := TX5) hok (by decide) rfl rfl (by decide) inX5 rfl wf_X5_28 hdg kk
theorem ps_X5_28 {v : Int32} (E : EE p s m args c cc nL RX5 D cy) (hM : MM D cy sz H0 u H locs) (hok : okO u r 5 = true) (hdg : decode cc pc = .ok (.putfield 28, 3)) (kk : ∀ (H1 : Heap) (locs1 : List Loc), MM D cy sz H0 (sI u r 8 v) H1 locs1 → W p l e R s m args below meth c H1 locs1 cells slots Q (F0 m (pc + 3) ls rest)) : W p l e R s m args below meth c H locs cells slots Q (F0 m pc ls (.int v :: .ref (sz + r) :: rest)) := m_put E hM (u' := sI u r 8 v) (ci := 5) (N := 11) (k := 8) (C := RX5) (T := TX5) tyX5 tyX5_ok nmX5 hok (by decide) rfl rfl (by decide) inX5 rfl wf_X5_28 (Or.inl rfl) rfl rfl rfl mv_sI (fun j _ => upd_sI rfl j) hdg kk
theorem ps_X7_196 {v : Int32} (E : EE p s m args c cc nL RX7 D cy) (hM : MM D cy sz H0 u H locs) (hok : okO u r 5 = true) (hdg : decode cc pc = .ok (.putfield 196, 3)) (kk : ∀ (H1 : Heap) (locs1 : List Loc), MM D cy sz H0 (sI u r 8 v) H1 locs1 → W p l e R s m args below meth c H1 locs1 cells slots Q (F0 m (pc + 3) ls rest)) : W p l e R s m args below meth c H locs cells slots Q (F0 m pc ls (.int v :: .ref (sz + r) :: rest)) := m_put E hM (u' := sI u r 8 v) (ci := 5) (N := 11) (k := 8) (C := RX5) (T := TX5) tyX5 tyX5_ok nmX5 hok (by decide) rfl rfl (by decide) inX5 rfl wf_X7_196 (Or.inl rfl) rfl rfl rfl mv_sI (fun j _ => upd_sI rfl j) hdg kk
theorem ps_X5_31 {v : Int32} (E : EE p s m args c cc nL RX5 D cy) (hM : MM D cy sz H0 u H locs) (hok : okO u r 5 = true) (hdg : decode cc pc = .ok (.putfield 31, 3)) (kk : ∀ (H1 : Heap) (locs1 : List Loc), MM D cy sz H0 (sI u r 9 v) H1 locs1 → W p l e R s m args below meth c H1 locs1 cells slots Q (F0 m (pc + 3) ls rest)) : W p l e R s m args below meth c H locs cells slots Q (F0 m pc ls (.int v :: .ref (sz + r) :: rest)) := m_put E hM (u' := sI u r 9 v) (ci := 5) (N := 11) (k := 9) (C := RX5) (T := TX5) tyX5 tyX5_ok nmX5 hok (by decide) rfl rfl (by decide) inX5 rfl wf_X5_31 (Or.inl rfl) rfl rfl rfl mv_sI (fun j _ => upd_sI rfl j) hdg kk
theorem gs_X7_156 (E : EE p s m args c cc nL RX7 D cy) (hM : MM D cy sz H0 u H locs) (hok : okO u r 5 = true) (hdg : decode cc pc = .ok (.getfield 156, 3)) (kk : W p l e R s m args below meth c H locs cells slots Q (F0 m (pc + 3) ls (.int (gI u r 9) :: rest))) : W p l e R s m args below meth c H locs cells slots Q (F0 m pc ls (.ref (sz + r) :: rest)) := m_get E hM (ci := 5) (N := 11) (k := 9) (C := RX5) (T := TX5) hok (by decide) rfl rfl (by decide) inX5 rfl wf_X7_156 hdg kk
theorem ps_X7_156 {v : Int32} (E : EE p s m args c cc nL RX7 D cy) (hM : MM D cy sz H0 u H locs) (hok : okO u r 5 = true) (hdg : decode cc pc = .ok (.putfield 156, 3)) (kk : ∀ (H1 : Heap) (locs1 : List Loc), MM D cy sz H0 (sI u r 9 v) H1 locs1 → W p l e R s m args below meth c H1 locs1 cells slots Q (F0 m (pc + 3) ls rest)) : W p l e R s m args below meth c H locs cells slots Q (F0 m pc ls (.int v :: .ref (sz + r) :: rest)) := m_put E hM (u' := sI u r 9 v) (ci := 5) (N := 11) (k := 9) (C := RX5) (T := TX5) tyX5 tyX5_ok nmX5 hok (by decide) rfl rfl (by decide) inX5 rfl wf_X7_156 (Or.inl rfl) rfl rfl rfl mv_sI (fun j _ => upd_sI rfl j) hdg kk
theorem gs_X0_84 (E : EE p s m args c cc nL RX0 D cy) (hM : MM D cy sz H0 u H locs) (hok : okO u r 5 = true) (hdg : decode cc pc = .ok (.getfield 84, 3)) (kk : W p l e R s m args below meth c H locs cells slots Q (F0 m (pc + 3) ls (.int (gI u r 9) :: rest))) : W p l e R s m args below meth c H locs cells slots Q (F0 m pc ls (.ref (sz + r) :: rest)) := m_get E hM (ci := 5) (N := 11) (k := 9) (C := RX5) (T := TX5) hok (by decide) rfl rfl (by decide) inX5 rfl wf_X0_84 hdg kk
theorem ps_X5_44 {v : Int32} (E : EE p s m args c cc nL RX5 D cy) (hM : MM D cy sz H0 u H locs) (hok : okO u r 5 = true) (hdg : decode cc pc = .ok (.putfield 44, 3)) (kk : ∀ (H1 : Heap) (locs1 : List Loc), MM D cy sz H0 (sI u r 10 v) H1 locs1 → W p l e R s m args below meth c H1 locs1 cells slots Q (F0 m (pc + 3) ls rest)) : W p l e R s m args below meth c H locs cells slots Q (F0 m pc ls (.int v :: .ref (sz + r) :: rest)) := m_put E hM (u' := sI u r 10 v) (ci := 5) (N := 11) (k := 10) (C := RX5) (T := TX5) tyX5 tyX5_ok nmX5 hok (by decide) rfl rfl (by decide) inX5 rfl wf_X5_44 (Or.inl rfl) rfl rfl rfl mv_sI (fun j _ => upd_sI rfl j) hdg kk
theorem gs_X0_64 (E : EE p s m args c cc nL RX0 D cy) (hM : MM D cy sz H0 u H locs) (hok : okO u r 5 = true) (hdg : decode cc pc = .ok (.getfield 64, 3)) (kk : W p l e R s m args below meth c H locs cells slots Q (F0 m (pc + 3) ls (.int (gI u r 10) :: rest))) : W p l e R s m args below meth c H locs cells slots Q (F0 m pc ls (.ref (sz + r) :: rest)) := m_get E hM (ci := 5) (N := 11) (k := 10) (C := RX5) (T := TX5) hok (by decide) rfl rfl (by decide) inX5 rfl wf_X0_64 hdg kk
theorem ps_X0_64 {v : Int32} (E : EE p s m args c cc nL RX0 D cy) (hM : MM D cy sz H0 u H locs) (hok : okO u r 5 = true) (hdg : decode cc pc = .ok (.putfield 64, 3)) (kk : ∀ (H1 : Heap) (locs1 : List Loc), MM D cy sz H0 (sI u r 10 v) H1 locs1 → W p l e R s m args below meth c H1 locs1 cells slots Q (F0 m (pc + 3) ls rest)) : W p l e R s m args below meth c H locs cells slots Q (F0 m pc ls (.int v :: .ref (sz + r) :: rest)) := m_put E hM (u' := sI u r 10 v) (ci := 5) (N := 11) (k := 10) (C := RX5) (T := TX5) tyX5 tyX5_ok nmX5 hok (by decide) rfl rfl (by decide) inX5 rfl wf_X0_64 (Or.inl rfl) rfl rfl rfl mv_sI (fun j _ => upd_sI rfl j) hdg kk
theorem gs_X7_185 (E : EE p s m args c cc nL RX7 D cy) (hM : MM D cy sz H0 u H locs) (hok : okO u r 5 = true) (hdg : decode cc pc = .ok (.getfield 185, 3)) (kk : W p l e R s m args below meth c H locs cells slots Q (F0 m (pc + 3) ls (.int (gI u r 10) :: rest))) : W p l e R s m args below meth c H locs cells slots Q (F0 m pc ls (.ref (sz + r) :: rest)) := m_get E hM (ci := 5) (N := 11) (k := 10) (C := RX5) (T := TX5) hok (by decide) rfl rfl (by decide) inX5 rfl wf_X7_185 hdg kk
theorem gs_X8_97 (E : EE p s m args c cc nL RX8 D cy) (hM : MM D cy sz H0 u H locs) (hok : okO u r 8 = true) (hdg : decode cc pc = .ok (.getfield 97, 3)) (kk : W p l e R s m args below meth c H locs cells slots Q (F0 m (pc + 3) ls (.int (gI u r 0) :: rest))) : W p l e R s m args below meth c H locs cells slots Q (F0 m pc ls (.ref (sz + r) :: rest)) := m_get E hM (ci := 8) (N := 33) (k := 0) (C := RX8) (T := TX8) hok (by decide) rfl rfl (by decide) inX8 rfl wf_X8_97 hdg kk
theorem ps_X8_97 {v : Int32} (E : EE p s m args c cc nL RX8 D cy) (hM : MM D cy sz H0 u H locs) (hok : okO u r 8 = true) (hdg : decode cc pc = .ok (.putfield 97, 3)) (kk : ∀ (H1 : Heap) (locs1 : List Loc), MM D cy sz H0 (sI u r 0 v) H1 locs1 → W p l e R s m args below meth c H1 locs1 cells slots Q (F0 m (pc + 3) ls rest)) : W p l e R s m args below meth c H locs cells slots Q (F0 m pc ls (.int v :: .ref (sz + r) :: rest)) := m_put E hM (u' := sI u r 0 v) (ci := 8) (N := 33) (k := 0) (C := RX8) (T := TX8) tyX8 tyX8_ok nmX8 hok (by decide) rfl rfl (by decide) inX8 rfl wf_X8_97 (Or.inl rfl) rfl rfl rfl mv_sI (fun j _ => upd_sI rfl j) hdg kk
theorem ps_X8_93 {v : Int32} (E : EE p s m args c cc nL RX8 D cy) (hM : MM D cy sz H0 u H locs) (hok : okO u r 8 = true) (hdg : decode cc pc = .ok (.putfield 93, 3)) (kk : ∀ (H1 : Heap) (locs1 : List Loc), MM D cy sz H0 (sI u r 1 v) H1 locs1 → W p l e R s m args below meth c H1 locs1 cells slots Q (F0 m (pc + 3) ls rest)) : W p l e R s m args below meth c H locs cells slots Q (F0 m pc ls (.int v :: .ref (sz + r) :: rest)) := m_put E hM (u' := sI u r 1 v) (ci := 8) (N := 33) (k := 1) (C := RX8) (T := TX8) tyX8 tyX8_ok nmX8 hok (by decide) rfl rfl (by decide) inX8 rfl wf_X8_93 (Or.inl rfl) rfl rfl rfl mv_sI (fun j _ => upd_sI rfl j) hdg kk
theorem gs_X8_209 (E : EE p s m args c cc nL RX8 D cy) (hM : MM D cy sz H0 u H locs) (hok : okO u r 8 = true) (hdg : decode cc pc = .ok (.getfield 209, 3)) (kk : W p l e R s m args below meth c H locs cells slots Q (F0 m (pc + 3) ls (.long (gL u r 2) :: rest))) : W p l e R s m args below meth c H locs cells slots Q (F0 m pc ls (.ref (sz + r) :: rest)) := m_get E hM (ci := 8) (N := 33) (k := 2) (C := RX8) (T := TX8) hok (by decide) rfl rfl (by decide) inX8 rfl wf_X8_209 hdg kk
theorem ps_X8_209 {v : Int64} (E : EE p s m args c cc nL RX8 D cy) (hM : MM D cy sz H0 u H locs) (hok : okO u r 8 = true) (hdg : decode cc pc = .ok (.putfield 209, 3)) (kk : ∀ (H1 : Heap) (locs1 : List Loc), MM D cy sz H0 (sL u r 2 v) H1 locs1 → W p l e R s m args below meth c H1 locs1 cells slots Q (F0 m (pc + 3) ls rest)) : W p l e R s m args below meth c H locs cells slots Q (F0 m pc ls (.long v :: .ref (sz + r) :: rest)) := m_put E hM (u' := sL u r 2 v) (ci := 8) (N := 33) (k := 2) (C := RX8) (T := TX8) tyX8 tyX8_ok nmX8 hok (by decide) rfl rfl (by decide) inX8 rfl wf_X8_209 (Or.inl rfl) rfl rfl rfl mv_sL (fun j _ => upd_sL rfl j) hdg kk
theorem gs_X8_7 (E : EE p s m args c cc nL RX8 D cy) (hM : MM D cy sz H0 u H locs) (hok : okO u r 8 = true) (hdg : decode cc pc = .ok (.getfield 7, 3)) (kk : W p l e R s m args below meth c H locs cells slots Q (F0 m (pc + 3) ls (.long (gL u r 3) :: rest))) : W p l e R s m args below meth c H locs cells slots Q (F0 m pc ls (.ref (sz + r) :: rest)) := m_get E hM (ci := 8) (N := 33) (k := 3) (C := RX8) (T := TX8) hok (by decide) rfl rfl (by decide) inX8 rfl wf_X8_7 hdg kk
theorem ps_X8_7 {v : Int64} (E : EE p s m args c cc nL RX8 D cy) (hM : MM D cy sz H0 u H locs) (hok : okO u r 8 = true) (hdg : decode cc pc = .ok (.putfield 7, 3)) (kk : ∀ (H1 : Heap) (locs1 : List Loc), MM D cy sz H0 (sL u r 3 v) H1 locs1 → W p l e R s m args below meth c H1 locs1 cells slots Q (F0 m (pc + 3) ls rest)) : W p l e R s m args below meth c H locs cells slots Q (F0 m pc ls (.long v :: .ref (sz + r) :: rest)) := m_put E hM (u' := sL u r 3 v) (ci := 8) (N := 33) (k := 3) (C := RX8) (T := TX8) tyX8 tyX8_ok nmX8 hok (by decide) rfl rfl (by decide) inX8 rfl wf_X8_7 (Or.inl rfl) rfl rfl rfl mv_sL (fun j _ => upd_sL rfl j) hdg kk
theorem gs_X8_13 (E : EE p s m args c cc nL RX8 D cy) (hM : MM D cy sz H0 u H locs) (hok : okO u r 8 = true) (hdg : decode cc pc = .ok (.getfield 13, 3)) (kk : ∀ x, gR u r 4 = x → W p l e R s m args below meth c H locs cells slots Q (F0 m (pc + 3) ls (rv sz x :: rest))) : W p l e R s m args below meth c H locs cells slots Q (F0 m pc ls (.ref (sz + r) :: rest)) := m_get E hM (ci := 8) (N := 33) (k := 4) (C := RX8) (T := TX8) hok (by decide) rfl rfl (by decide) inX8 rfl wf_X8_13 hdg (kk _ rfl)
theorem ps_X8_13 {v : Option Nat} (E : EE p s m args c cc nL RX8 D cy) (hM : MM D cy sz H0 u H locs) (hok : okO u r 8 = true) (hinit : meth.name = "<init>") (hdg : decode cc pc = .ok (.putfield 13, 3)) (kk : ∀ (H1 : Heap) (locs1 : List Loc), MM D cy sz H0 (sR u r 4 v) H1 locs1 → W p l e R s m args below meth c H1 locs1 cells slots Q (F0 m (pc + 3) ls rest)) : W p l e R s m args below meth c H locs cells slots Q (F0 m pc ls (rv sz v :: .ref (sz + r) :: rest)) := m_put E hM (u' := sR u r 4 v) (ci := 8) (N := 33) (k := 4) (C := RX8) (T := TX8) tyX8 tyX8_ok nmX8 hok (by decide) rfl rfl (by decide) inX8 rfl wf_X8_13 (Or.inr ⟨rfl, hinit, rfl⟩) (rv_nar (Or.inr ⟨_, rfl⟩)).1 (rv_nar (Or.inr ⟨_, rfl⟩)).2 rfl mv_sR (fun j _ => upd_sR rfl j) hdg kk
theorem gs_X8_17 (E : EE p s m args c cc nL RX8 D cy) (hM : MM D cy sz H0 u H locs) (hok : okO u r 8 = true) (hdg : decode cc pc = .ok (.getfield 17, 3)) (kk : ∀ x, gR u r 5 = x → W p l e R s m args below meth c H locs cells slots Q (F0 m (pc + 3) ls (rv sz x :: rest))) : W p l e R s m args below meth c H locs cells slots Q (F0 m pc ls (.ref (sz + r) :: rest)) := m_get E hM (ci := 8) (N := 33) (k := 5) (C := RX8) (T := TX8) hok (by decide) rfl rfl (by decide) inX8 rfl wf_X8_17 hdg (kk _ rfl)
theorem ps_X8_17 {v : Option Nat} (E : EE p s m args c cc nL RX8 D cy) (hM : MM D cy sz H0 u H locs) (hok : okO u r 8 = true) (hinit : meth.name = "<init>") (hdg : decode cc pc = .ok (.putfield 17, 3)) (kk : ∀ (H1 : Heap) (locs1 : List Loc), MM D cy sz H0 (sR u r 5 v) H1 locs1 → W p l e R s m args below meth c H1 locs1 cells slots Q (F0 m (pc + 3) ls rest)) : W p l e R s m args below meth c H locs cells slots Q (F0 m pc ls (rv sz v :: .ref (sz + r) :: rest)) := m_put E hM (u' := sR u r 5 v) (ci := 8) (N := 33) (k := 5) (C := RX8) (T := TX8) tyX8 tyX8_ok nmX8 hok (by decide) rfl rfl (by decide) inX8 rfl wf_X8_17 (Or.inr ⟨rfl, hinit, rfl⟩) (rv_nar (Or.inr ⟨_, rfl⟩)).1 (rv_nar (Or.inr ⟨_, rfl⟩)).2 rfl mv_sR (fun j _ => upd_sR rfl j) hdg kk
theorem gs_X8_20 (E : EE p s m args c cc nL RX8 D cy) (hM : MM D cy sz H0 u H locs) (hok : okO u r 8 = true) (hdg : decode cc pc = .ok (.getfield 20, 3)) (kk : ∀ x, gR u r 6 = x → W p l e R s m args below meth c H locs cells slots Q (F0 m (pc + 3) ls (rv sz x :: rest))) : W p l e R s m args below meth c H locs cells slots Q (F0 m pc ls (.ref (sz + r) :: rest)) := m_get E hM (ci := 8) (N := 33) (k := 6) (C := RX8) (T := TX8) hok (by decide) rfl rfl (by decide) inX8 rfl wf_X8_20 hdg (kk _ rfl)
theorem ps_X8_20 {v : Option Nat} (E : EE p s m args c cc nL RX8 D cy) (hM : MM D cy sz H0 u H locs) (hok : okO u r 8 = true) (hinit : meth.name = "<init>") (hdg : decode cc pc = .ok (.putfield 20, 3)) (kk : ∀ (H1 : Heap) (locs1 : List Loc), MM D cy sz H0 (sR u r 6 v) H1 locs1 → W p l e R s m args below meth c H1 locs1 cells slots Q (F0 m (pc + 3) ls rest)) : W p l e R s m args below meth c H locs cells slots Q (F0 m pc ls (rv sz v :: .ref (sz + r) :: rest)) := m_put E hM (u' := sR u r 6 v) (ci := 8) (N := 33) (k := 6) (C := RX8) (T := TX8) tyX8 tyX8_ok nmX8 hok (by decide) rfl rfl (by decide) inX8 rfl wf_X8_20 (Or.inr ⟨rfl, hinit, rfl⟩) (rv_nar (Or.inr ⟨_, rfl⟩)).1 (rv_nar (Or.inr ⟨_, rfl⟩)).2 rfl mv_sR (fun j _ => upd_sR rfl j) hdg kk
theorem gs_X8_118 (E : EE p s m args c cc nL RX8 D cy) (hM : MM D cy sz H0 u H locs) (hok : okO u r 8 = true) (hdg : decode cc pc = .ok (.getfield 118, 3)) (kk : W p l e R s m args below meth c H locs cells slots Q (F0 m (pc + 3) ls (.int (gI u r 7) :: rest))) : W p l e R s m args below meth c H locs cells slots Q (F0 m pc ls (.ref (sz + r) :: rest)) := m_get E hM (ci := 8) (N := 33) (k := 7) (C := RX8) (T := TX8) hok (by decide) rfl rfl (by decide) inX8 rfl wf_X8_118 hdg kk
theorem ps_X8_118 {v : Int32} (E : EE p s m args c cc nL RX8 D cy) (hM : MM D cy sz H0 u H locs) (hok : okO u r 8 = true) (hdg : decode cc pc = .ok (.putfield 118, 3)) (kk : ∀ (H1 : Heap) (locs1 : List Loc), MM D cy sz H0 (sI u r 7 v) H1 locs1 → W p l e R s m args below meth c H1 locs1 cells slots Q (F0 m (pc + 3) ls rest)) : W p l e R s m args below meth c H locs cells slots Q (F0 m pc ls (.int v :: .ref (sz + r) :: rest)) := m_put E hM (u' := sI u r 7 v) (ci := 8) (N := 33) (k := 7) (C := RX8) (T := TX8) tyX8 tyX8_ok nmX8 hok (by decide) rfl rfl (by decide) inX8 rfl wf_X8_118 (Or.inl rfl) rfl rfl rfl mv_sI (fun j _ => upd_sI rfl j) hdg kk
theorem gs_X8_24 (E : EE p s m args c cc nL RX8 D cy) (hM : MM D cy sz H0 u H locs) (hok : okO u r 8 = true) (hdg : decode cc pc = .ok (.getfield 24, 3)) (kk : ∀ x, gR u r 8 = x → W p l e R s m args below meth c H locs cells slots Q (F0 m (pc + 3) ls (rv sz x :: rest))) : W p l e R s m args below meth c H locs cells slots Q (F0 m pc ls (.ref (sz + r) :: rest)) := m_get E hM (ci := 8) (N := 33) (k := 8) (C := RX8) (T := TX8) hok (by decide) rfl rfl (by decide) inX8 rfl wf_X8_24 hdg (kk _ rfl)
theorem ps_X8_24 {v : Option Nat} (E : EE p s m args c cc nL RX8 D cy) (hM : MM D cy sz H0 u H locs) (hok : okO u r 8 = true) (hinit : meth.name = "<init>") (hdg : decode cc pc = .ok (.putfield 24, 3)) (kk : ∀ (H1 : Heap) (locs1 : List Loc), MM D cy sz H0 (sR u r 8 v) H1 locs1 → W p l e R s m args below meth c H1 locs1 cells slots Q (F0 m (pc + 3) ls rest)) : W p l e R s m args below meth c H locs cells slots Q (F0 m pc ls (rv sz v :: .ref (sz + r) :: rest)) := m_put E hM (u' := sR u r 8 v) (ci := 8) (N := 33) (k := 8) (C := RX8) (T := TX8) tyX8 tyX8_ok nmX8 hok (by decide) rfl rfl (by decide) inX8 rfl wf_X8_24 (Or.inr ⟨rfl, hinit, rfl⟩) (rv_nar (Or.inr ⟨_, rfl⟩)).1 (rv_nar (Or.inr ⟨_, rfl⟩)).2 rfl mv_sR (fun j _ => upd_sR rfl j) hdg kk
theorem gs_X8_27 (E : EE p s m args c cc nL RX8 D cy) (hM : MM D cy sz H0 u H locs) (hok : okO u r 8 = true) (hdg : decode cc pc = .ok (.getfield 27, 3)) (kk : ∀ x, gR u r 9 = x → W p l e R s m args below meth c H locs cells slots Q (F0 m (pc + 3) ls (rv sz x :: rest))) : W p l e R s m args below meth c H locs cells slots Q (F0 m pc ls (.ref (sz + r) :: rest)) := m_get E hM (ci := 8) (N := 33) (k := 9) (C := RX8) (T := TX8) hok (by decide) rfl rfl (by decide) inX8 rfl wf_X8_27 hdg (kk _ rfl)
theorem ps_X8_27 {v : Option Nat} (E : EE p s m args c cc nL RX8 D cy) (hM : MM D cy sz H0 u H locs) (hok : okO u r 8 = true) (hinit : meth.name = "<init>") (hdg : decode cc pc = .ok (.putfield 27, 3)) (kk : ∀ (H1 : Heap) (locs1 : List Loc), MM D cy sz H0 (sR u r 9 v) H1 locs1 → W p l e R s m args below meth c H1 locs1 cells slots Q (F0 m (pc + 3) ls rest)) : W p l e R s m args below meth c H locs cells slots Q (F0 m pc ls (rv sz v :: .ref (sz + r) :: rest)) := m_put E hM (u' := sR u r 9 v) (ci := 8) (N := 33) (k := 9) (C := RX8) (T := TX8) tyX8 tyX8_ok nmX8 hok (by decide) rfl rfl (by decide) inX8 rfl wf_X8_27 (Or.inr ⟨rfl, hinit, rfl⟩) (rv_nar (Or.inr ⟨_, rfl⟩)).1 (rv_nar (Or.inr ⟨_, rfl⟩)).2 rfl mv_sR (fun j _ => upd_sR rfl j) hdg kk
theorem gs_X8_30 (E : EE p s m args c cc nL RX8 D cy) (hM : MM D cy sz H0 u H locs) (hok : okO u r 8 = true) (hdg : decode cc pc = .ok (.getfield 30, 3)) (kk : ∀ x, gR u r 10 = x → W p l e R s m args below meth c H locs cells slots Q (F0 m (pc + 3) ls (rv sz x :: rest))) : W p l e R s m args below meth c H locs cells slots Q (F0 m pc ls (.ref (sz + r) :: rest)) := m_get E hM (ci := 8) (N := 33) (k := 10) (C := RX8) (T := TX8) hok (by decide) rfl rfl (by decide) inX8 rfl wf_X8_30 hdg (kk _ rfl)
theorem ps_X8_30 {v : Option Nat} (E : EE p s m args c cc nL RX8 D cy) (hM : MM D cy sz H0 u H locs) (hok : okO u r 8 = true) (hinit : meth.name = "<init>") (hdg : decode cc pc = .ok (.putfield 30, 3)) (kk : ∀ (H1 : Heap) (locs1 : List Loc), MM D cy sz H0 (sR u r 10 v) H1 locs1 → W p l e R s m args below meth c H1 locs1 cells slots Q (F0 m (pc + 3) ls rest)) : W p l e R s m args below meth c H locs cells slots Q (F0 m pc ls (rv sz v :: .ref (sz + r) :: rest)) := m_put E hM (u' := sR u r 10 v) (ci := 8) (N := 33) (k := 10) (C := RX8) (T := TX8) tyX8 tyX8_ok nmX8 hok (by decide) rfl rfl (by decide) inX8 rfl wf_X8_30 (Or.inr ⟨rfl, hinit, rfl⟩) (rv_nar (Or.inr ⟨_, rfl⟩)).1 (rv_nar (Or.inr ⟨_, rfl⟩)).2 rfl mv_sR (fun j _ => upd_sR rfl j) hdg kk
theorem gs_X8_33 (E : EE p s m args c cc nL RX8 D cy) (hM : MM D cy sz H0 u H locs) (hok : okO u r 8 = true) (hdg : decode cc pc = .ok (.getfield 33, 3)) (kk : ∀ x, gR u r 11 = x → W p l e R s m args below meth c H locs cells slots Q (F0 m (pc + 3) ls (rv sz x :: rest))) : W p l e R s m args below meth c H locs cells slots Q (F0 m pc ls (.ref (sz + r) :: rest)) := m_get E hM (ci := 8) (N := 33) (k := 11) (C := RX8) (T := TX8) hok (by decide) rfl rfl (by decide) inX8 rfl wf_X8_33 hdg (kk _ rfl)
theorem ps_X8_33 {v : Option Nat} (E : EE p s m args c cc nL RX8 D cy) (hM : MM D cy sz H0 u H locs) (hok : okO u r 8 = true) (hinit : meth.name = "<init>") (hdg : decode cc pc = .ok (.putfield 33, 3)) (kk : ∀ (H1 : Heap) (locs1 : List Loc), MM D cy sz H0 (sR u r 11 v) H1 locs1 → W p l e R s m args below meth c H1 locs1 cells slots Q (F0 m (pc + 3) ls rest)) : W p l e R s m args below meth c H locs cells slots Q (F0 m pc ls (rv sz v :: .ref (sz + r) :: rest)) := m_put E hM (u' := sR u r 11 v) (ci := 8) (N := 33) (k := 11) (C := RX8) (T := TX8) tyX8 tyX8_ok nmX8 hok (by decide) rfl rfl (by decide) inX8 rfl wf_X8_33 (Or.inr ⟨rfl, hinit, rfl⟩) (rv_nar (Or.inr ⟨_, rfl⟩)).1 (rv_nar (Or.inr ⟨_, rfl⟩)).2 rfl mv_sR (fun j _ => upd_sR rfl j) hdg kk
theorem gs_X8_36 (E : EE p s m args c cc nL RX8 D cy) (hM : MM D cy sz H0 u H locs) (hok : okO u r 8 = true) (hdg : decode cc pc = .ok (.getfield 36, 3)) (kk : ∀ x, gR u r 12 = x → W p l e R s m args below meth c H locs cells slots Q (F0 m (pc + 3) ls (rv sz x :: rest))) : W p l e R s m args below meth c H locs cells slots Q (F0 m pc ls (.ref (sz + r) :: rest)) := m_get E hM (ci := 8) (N := 33) (k := 12) (C := RX8) (T := TX8) hok (by decide) rfl rfl (by decide) inX8 rfl wf_X8_36 hdg (kk _ rfl)
theorem ps_X8_36 {v : Option Nat} (E : EE p s m args c cc nL RX8 D cy) (hM : MM D cy sz H0 u H locs) (hok : okO u r 8 = true) (hinit : meth.name = "<init>") (hdg : decode cc pc = .ok (.putfield 36, 3)) (kk : ∀ (H1 : Heap) (locs1 : List Loc), MM D cy sz H0 (sR u r 12 v) H1 locs1 → W p l e R s m args below meth c H1 locs1 cells slots Q (F0 m (pc + 3) ls rest)) : W p l e R s m args below meth c H locs cells slots Q (F0 m pc ls (rv sz v :: .ref (sz + r) :: rest)) := m_put E hM (u' := sR u r 12 v) (ci := 8) (N := 33) (k := 12) (C := RX8) (T := TX8) tyX8 tyX8_ok nmX8 hok (by decide) rfl rfl (by decide) inX8 rfl wf_X8_36 (Or.inr ⟨rfl, hinit, rfl⟩) (rv_nar (Or.inr ⟨_, rfl⟩)).1 (rv_nar (Or.inr ⟨_, rfl⟩)).2 rfl mv_sR (fun j _ => upd_sR rfl j) hdg kk
theorem gs_X8_39 (E : EE p s m args c cc nL RX8 D cy) (hM : MM D cy sz H0 u H locs) (hok : okO u r 8 = true) (hdg : decode cc pc = .ok (.getfield 39, 3)) (kk : ∀ x, gR u r 13 = x → W p l e R s m args below meth c H locs cells slots Q (F0 m (pc + 3) ls (rv sz x :: rest))) : W p l e R s m args below meth c H locs cells slots Q (F0 m pc ls (.ref (sz + r) :: rest)) := m_get E hM (ci := 8) (N := 33) (k := 13) (C := RX8) (T := TX8) hok (by decide) rfl rfl (by decide) inX8 rfl wf_X8_39 hdg (kk _ rfl)
theorem ps_X8_39 {v : Option Nat} (E : EE p s m args c cc nL RX8 D cy) (hM : MM D cy sz H0 u H locs) (hok : okO u r 8 = true) (hinit : meth.name = "<init>") (hdg : decode cc pc = .ok (.putfield 39, 3)) (kk : ∀ (H1 : Heap) (locs1 : List Loc), MM D cy sz H0 (sR u r 13 v) H1 locs1 → W p l e R s m args below meth c H1 locs1 cells slots Q (F0 m (pc + 3) ls rest)) : W p l e R s m args below meth c H locs cells slots Q (F0 m pc ls (rv sz v :: .ref (sz + r) :: rest)) := m_put E hM (u' := sR u r 13 v) (ci := 8) (N := 33) (k := 13) (C := RX8) (T := TX8) tyX8 tyX8_ok nmX8 hok (by decide) rfl rfl (by decide) inX8 rfl wf_X8_39 (Or.inr ⟨rfl, hinit, rfl⟩) (rv_nar (Or.inr ⟨_, rfl⟩)).1 (rv_nar (Or.inr ⟨_, rfl⟩)).2 rfl mv_sR (fun j _ => upd_sR rfl j) hdg kk
theorem gs_X8_42 (E : EE p s m args c cc nL RX8 D cy) (hM : MM D cy sz H0 u H locs) (hok : okO u r 8 = true) (hdg : decode cc pc = .ok (.getfield 42, 3)) (kk : ∀ x, gR u r 14 = x → W p l e R s m args below meth c H locs cells slots Q (F0 m (pc + 3) ls (rv sz x :: rest))) : W p l e R s m args below meth c H locs cells slots Q (F0 m pc ls (.ref (sz + r) :: rest)) := m_get E hM (ci := 8) (N := 33) (k := 14) (C := RX8) (T := TX8) hok (by decide) rfl rfl (by decide) inX8 rfl wf_X8_42 hdg (kk _ rfl)
theorem ps_X8_42 {v : Option Nat} (E : EE p s m args c cc nL RX8 D cy) (hM : MM D cy sz H0 u H locs) (hok : okO u r 8 = true) (hinit : meth.name = "<init>") (hdg : decode cc pc = .ok (.putfield 42, 3)) (kk : ∀ (H1 : Heap) (locs1 : List Loc), MM D cy sz H0 (sR u r 14 v) H1 locs1 → W p l e R s m args below meth c H1 locs1 cells slots Q (F0 m (pc + 3) ls rest)) : W p l e R s m args below meth c H locs cells slots Q (F0 m pc ls (rv sz v :: .ref (sz + r) :: rest)) := m_put E hM (u' := sR u r 14 v) (ci := 8) (N := 33) (k := 14) (C := RX8) (T := TX8) tyX8 tyX8_ok nmX8 hok (by decide) rfl rfl (by decide) inX8 rfl wf_X8_42 (Or.inr ⟨rfl, hinit, rfl⟩) (rv_nar (Or.inr ⟨_, rfl⟩)).1 (rv_nar (Or.inr ⟨_, rfl⟩)).2 rfl mv_sR (fun j _ => upd_sR rfl j) hdg kk
theorem gs_X8_45 (E : EE p s m args c cc nL RX8 D cy) (hM : MM D cy sz H0 u H locs) (hok : okO u r 8 = true) (hdg : decode cc pc = .ok (.getfield 45, 3)) (kk : ∀ x, gR u r 15 = x → W p l e R s m args below meth c H locs cells slots Q (F0 m (pc + 3) ls (rv sz x :: rest))) : W p l e R s m args below meth c H locs cells slots Q (F0 m pc ls (.ref (sz + r) :: rest)) := m_get E hM (ci := 8) (N := 33) (k := 15) (C := RX8) (T := TX8) hok (by decide) rfl rfl (by decide) inX8 rfl wf_X8_45 hdg (kk _ rfl)
theorem ps_X8_45 {v : Option Nat} (E : EE p s m args c cc nL RX8 D cy) (hM : MM D cy sz H0 u H locs) (hok : okO u r 8 = true) (hinit : meth.name = "<init>") (hdg : decode cc pc = .ok (.putfield 45, 3)) (kk : ∀ (H1 : Heap) (locs1 : List Loc), MM D cy sz H0 (sR u r 15 v) H1 locs1 → W p l e R s m args below meth c H1 locs1 cells slots Q (F0 m (pc + 3) ls rest)) : W p l e R s m args below meth c H locs cells slots Q (F0 m pc ls (rv sz v :: .ref (sz + r) :: rest)) := m_put E hM (u' := sR u r 15 v) (ci := 8) (N := 33) (k := 15) (C := RX8) (T := TX8) tyX8 tyX8_ok nmX8 hok (by decide) rfl rfl (by decide) inX8 rfl wf_X8_45 (Or.inr ⟨rfl, hinit, rfl⟩) (rv_nar (Or.inr ⟨_, rfl⟩)).1 (rv_nar (Or.inr ⟨_, rfl⟩)).2 rfl mv_sR (fun j _ => upd_sR rfl j) hdg kk
theorem gs_X8_48 (E : EE p s m args c cc nL RX8 D cy) (hM : MM D cy sz H0 u H locs) (hok : okO u r 8 = true) (hdg : decode cc pc = .ok (.getfield 48, 3)) (kk : ∀ x, gR u r 16 = x → W p l e R s m args below meth c H locs cells slots Q (F0 m (pc + 3) ls (rv sz x :: rest))) : W p l e R s m args below meth c H locs cells slots Q (F0 m pc ls (.ref (sz + r) :: rest)) := m_get E hM (ci := 8) (N := 33) (k := 16) (C := RX8) (T := TX8) hok (by decide) rfl rfl (by decide) inX8 rfl wf_X8_48 hdg (kk _ rfl)
theorem ps_X8_48 {v : Option Nat} (E : EE p s m args c cc nL RX8 D cy) (hM : MM D cy sz H0 u H locs) (hok : okO u r 8 = true) (hinit : meth.name = "<init>") (hdg : decode cc pc = .ok (.putfield 48, 3)) (kk : ∀ (H1 : Heap) (locs1 : List Loc), MM D cy sz H0 (sR u r 16 v) H1 locs1 → W p l e R s m args below meth c H1 locs1 cells slots Q (F0 m (pc + 3) ls rest)) : W p l e R s m args below meth c H locs cells slots Q (F0 m pc ls (rv sz v :: .ref (sz + r) :: rest)) := m_put E hM (u' := sR u r 16 v) (ci := 8) (N := 33) (k := 16) (C := RX8) (T := TX8) tyX8 tyX8_ok nmX8 hok (by decide) rfl rfl (by decide) inX8 rfl wf_X8_48 (Or.inr ⟨rfl, hinit, rfl⟩) (rv_nar (Or.inr ⟨_, rfl⟩)).1 (rv_nar (Or.inr ⟨_, rfl⟩)).2 rfl mv_sR (fun j _ => upd_sR rfl j) hdg kk
theorem gs_X8_51 (E : EE p s m args c cc nL RX8 D cy) (hM : MM D cy sz H0 u H locs) (hok : okO u r 8 = true) (hdg : decode cc pc = .ok (.getfield 51, 3)) (kk : ∀ x, gR u r 17 = x → W p l e R s m args below meth c H locs cells slots Q (F0 m (pc + 3) ls (rv sz x :: rest))) : W p l e R s m args below meth c H locs cells slots Q (F0 m pc ls (.ref (sz + r) :: rest)) := m_get E hM (ci := 8) (N := 33) (k := 17) (C := RX8) (T := TX8) hok (by decide) rfl rfl (by decide) inX8 rfl wf_X8_51 hdg (kk _ rfl)
theorem ps_X8_51 {v : Option Nat} (E : EE p s m args c cc nL RX8 D cy) (hM : MM D cy sz H0 u H locs) (hok : okO u r 8 = true) (hinit : meth.name = "<init>") (hdg : decode cc pc = .ok (.putfield 51, 3)) (kk : ∀ (H1 : Heap) (locs1 : List Loc), MM D cy sz H0 (sR u r 17 v) H1 locs1 → W p l e R s m args below meth c H1 locs1 cells slots Q (F0 m (pc + 3) ls rest)) : W p l e R s m args below meth c H locs cells slots Q (F0 m pc ls (rv sz v :: .ref (sz + r) :: rest)) := m_put E hM (u' := sR u r 17 v) (ci := 8) (N := 33) (k := 17) (C := RX8) (T := TX8) tyX8 tyX8_ok nmX8 hok (by decide) rfl rfl (by decide) inX8 rfl wf_X8_51 (Or.inr ⟨rfl, hinit, rfl⟩) (rv_nar (Or.inr ⟨_, rfl⟩)).1 (rv_nar (Or.inr ⟨_, rfl⟩)).2 rfl mv_sR (fun j _ => upd_sR rfl j) hdg kk
theorem gs_X8_54 (E : EE p s m args c cc nL RX8 D cy) (hM : MM D cy sz H0 u H locs) (hok : okO u r 8 = true) (hdg : decode cc pc = .ok (.getfield 54, 3)) (kk : ∀ x, gR u r 18 = x → W p l e R s m args below meth c H locs cells slots Q (F0 m (pc + 3) ls (rv sz x :: rest))) : W p l e R s m args below meth c H locs cells slots Q (F0 m pc ls (.ref (sz + r) :: rest)) := m_get E hM (ci := 8) (N := 33) (k := 18) (C := RX8) (T := TX8) hok (by decide) rfl rfl (by decide) inX8 rfl wf_X8_54 hdg (kk _ rfl)
theorem ps_X8_54 {v : Option Nat} (E : EE p s m args c cc nL RX8 D cy) (hM : MM D cy sz H0 u H locs) (hok : okO u r 8 = true) (hinit : meth.name = "<init>") (hdg : decode cc pc = .ok (.putfield 54, 3)) (kk : ∀ (H1 : Heap) (locs1 : List Loc), MM D cy sz H0 (sR u r 18 v) H1 locs1 → W p l e R s m args below meth c H1 locs1 cells slots Q (F0 m (pc + 3) ls rest)) : W p l e R s m args below meth c H locs cells slots Q (F0 m pc ls (rv sz v :: .ref (sz + r) :: rest)) := m_put E hM (u' := sR u r 18 v) (ci := 8) (N := 33) (k := 18) (C := RX8) (T := TX8) tyX8 tyX8_ok nmX8 hok (by decide) rfl rfl (by decide) inX8 rfl wf_X8_54 (Or.inr ⟨rfl, hinit, rfl⟩) (rv_nar (Or.inr ⟨_, rfl⟩)).1 (rv_nar (Or.inr ⟨_, rfl⟩)).2 rfl mv_sR (fun j _ => upd_sR rfl j) hdg kk
theorem gs_X8_57 (E : EE p s m args c cc nL RX8 D cy) (hM : MM D cy sz H0 u H locs) (hok : okO u r 8 = true) (hdg : decode cc pc = .ok (.getfield 57, 3)) (kk : ∀ x, gR u r 19 = x → W p l e R s m args below meth c H locs cells slots Q (F0 m (pc + 3) ls (rv sz x :: rest))) : W p l e R s m args below meth c H locs cells slots Q (F0 m pc ls (.ref (sz + r) :: rest)) := m_get E hM (ci := 8) (N := 33) (k := 19) (C := RX8) (T := TX8) hok (by decide) rfl rfl (by decide) inX8 rfl wf_X8_57 hdg (kk _ rfl)
theorem ps_X8_57 {v : Option Nat} (E : EE p s m args c cc nL RX8 D cy) (hM : MM D cy sz H0 u H locs) (hok : okO u r 8 = true) (hinit : meth.name = "<init>") (hdg : decode cc pc = .ok (.putfield 57, 3)) (kk : ∀ (H1 : Heap) (locs1 : List Loc), MM D cy sz H0 (sR u r 19 v) H1 locs1 → W p l e R s m args below meth c H1 locs1 cells slots Q (F0 m (pc + 3) ls rest)) : W p l e R s m args below meth c H locs cells slots Q (F0 m pc ls (rv sz v :: .ref (sz + r) :: rest)) := m_put E hM (u' := sR u r 19 v) (ci := 8) (N := 33) (k := 19) (C := RX8) (T := TX8) tyX8 tyX8_ok nmX8 hok (by decide) rfl rfl (by decide) inX8 rfl wf_X8_57 (Or.inr ⟨rfl, hinit, rfl⟩) (rv_nar (Or.inr ⟨_, rfl⟩)).1 (rv_nar (Or.inr ⟨_, rfl⟩)).2 rfl mv_sR (fun j _ => upd_sR rfl j) hdg kk
theorem gs_X8_60 (E : EE p s m args c cc nL RX8 D cy) (hM : MM D cy sz H0 u H locs) (hok : okO u r 8 = true) (hdg : decode cc pc = .ok (.getfield 60, 3)) (kk : ∀ x, gR u r 20 = x → W p l e R s m args below meth c H locs cells slots Q (F0 m (pc + 3) ls (rv sz x :: rest))) : W p l e R s m args below meth c H locs cells slots Q (F0 m pc ls (.ref (sz + r) :: rest)) := m_get E hM (ci := 8) (N := 33) (k := 20) (C := RX8) (T := TX8) hok (by decide) rfl rfl (by decide) inX8 rfl wf_X8_60 hdg (kk _ rfl)
theorem ps_X8_60 {v : Option Nat} (E : EE p s m args c cc nL RX8 D cy) (hM : MM D cy sz H0 u H locs) (hok : okO u r 8 = true) (hinit : meth.name = "<init>") (hdg : decode cc pc = .ok (.putfield 60, 3)) (kk : ∀ (H1 : Heap) (locs1 : List Loc), MM D cy sz H0 (sR u r 20 v) H1 locs1 → W p l e R s m args below meth c H1 locs1 cells slots Q (F0 m (pc + 3) ls rest)) : W p l e R s m args below meth c H locs cells slots Q (F0 m pc ls (rv sz v :: .ref (sz + r) :: rest)) := m_put E hM (u' := sR u r 20 v) (ci := 8) (N := 33) (k := 20) (C := RX8) (T := TX8) tyX8 tyX8_ok nmX8 hok (by decide) rfl rfl (by decide) inX8 rfl wf_X8_60 (Or.inr ⟨rfl, hinit, rfl⟩) (rv_nar (Or.inr ⟨_, rfl⟩)).1 (rv_nar (Or.inr ⟨_, rfl⟩)).2 rfl mv_sR (fun j _ => upd_sR rfl j) hdg kk
theorem gs_X8_63 (E : EE p s m args c cc nL RX8 D cy) (hM : MM D cy sz H0 u H locs) (hok : okO u r 8 = true) (hdg : decode cc pc = .ok (.getfield 63, 3)) (kk : ∀ x, gR u r 21 = x → W p l e R s m args below meth c H locs cells slots Q (F0 m (pc + 3) ls (rv sz x :: rest))) : W p l e R s m args below meth c H locs cells slots Q (F0 m pc ls (.ref (sz + r) :: rest)) := m_get E hM (ci := 8) (N := 33) (k := 21) (C := RX8) (T := TX8) hok (by decide) rfl rfl (by decide) inX8 rfl wf_X8_63 hdg (kk _ rfl)
theorem ps_X8_63 {v : Option Nat} (E : EE p s m args c cc nL RX8 D cy) (hM : MM D cy sz H0 u H locs) (hok : okO u r 8 = true) (hinit : meth.name = "<init>") (hdg : decode cc pc = .ok (.putfield 63, 3)) (kk : ∀ (H1 : Heap) (locs1 : List Loc), MM D cy sz H0 (sR u r 21 v) H1 locs1 → W p l e R s m args below meth c H1 locs1 cells slots Q (F0 m (pc + 3) ls rest)) : W p l e R s m args below meth c H locs cells slots Q (F0 m pc ls (rv sz v :: .ref (sz + r) :: rest)) := m_put E hM (u' := sR u r 21 v) (ci := 8) (N := 33) (k := 21) (C := RX8) (T := TX8) tyX8 tyX8_ok nmX8 hok (by decide) rfl rfl (by decide) inX8 rfl wf_X8_63 (Or.inr ⟨rfl, hinit, rfl⟩) (rv_nar (Or.inr ⟨_, rfl⟩)).1 (rv_nar (Or.inr ⟨_, rfl⟩)).2 rfl mv_sR (fun j _ => upd_sR rfl j) hdg kk
theorem gs_X8_166 (E : EE p s m args c cc nL RX8 D cy) (hM : MM D cy sz H0 u H locs) (hok : okO u r 8 = true) (hdg : decode cc pc = .ok (.getfield 166, 3)) (kk : W p l e R s m args below meth c H locs cells slots Q (F0 m (pc + 3) ls (.int (gI u r 22) :: rest))) : W p l e R s m args below meth c H locs cells slots Q (F0 m pc ls (.ref (sz + r) :: rest)) := m_get E hM (ci := 8) (N := 33) (k := 22) (C := RX8) (T := TX8) hok (by decide) rfl rfl (by decide) inX8 rfl wf_X8_166 hdg kk
theorem ps_X8_166 {v : Int32} (E : EE p s m args c cc nL RX8 D cy) (hM : MM D cy sz H0 u H locs) (hok : okO u r 8 = true) (hdg : decode cc pc = .ok (.putfield 166, 3)) (kk : ∀ (H1 : Heap) (locs1 : List Loc), MM D cy sz H0 (sI u r 22 v) H1 locs1 → W p l e R s m args below meth c H1 locs1 cells slots Q (F0 m (pc + 3) ls rest)) : W p l e R s m args below meth c H locs cells slots Q (F0 m pc ls (.int v :: .ref (sz + r) :: rest)) := m_put E hM (u' := sI u r 22 v) (ci := 8) (N := 33) (k := 22) (C := RX8) (T := TX8) tyX8 tyX8_ok nmX8 hok (by decide) rfl rfl (by decide) inX8 rfl wf_X8_166 (Or.inl rfl) rfl rfl rfl mv_sI (fun j _ => upd_sI rfl j) hdg kk
theorem gs_X8_66 (E : EE p s m args c cc nL RX8 D cy) (hM : MM D cy sz H0 u H locs) (hok : okO u r 8 = true) (hdg : decode cc pc = .ok (.getfield 66, 3)) (kk : ∀ x, gR u r 23 = x → W p l e R s m args below meth c H locs cells slots Q (F0 m (pc + 3) ls (rv sz x :: rest))) : W p l e R s m args below meth c H locs cells slots Q (F0 m pc ls (.ref (sz + r) :: rest)) := m_get E hM (ci := 8) (N := 33) (k := 23) (C := RX8) (T := TX8) hok (by decide) rfl rfl (by decide) inX8 rfl wf_X8_66 hdg (kk _ rfl)
theorem ps_X8_66 {v : Option Nat} (E : EE p s m args c cc nL RX8 D cy) (hM : MM D cy sz H0 u H locs) (hok : okO u r 8 = true) (hinit : meth.name = "<init>") (hdg : decode cc pc = .ok (.putfield 66, 3)) (kk : ∀ (H1 : Heap) (locs1 : List Loc), MM D cy sz H0 (sR u r 23 v) H1 locs1 → W p l e R s m args below meth c H1 locs1 cells slots Q (F0 m (pc + 3) ls rest)) : W p l e R s m args below meth c H locs cells slots Q (F0 m pc ls (rv sz v :: .ref (sz + r) :: rest)) := m_put E hM (u' := sR u r 23 v) (ci := 8) (N := 33) (k := 23) (C := RX8) (T := TX8) tyX8 tyX8_ok nmX8 hok (by decide) rfl rfl (by decide) inX8 rfl wf_X8_66 (Or.inr ⟨rfl, hinit, rfl⟩) (rv_nar (Or.inr ⟨_, rfl⟩)).1 (rv_nar (Or.inr ⟨_, rfl⟩)).2 rfl mv_sR (fun j _ => upd_sR rfl j) hdg kk
theorem gs_X8_69 (E : EE p s m args c cc nL RX8 D cy) (hM : MM D cy sz H0 u H locs) (hok : okO u r 8 = true) (hdg : decode cc pc = .ok (.getfield 69, 3)) (kk : ∀ x, gR u r 24 = x → W p l e R s m args below meth c H locs cells slots Q (F0 m (pc + 3) ls (rv sz x :: rest))) : W p l e R s m args below meth c H locs cells slots Q (F0 m pc ls (.ref (sz + r) :: rest)) := m_get E hM (ci := 8) (N := 33) (k := 24) (C := RX8) (T := TX8) hok (by decide) rfl rfl (by decide) inX8 rfl wf_X8_69 hdg (kk _ rfl)
theorem ps_X8_69 {v : Option Nat} (E : EE p s m args c cc nL RX8 D cy) (hM : MM D cy sz H0 u H locs) (hok : okO u r 8 = true) (hinit : meth.name = "<init>") (hdg : decode cc pc = .ok (.putfield 69, 3)) (kk : ∀ (H1 : Heap) (locs1 : List Loc), MM D cy sz H0 (sR u r 24 v) H1 locs1 → W p l e R s m args below meth c H1 locs1 cells slots Q (F0 m (pc + 3) ls rest)) : W p l e R s m args below meth c H locs cells slots Q (F0 m pc ls (rv sz v :: .ref (sz + r) :: rest)) := m_put E hM (u' := sR u r 24 v) (ci := 8) (N := 33) (k := 24) (C := RX8) (T := TX8) tyX8 tyX8_ok nmX8 hok (by decide) rfl rfl (by decide) inX8 rfl wf_X8_69 (Or.inr ⟨rfl, hinit, rfl⟩) (rv_nar (Or.inr ⟨_, rfl⟩)).1 (rv_nar (Or.inr ⟨_, rfl⟩)).2 rfl mv_sR (fun j _ => upd_sR rfl j) hdg kk
theorem gs_X8_72 (E : EE p s m args c cc nL RX8 D cy) (hM : MM D cy sz H0 u H locs) (hok : okO u r 8 = true) (hdg : decode cc pc = .ok (.getfield 72, 3)) (kk : ∀ x, gR u r 25 = x → W p l e R s m args below meth c H locs cells slots Q (F0 m (pc + 3) ls (rv sz x :: rest))) : W p l e R s m args below meth c H locs cells slots Q (F0 m pc ls (.ref (sz + r) :: rest)) := m_get E hM (ci := 8) (N := 33) (k := 25) (C := RX8) (T := TX8) hok (by decide) rfl rfl (by decide) inX8 rfl wf_X8_72 hdg (kk _ rfl)
theorem ps_X8_72 {v : Option Nat} (E : EE p s m args c cc nL RX8 D cy) (hM : MM D cy sz H0 u H locs) (hok : okO u r 8 = true) (hinit : meth.name = "<init>") (hdg : decode cc pc = .ok (.putfield 72, 3)) (kk : ∀ (H1 : Heap) (locs1 : List Loc), MM D cy sz H0 (sR u r 25 v) H1 locs1 → W p l e R s m args below meth c H1 locs1 cells slots Q (F0 m (pc + 3) ls rest)) : W p l e R s m args below meth c H locs cells slots Q (F0 m pc ls (rv sz v :: .ref (sz + r) :: rest)) := m_put E hM (u' := sR u r 25 v) (ci := 8) (N := 33) (k := 25) (C := RX8) (T := TX8) tyX8 tyX8_ok nmX8 hok (by decide) rfl rfl (by decide) inX8 rfl wf_X8_72 (Or.inr ⟨rfl, hinit, rfl⟩) (rv_nar (Or.inr ⟨_, rfl⟩)).1 (rv_nar (Or.inr ⟨_, rfl⟩)).2 rfl mv_sR (fun j _ => upd_sR rfl j) hdg kk
theorem gs_X8_75 (E : EE p s m args c cc nL RX8 D cy) (hM : MM D cy sz H0 u H locs) (hok : okO u r 8 = true) (hdg : decode cc pc = .ok (.getfield 75, 3)) (kk : ∀ x, gR u r 26 = x → W p l e R s m args below meth c H locs cells slots Q (F0 m (pc + 3) ls (rv sz x :: rest))) : W p l e R s m args below meth c H locs cells slots Q (F0 m pc ls (.ref (sz + r) :: rest)) := m_get E hM (ci := 8) (N := 33) (k := 26) (C := RX8) (T := TX8) hok (by decide) rfl rfl (by decide) inX8 rfl wf_X8_75 hdg (kk _ rfl)
theorem ps_X8_75 {v : Option Nat} (E : EE p s m args c cc nL RX8 D cy) (hM : MM D cy sz H0 u H locs) (hok : okO u r 8 = true) (hinit : meth.name = "<init>") (hdg : decode cc pc = .ok (.putfield 75, 3)) (kk : ∀ (H1 : Heap) (locs1 : List Loc), MM D cy sz H0 (sR u r 26 v) H1 locs1 → W p l e R s m args below meth c H1 locs1 cells slots Q (F0 m (pc + 3) ls rest)) : W p l e R s m args below meth c H locs cells slots Q (F0 m pc ls (rv sz v :: .ref (sz + r) :: rest)) := m_put E hM (u' := sR u r 26 v) (ci := 8) (N := 33) (k := 26) (C := RX8) (T := TX8) tyX8 tyX8_ok nmX8 hok (by decide) rfl rfl (by decide) inX8 rfl wf_X8_75 (Or.inr ⟨rfl, hinit, rfl⟩) (rv_nar (Or.inr ⟨_, rfl⟩)).1 (rv_nar (Or.inr ⟨_, rfl⟩)).2 rfl mv_sR (fun j _ => upd_sR rfl j) hdg kk
theorem gs_X8_78 (E : EE p s m args c cc nL RX8 D cy) (hM : MM D cy sz H0 u H locs) (hok : okO u r 8 = true) (hdg : decode cc pc = .ok (.getfield 78, 3)) (kk : ∀ x, gR u r 27 = x → W p l e R s m args below meth c H locs cells slots Q (F0 m (pc + 3) ls (rv sz x :: rest))) : W p l e R s m args below meth c H locs cells slots Q (F0 m pc ls (.ref (sz + r) :: rest)) := m_get E hM (ci := 8) (N := 33) (k := 27) (C := RX8) (T := TX8) hok (by decide) rfl rfl (by decide) inX8 rfl wf_X8_78 hdg (kk _ rfl)
theorem ps_X8_78 {v : Option Nat} (E : EE p s m args c cc nL RX8 D cy) (hM : MM D cy sz H0 u H locs) (hok : okO u r 8 = true) (hinit : meth.name = "<init>") (hdg : decode cc pc = .ok (.putfield 78, 3)) (kk : ∀ (H1 : Heap) (locs1 : List Loc), MM D cy sz H0 (sR u r 27 v) H1 locs1 → W p l e R s m args below meth c H1 locs1 cells slots Q (F0 m (pc + 3) ls rest)) : W p l e R s m args below meth c H locs cells slots Q (F0 m pc ls (rv sz v :: .ref (sz + r) :: rest)) := m_put E hM (u' := sR u r 27 v) (ci := 8) (N := 33) (k := 27) (C := RX8) (T := TX8) tyX8 tyX8_ok nmX8 hok (by decide) rfl rfl (by decide) inX8 rfl wf_X8_78 (Or.inr ⟨rfl, hinit, rfl⟩) (rv_nar (Or.inr ⟨_, rfl⟩)).1 (rv_nar (Or.inr ⟨_, rfl⟩)).2 rfl mv_sR (fun j _ => upd_sR rfl j) hdg kk
theorem gs_X8_81 (E : EE p s m args c cc nL RX8 D cy) (hM : MM D cy sz H0 u H locs) (hok : okO u r 8 = true) (hdg : decode cc pc = .ok (.getfield 81, 3)) (kk : ∀ x, gR u r 28 = x → W p l e R s m args below meth c H locs cells slots Q (F0 m (pc + 3) ls (rv sz x :: rest))) : W p l e R s m args below meth c H locs cells slots Q (F0 m pc ls (.ref (sz + r) :: rest)) := m_get E hM (ci := 8) (N := 33) (k := 28) (C := RX8) (T := TX8) hok (by decide) rfl rfl (by decide) inX8 rfl wf_X8_81 hdg (kk _ rfl)
theorem ps_X8_81 {v : Option Nat} (E : EE p s m args c cc nL RX8 D cy) (hM : MM D cy sz H0 u H locs) (hok : okO u r 8 = true) (hinit : meth.name = "<init>") (hdg : decode cc pc = .ok (.putfield 81, 3)) (kk : ∀ (H1 : Heap) (locs1 : List Loc), MM D cy sz H0 (sR u r 28 v) H1 locs1 → W p l e R s m args below meth c H1 locs1 cells slots Q (F0 m (pc + 3) ls rest)) : W p l e R s m args below meth c H locs cells slots Q (F0 m pc ls (rv sz v :: .ref (sz + r) :: rest)) := m_put E hM (u' := sR u r 28 v) (ci := 8) (N := 33) (k := 28) (C := RX8) (T := TX8) tyX8 tyX8_ok nmX8 hok (by decide) rfl rfl (by decide) inX8 rfl wf_X8_81 (Or.inr ⟨rfl, hinit, rfl⟩) (rv_nar (Or.inr ⟨_, rfl⟩)).1 (rv_nar (Or.inr ⟨_, rfl⟩)).2 rfl mv_sR (fun j _ => upd_sR rfl j) hdg kk
theorem gs_X8_84 (E : EE p s m args c cc nL RX8 D cy) (hM : MM D cy sz H0 u H locs) (hok : okO u r 8 = true) (hdg : decode cc pc = .ok (.getfield 84, 3)) (kk : ∀ x, gR u r 29 = x → W p l e R s m args below meth c H locs cells slots Q (F0 m (pc + 3) ls (rv sz x :: rest))) : W p l e R s m args below meth c H locs cells slots Q (F0 m pc ls (.ref (sz + r) :: rest)) := m_get E hM (ci := 8) (N := 33) (k := 29) (C := RX8) (T := TX8) hok (by decide) rfl rfl (by decide) inX8 rfl wf_X8_84 hdg (kk _ rfl)
theorem ps_X8_84 {v : Option Nat} (E : EE p s m args c cc nL RX8 D cy) (hM : MM D cy sz H0 u H locs) (hok : okO u r 8 = true) (hinit : meth.name = "<init>") (hdg : decode cc pc = .ok (.putfield 84, 3)) (kk : ∀ (H1 : Heap) (locs1 : List Loc), MM D cy sz H0 (sR u r 29 v) H1 locs1 → W p l e R s m args below meth c H1 locs1 cells slots Q (F0 m (pc + 3) ls rest)) : W p l e R s m args below meth c H locs cells slots Q (F0 m pc ls (rv sz v :: .ref (sz + r) :: rest)) := m_put E hM (u' := sR u r 29 v) (ci := 8) (N := 33) (k := 29) (C := RX8) (T := TX8) tyX8 tyX8_ok nmX8 hok (by decide) rfl rfl (by decide) inX8 rfl wf_X8_84 (Or.inr ⟨rfl, hinit, rfl⟩) (rv_nar (Or.inr ⟨_, rfl⟩)).1 (rv_nar (Or.inr ⟨_, rfl⟩)).2 rfl mv_sR (fun j _ => upd_sR rfl j) hdg kk
theorem gs_X8_87 (E : EE p s m args c cc nL RX8 D cy) (hM : MM D cy sz H0 u H locs) (hok : okO u r 8 = true) (hdg : decode cc pc = .ok (.getfield 87, 3)) (kk : ∀ x, gR u r 30 = x → W p l e R s m args below meth c H locs cells slots Q (F0 m (pc + 3) ls (rv sz x :: rest))) : W p l e R s m args below meth c H locs cells slots Q (F0 m pc ls (.ref (sz + r) :: rest)) := m_get E hM (ci := 8) (N := 33) (k := 30) (C := RX8) (T := TX8) hok (by decide) rfl rfl (by decide) inX8 rfl wf_X8_87 hdg (kk _ rfl)
theorem ps_X8_87 {v : Option Nat} (E : EE p s m args c cc nL RX8 D cy) (hM : MM D cy sz H0 u H locs) (hok : okO u r 8 = true) (hinit : meth.name = "<init>") (hdg : decode cc pc = .ok (.putfield 87, 3)) (kk : ∀ (H1 : Heap) (locs1 : List Loc), MM D cy sz H0 (sR u r 30 v) H1 locs1 → W p l e R s m args below meth c H1 locs1 cells slots Q (F0 m (pc + 3) ls rest)) : W p l e R s m args below meth c H locs cells slots Q (F0 m pc ls (rv sz v :: .ref (sz + r) :: rest)) := m_put E hM (u' := sR u r 30 v) (ci := 8) (N := 33) (k := 30) (C := RX8) (T := TX8) tyX8 tyX8_ok nmX8 hok (by decide) rfl rfl (by decide) inX8 rfl wf_X8_87 (Or.inr ⟨rfl, hinit, rfl⟩) (rv_nar (Or.inr ⟨_, rfl⟩)).1 (rv_nar (Or.inr ⟨_, rfl⟩)).2 rfl mv_sR (fun j _ => upd_sR rfl j) hdg kk
theorem gs_X8_186 (E : EE p s m args c cc nL RX8 D cy) (hM : MM D cy sz H0 u H locs) (hok : okO u r 8 = true) (hdg : decode cc pc = .ok (.getfield 186, 3)) (kk : W p l e R s m args below meth c H locs cells slots Q (F0 m (pc + 3) ls (.int (gI u r 31) :: rest))) : W p l e R s m args below meth c H locs cells slots Q (F0 m pc ls (.ref (sz + r) :: rest)) := m_get E hM (ci := 8) (N := 33) (k := 31) (C := RX8) (T := TX8) hok (by decide) rfl rfl (by decide) inX8 rfl wf_X8_186 hdg kk
theorem ps_X8_186 {v : Int32} (E : EE p s m args c cc nL RX8 D cy) (hM : MM D cy sz H0 u H locs) (hok : okO u r 8 = true) (hdg : decode cc pc = .ok (.putfield 186, 3)) (kk : ∀ (H1 : Heap) (locs1 : List Loc), MM D cy sz H0 (sI u r 31 v) H1 locs1 → W p l e R s m args below meth c H1 locs1 cells slots Q (F0 m (pc + 3) ls rest)) : W p l e R s m args below meth c H locs cells slots Q (F0 m pc ls (.int v :: .ref (sz + r) :: rest)) := m_put E hM (u' := sI u r 31 v) (ci := 8) (N := 33) (k := 31) (C := RX8) (T := TX8) tyX8 tyX8_ok nmX8 hok (by decide) rfl rfl (by decide) inX8 rfl wf_X8_186 (Or.inl rfl) rfl rfl rfl mv_sI (fun j _ => upd_sI rfl j) hdg kk
theorem gs_X8_90 (E : EE p s m args c cc nL RX8 D cy) (hM : MM D cy sz H0 u H locs) (hok : okO u r 8 = true) (hdg : decode cc pc = .ok (.getfield 90, 3)) (kk : ∀ x, gR u r 32 = x → W p l e R s m args below meth c H locs cells slots Q (F0 m (pc + 3) ls (rv sz x :: rest))) : W p l e R s m args below meth c H locs cells slots Q (F0 m pc ls (.ref (sz + r) :: rest)) := m_get E hM (ci := 8) (N := 33) (k := 32) (C := RX8) (T := TX8) hok (by decide) rfl rfl (by decide) inX8 rfl wf_X8_90 hdg (kk _ rfl)
theorem ps_X8_90 {v : Option Nat} (E : EE p s m args c cc nL RX8 D cy) (hM : MM D cy sz H0 u H locs) (hok : okO u r 8 = true) (hinit : meth.name = "<init>") (hdg : decode cc pc = .ok (.putfield 90, 3)) (kk : ∀ (H1 : Heap) (locs1 : List Loc), MM D cy sz H0 (sR u r 32 v) H1 locs1 → W p l e R s m args below meth c H1 locs1 cells slots Q (F0 m (pc + 3) ls rest)) : W p l e R s m args below meth c H locs cells slots Q (F0 m pc ls (rv sz v :: .ref (sz + r) :: rest)) := m_put E hM (u' := sR u r 32 v) (ci := 8) (N := 33) (k := 32) (C := RX8) (T := TX8) tyX8 tyX8_ok nmX8 hok (by decide) rfl rfl (by decide) inX8 rfl wf_X8_90 (Or.inr ⟨rfl, hinit, rfl⟩) (rv_nar (Or.inr ⟨_, rfl⟩)).1 (rv_nar (Or.inr ⟨_, rfl⟩)).2 rfl mv_sR (fun j _ => upd_sR rfl j) hdg kk
end SITES
end
