theorem li_0 : (0 : Int32).toInt = 0 := by decide
theorem li_1 : (1 : Int32).toInt = 1 := by decide
theorem li_2 : (2 : Int32).toInt = 2 := by decide
theorem li_3 : (3 : Int32).toInt = 3 := by decide
theorem li_4 : (4 : Int32).toInt = 4 := by decide
theorem li_5 : (5 : Int32).toInt = 5 := by decide
theorem li_6 : (6 : Int32).toInt = 6 := by decide
theorem li_7 : (7 : Int32).toInt = 7 := by decide
theorem li_8 : (8 : Int32).toInt = 8 := by decide
theorem li_9 : (9 : Int32).toInt = 9 := by decide
theorem li_10 : (10 : Int32).toInt = 10 := by decide
theorem li_11 : (11 : Int32).toInt = 11 := by decide
theorem li_12 : (12 : Int32).toInt = 12 := by decide
theorem li_15 : (15 : Int32).toInt = 15 := by decide
theorem li_16 : (16 : Int32).toInt = 16 := by decide
theorem li_20 : (20 : Int32).toInt = 20 := by decide
theorem li_39 : (39 : Int32).toInt = 39 := by decide
theorem li_40 : (40 : Int32).toInt = 40 := by decide
theorem li_80 : (80 : Int32).toInt = 80 := by decide
theorem li_200 : (200 : Int32).toInt = 200 := by decide
theorem li_400 : (400 : Int32).toInt = 400 := by decide
theorem li_999 : (999 : Int32).toInt = 999 := by decide
theorem li_9999 : (9999 : Int32).toInt = 9999 := by decide
theorem li_100000 : (100000 : Int32).toInt = 100000 := by decide
theorem li_200000 : (200000 : Int32).toInt = 200000 := by decide
theorem li_300000 : (300000 : Int32).toInt = 300000 := by decide
theorem li_65535 : (65535 : Int32).toInt = 65535 := by decide
theorem li_m1 : (-1 : Int32).toInt = -1 := by decide
theorem isB_0 : isB (0 : Int32) = true := by decide
theorem isB_1 : isB (1 : Int32) = true := by decide
theorem ix6 (i f : Nat) : (6 : Int32) * nI i + nI f = nI (6 * i + f) := by
  rw [show (6 : Int32) = nI 6 from rfl, pk_mul, nI_add]
theorem ix40 (i f : Nat) : (40 : Int32) * nI i + nI f = nI (40 * i + f) := by
  rw [show (40 : Int32) = nI 40 from rfl, pk_mul, nI_add]
/-- p is the number of a thing -/
def isT (A : Ab) (p : Int32) : Prop := 0 ≤ p.toInt ∧ p.toInt < (an A : Int)
theorem isT_ex {A : Ab} {p : Int32} (h : isT A p) : ∃ i, i < an A ∧ p = nI i := by
  obtain ⟨n, h1, h2, h3⟩ := i_ex h.1
  exact ⟨n, by have := h.2; omega, h1⟩
theorem i_ex2 {p : Int32} {n : Nat} (h : 0 ≤ p.toInt ∧ p.toInt < (n : Int)) : ∃ i, i < n ∧ p = nI i := by
  obtain ⟨k, h1, h2, h3⟩ := i_ex h.1
  exact ⟨k, by omega, h1⟩
theorem at_some {u : Mm} {A : Ab} (hC : CR u A) (hW : Wf A) {i : Nat} (hi : i < an A) : f_X0_at 2 (nI i) u = some (some (60 + 2 * i)) := by
  obtain ⟨hRC, hN, -, -, hT, -⟩ := hC
  have h80 : an A ≤ 80 := hW.1.1
  have hn := hN.1
  have h60 : 60 ≤ u.1 := by omega
  simp (disch := omega) only [f_X0_at, gd_t, bb_e, bd_s, cs_n, cs_s, okO_sI, okO_sL, okO_sR, okO_rI, okO_rL, okA_sI, okA_sL, okA_sR, okA_rI, okA_rL, gI_sI, gI_sL, gI_sR, gI_rI, gI_rL, gL_sI, gL_sL, gL_sR, gL_rI, gL_rL, gR_sI, gR_sL, gR_sR, gR_rI, gR_rL, oT, oS, oY, oYn, i_lt, i_le, i_eq, nI_toInt, nI_clamp, ↓reduceIte, false_and, and_false, and_self, true_and, and_true, if_pos, if_neg, ite_self, isB_0, isB_1, ix6, ix40, li_0, li_1, li_2, li_3, li_4, li_5, li_6, li_7, li_8, li_9, li_10, li_11, li_12, li_15, li_16, li_20, li_39, li_40, li_80, li_200, li_400, li_999, li_9999, li_100000, li_200000, li_300000, li_65535, li_m1, oO0 h60, oO2 h60, oO6 h60, oO10 h60, oO11 h60, oO14 h60, oO21 h60, oA1 h60, oA3 h60, oA4 h60, oA5 h60, oA7 h60, oA8 h60, oA9 h60, oA12 h60, oA13 h60, oA15 h60, oA16 h60, oA17 h60, oA18 h60, oA19 h60, oA20 h60, oA22 h60, oA23 h60, oA24 h60, rc_0_0 hRC, rc_0_1 hRC, rc_0_2 hRC, rc_0_3 hRC, rc_0_4 hRC, rc_2_0 hRC, rc_2_2 hRC, rc_2_3 hRC, rc_6_0 hRC, rc_6_1 hRC, rc_6_2 hRC, rc_10_0 hRC, rc_10_1 hRC, rc_10_2 hRC, rc_10_3 hRC, rc_10_4 hRC, rc_10_5 hRC, rc_11_0 hRC, rc_11_1 hRC, rc_14_0 hRC, rc_14_1 hRC, rc_21_0 hRC, rc_21_1 hRC, rc_21_2 hRC, hN.2, (hT i hi).1]
theorem at_none {u : Mm} {A : Ab} (hC : CR u A) (hW : Wf A) {p : Int32} (hp : ¬ isT A p) : f_X0_at 2 p u = some none := by
  obtain ⟨hRC, hN, -, -, hT, -⟩ := hC
  have h80 : an A ≤ 80 := hW.1.1
  have hn := hN.1
  have h60 : 60 ≤ u.1 := by omega
  have hp : ¬ (0 ≤ p.toInt ∧ p.toInt < (an A : Int)) := hp
  by_cases h0 : p.toInt < 0
  · simp (disch := omega) only [f_X0_at, gd_t, bb_e, bd_s, cs_n, cs_s, okO_sI, okO_sL, okO_sR, okO_rI, okO_rL, okA_sI, okA_sL, okA_sR, okA_rI, okA_rL, gI_sI, gI_sL, gI_sR, gI_rI, gI_rL, gL_sI, gL_sL, gL_sR, gL_rI, gL_rL, gR_sI, gR_sL, gR_sR, gR_rI, gR_rL, oT, oS, oY, oYn, i_lt, i_le, i_eq, nI_toInt, nI_clamp, ↓reduceIte, false_and, and_false, and_self, true_and, and_true, if_pos, if_neg, ite_self, isB_0, isB_1, ix6, ix40, li_0, li_1, li_2, li_3, li_4, li_5, li_6, li_7, li_8, li_9, li_10, li_11, li_12, li_15, li_16, li_20, li_39, li_40, li_80, li_200, li_400, li_999, li_9999, li_100000, li_200000, li_300000, li_65535, li_m1, oO0 h60, oO2 h60, oO6 h60, oO10 h60, oO11 h60, oO14 h60, oO21 h60, oA1 h60, oA3 h60, oA4 h60, oA5 h60, oA7 h60, oA8 h60, oA9 h60, oA12 h60, oA13 h60, oA15 h60, oA16 h60, oA17 h60, oA18 h60, oA19 h60, oA20 h60, oA22 h60, oA23 h60, oA24 h60, rc_0_0 hRC, rc_0_1 hRC, rc_0_2 hRC, rc_0_3 hRC, rc_0_4 hRC, rc_2_0 hRC, rc_2_2 hRC, rc_2_3 hRC, rc_6_0 hRC, rc_6_1 hRC, rc_6_2 hRC, rc_10_0 hRC, rc_10_1 hRC, rc_10_2 hRC, rc_10_3 hRC, rc_10_4 hRC, rc_10_5 hRC, rc_11_0 hRC, rc_11_1 hRC, rc_14_0 hRC, rc_14_1 hRC, rc_21_0 hRC, rc_21_1 hRC, rc_21_2 hRC, hN.2]
  · simp (disch := omega) only [f_X0_at, gd_t, bb_e, bd_s, cs_n, cs_s, okO_sI, okO_sL, okO_sR, okO_rI, okO_rL, okA_sI, okA_sL, okA_sR, okA_rI, okA_rL, gI_sI, gI_sL, gI_sR, gI_rI, gI_rL, gL_sI, gL_sL, gL_sR, gL_rI, gL_rL, gR_sI, gR_sL, gR_sR, gR_rI, gR_rL, oT, oS, oY, oYn, i_lt, i_le, i_eq, nI_toInt, nI_clamp, ↓reduceIte, false_and, and_false, and_self, true_and, and_true, if_pos, if_neg, ite_self, isB_0, isB_1, ix6, ix40, li_0, li_1, li_2, li_3, li_4, li_5, li_6, li_7, li_8, li_9, li_10, li_11, li_12, li_15, li_16, li_20, li_39, li_40, li_80, li_200, li_400, li_999, li_9999, li_100000, li_200000, li_300000, li_65535, li_m1, oO0 h60, oO2 h60, oO6 h60, oO10 h60, oO11 h60, oO14 h60, oO21 h60, oA1 h60, oA3 h60, oA4 h60, oA5 h60, oA7 h60, oA8 h60, oA9 h60, oA12 h60, oA13 h60, oA15 h60, oA16 h60, oA17 h60, oA18 h60, oA19 h60, oA20 h60, oA22 h60, oA23 h60, oA24 h60, rc_0_0 hRC, rc_0_1 hRC, rc_0_2 hRC, rc_0_3 hRC, rc_0_4 hRC, rc_2_0 hRC, rc_2_2 hRC, rc_2_3 hRC, rc_6_0 hRC, rc_6_1 hRC, rc_6_2 hRC, rc_10_0 hRC, rc_10_1 hRC, rc_10_2 hRC, rc_10_3 hRC, rc_10_4 hRC, rc_10_5 hRC, rc_11_0 hRC, rc_11_1 hRC, rc_14_0 hRC, rc_14_1 hRC, rc_21_0 hRC, rc_21_1 hRC, rc_21_2 hRC, hN.2]
theorem mt_some {u : Mm} {A : Ab} (hM : MR u A) (hW : Wf A) {i : Nat} (hi : i < an A) : f_X8_isThing 33 (nI i) u = some 1 := by
  obtain ⟨hRM, h60, h7, -⟩ := hM
  have h80 : an A ≤ 80 := hW.1.1
  simp (disch := omega) only [f_X8_isThing, gd_t, bb_e, bd_s, cs_n, cs_s, okO_sI, okO_sL, okO_sR, okO_rI, okO_rL, okA_sI, okA_sL, okA_sR, okA_rI, okA_rL, gI_sI, gI_sL, gI_sR, gI_rI, gI_rL, gL_sI, gL_sL, gL_sR, gL_rI, gL_rL, gR_sI, gR_sL, gR_sR, gR_rI, gR_rL, oT, oS, oY, oYn, i_lt, i_le, i_eq, nI_toInt, nI_clamp, ↓reduceIte, false_and, and_false, and_self, true_and, and_true, if_pos, if_neg, ite_self, isB_0, isB_1, ix6, ix40, li_0, li_1, li_2, li_3, li_4, li_5, li_6, li_7, li_8, li_9, li_10, li_11, li_12, li_15, li_16, li_20, li_39, li_40, li_80, li_200, li_400, li_999, li_9999, li_100000, li_200000, li_300000, li_65535, li_m1, oO33 h60, oA34 h60, oA35 h60, oA36 h60, oA37 h60, oA38 h60, oA39 h60, oA40 h60, oA41 h60, oA42 h60, oA43 h60, oA44 h60, oA45 h60, oA46 h60, oA47 h60, oA48 h60, oA49 h60, oA50 h60, oA51 h60, oA52 h60, oA53 h60, oA54 h60, oA55 h60, oA56 h60, oA57 h60, oA58 h60, oA59 h60, rm_4 hRM, rm_5 hRM, rm_6 hRM, rm_8 hRM, rm_9 hRM, rm_10 hRM, rm_11 hRM, rm_12 hRM, rm_13 hRM, rm_14 hRM, rm_15 hRM, rm_16 hRM, rm_17 hRM, rm_18 hRM, rm_19 hRM, rm_20 hRM, rm_21 hRM, rm_23 hRM, rm_24 hRM, rm_25 hRM, rm_26 hRM, rm_27 hRM, rm_28 hRM, rm_29 hRM, rm_30 hRM, rm_32 hRM, h7]
theorem mt_none {u : Mm} {A : Ab} (hM : MR u A) (hW : Wf A) {p : Int32} (hp : ¬ isT A p) : f_X8_isThing 33 p u = some 0 := by
  obtain ⟨hRM, h60, h7, -⟩ := hM
  have h80 : an A ≤ 80 := hW.1.1
  have hp : ¬ (0 ≤ p.toInt ∧ p.toInt < (an A : Int)) := hp
  by_cases h0 : p.toInt < 0
  · simp (disch := omega) only [f_X8_isThing, gd_t, bb_e, bd_s, cs_n, cs_s, okO_sI, okO_sL, okO_sR, okO_rI, okO_rL, okA_sI, okA_sL, okA_sR, okA_rI, okA_rL, gI_sI, gI_sL, gI_sR, gI_rI, gI_rL, gL_sI, gL_sL, gL_sR, gL_rI, gL_rL, gR_sI, gR_sL, gR_sR, gR_rI, gR_rL, oT, oS, oY, oYn, i_lt, i_le, i_eq, nI_toInt, nI_clamp, ↓reduceIte, false_and, and_false, and_self, true_and, and_true, if_pos, if_neg, ite_self, isB_0, isB_1, ix6, ix40, li_0, li_1, li_2, li_3, li_4, li_5, li_6, li_7, li_8, li_9, li_10, li_11, li_12, li_15, li_16, li_20, li_39, li_40, li_80, li_200, li_400, li_999, li_9999, li_100000, li_200000, li_300000, li_65535, li_m1, oO33 h60, oA34 h60, oA35 h60, oA36 h60, oA37 h60, oA38 h60, oA39 h60, oA40 h60, oA41 h60, oA42 h60, oA43 h60, oA44 h60, oA45 h60, oA46 h60, oA47 h60, oA48 h60, oA49 h60, oA50 h60, oA51 h60, oA52 h60, oA53 h60, oA54 h60, oA55 h60, oA56 h60, oA57 h60, oA58 h60, oA59 h60, rm_4 hRM, rm_5 hRM, rm_6 hRM, rm_8 hRM, rm_9 hRM, rm_10 hRM, rm_11 hRM, rm_12 hRM, rm_13 hRM, rm_14 hRM, rm_15 hRM, rm_16 hRM, rm_17 hRM, rm_18 hRM, rm_19 hRM, rm_20 hRM, rm_21 hRM, rm_23 hRM, rm_24 hRM, rm_25 hRM, rm_26 hRM, rm_27 hRM, rm_28 hRM, rm_29 hRM, rm_30 hRM, rm_32 hRM, h7]
  · simp (disch := omega) only [f_X8_isThing, gd_t, bb_e, bd_s, cs_n, cs_s, okO_sI, okO_sL, okO_sR, okO_rI, okO_rL, okA_sI, okA_sL, okA_sR, okA_rI, okA_rL, gI_sI, gI_sL, gI_sR, gI_rI, gI_rL, gL_sI, gL_sL, gL_sR, gL_rI, gL_rL, gR_sI, gR_sL, gR_sR, gR_rI, gR_rL, oT, oS, oY, oYn, i_lt, i_le, i_eq, nI_toInt, nI_clamp, ↓reduceIte, false_and, and_false, and_self, true_and, and_true, if_pos, if_neg, ite_self, isB_0, isB_1, ix6, ix40, li_0, li_1, li_2, li_3, li_4, li_5, li_6, li_7, li_8, li_9, li_10, li_11, li_12, li_15, li_16, li_20, li_39, li_40, li_80, li_200, li_400, li_999, li_9999, li_100000, li_200000, li_300000, li_65535, li_m1, oO33 h60, oA34 h60, oA35 h60, oA36 h60, oA37 h60, oA38 h60, oA39 h60, oA40 h60, oA41 h60, oA42 h60, oA43 h60, oA44 h60, oA45 h60, oA46 h60, oA47 h60, oA48 h60, oA49 h60, oA50 h60, oA51 h60, oA52 h60, oA53 h60, oA54 h60, oA55 h60, oA56 h60, oA57 h60, oA58 h60, oA59 h60, rm_4 hRM, rm_5 hRM, rm_6 hRM, rm_8 hRM, rm_9 hRM, rm_10 hRM, rm_11 hRM, rm_12 hRM, rm_13 hRM, rm_14 hRM, rm_15 hRM, rm_16 hRM, rm_17 hRM, rm_18 hRM, rm_19 hRM, rm_20 hRM, rm_21 hRM, rm_23 hRM, rm_24 hRM, rm_25 hRM, rm_26 hRM, rm_27 hRM, rm_28 hRM, rm_29 hRM, rm_30 hRM, rm_32 hRM, h7]
/-- a call of both sides -/
def Pq {α : Type} (F7 F8 : Mm → Option (α × Mm)) (u : Mm) : Prop := ∃ r u1 u2, F7 u = some (r, u1) ∧ F8 u1 = some (r, u2) ∧ Inv u2
theorem leaf {α : Type} {F7 F8 : Mm → Option (α × Mm)} {u : Mm} (r : α) (u1 u2 : Mm) (A' : Ab) (hC : F7 u = some (r, u1)) (hM : F8 u1 = some (r, u2)) (hW : Wf A') (h1 : CR u1 A') (h2 : MR u2 A') (hk : keepC u1 u2) : Pq F7 F8 u := ⟨r, u1, u2, hC, hM, Inv.step hW h1 h2 hk⟩
/-- an answer that changes the status alone -/
theorem leaf_st {α : Type} {F7 F8 : Mm → Option (α × Mm)} {u : Mm} {A : Ab} (r : α) (c x : Int32) (hW : Wf A) (hC : CR u A) (hM : MR u A) (h7 : F7 u = some (r, sI u 0 5 c)) (h8 : F8 (sI u 0 5 c) = some (r, sI (sI (sI (sI u 0 5 c) 33 1 0) 33 0 x) 33 0 c)) : Pq F7 F8 u := by
  have hM1 : MR (sI u 0 5 c) A := hM.keep (keepM.rf.sI (by omega))
  exact leaf r _ _ (st A c) h7 h8 (Wf_st c hW) (CR_st c hC) (by have := MR_st c (MR_st x (MR_th 0 hM1)); rw [st_st] at this; exact this) (((keepC.rf.sI (by omega)).sI (by omega)).sI (by omega))
theorem leaf_s1 {α : Type} {F7 F8 : Mm → Option (α × Mm)} {u : Mm} {A : Ab} (r : α) (c : Int32) (hW : Wf A) (hC : CR u A) (hM : MR u A) (h7 : F7 u = some (r, sI u 0 5 c)) (h8 : F8 (sI u 0 5 c) = some (r, sI (sI (sI u 0 5 c) 33 1 0) 33 0 c)) : Pq F7 F8 u := by
  have hM1 : MR (sI u 0 5 c) A := hM.keep (keepM.rf.sI (by omega))
  exact leaf r _ _ (st A c) h7 h8 (Wf_st c hW) (CR_st c hC) (MR_st c (MR_th 0 hM1)) ((keepC.rf.sI (by omega)).sI (by omega))
