theorem isF_t {p : Int32} (u : Mm) (h : 0 ≤ p.toInt ∧ p.toInt < 6) : f_X7_isField p u = some 1 := by
  simp (disch := omega) only [f_X7_isField, f_X7_within, gd_t, bb_e, bd_s, cs_n, cs_s, okO_sI, okO_sL, okO_sR, okO_rI, okO_rL, okA_sI, okA_sL, okA_sR, okA_rI, okA_rL, gI_sI, gI_sL, gI_sR, gI_rI, gI_rL, gL_sI, gL_sL, gL_sR, gL_rI, gL_rL, gR_sI, gR_sL, gR_sR, gR_rI, gR_rL, oT, oS, oY, oYn, i_lt, i_le, i_eq, nI_toInt, nI_clamp, ↓reduceIte, false_and, and_false, and_self, true_and, and_true, if_pos, if_neg, ite_self, isB_0, isB_1, ix6, ix40, li_0, li_1, li_2, li_3, li_4, li_5, li_6, li_7, li_8, li_9, li_10, li_11, li_12, li_15, li_16, li_20, li_39, li_40, li_80, li_200, li_400, li_999, li_9999, li_100000, li_200000, li_300000, li_65535, li_m1]
theorem isF_f {p : Int32} (u : Mm) (h : ¬ (0 ≤ p.toInt ∧ p.toInt < 6)) : f_X7_isField p u = some 0 := by
  by_cases h0 : p.toInt < 0 <;> simp (disch := omega) only [f_X7_isField, f_X7_within, gd_t, bb_e, bd_s, cs_n, cs_s, okO_sI, okO_sL, okO_sR, okO_rI, okO_rL, okA_sI, okA_sL, okA_sR, okA_rI, okA_rL, gI_sI, gI_sL, gI_sR, gI_rI, gI_rL, gL_sI, gL_sL, gL_sR, gL_rI, gL_rL, gR_sI, gR_sL, gR_sR, gR_rI, gR_rL, oT, oS, oY, oYn, i_lt, i_le, i_eq, nI_toInt, nI_clamp, ↓reduceIte, false_and, and_false, and_self, true_and, and_true, if_pos, if_neg, ite_self, isB_0, isB_1, ix6, ix40, li_0, li_1, li_2, li_3, li_4, li_5, li_6, li_7, li_8, li_9, li_10, li_11, li_12, li_15, li_16, li_20, li_39, li_40, li_80, li_200, li_400, li_999, li_9999, li_100000, li_200000, li_300000, li_65535, li_m1]
theorem mF_t {p : Int32} (u : Mm) (h : 0 ≤ p.toInt ∧ p.toInt < 6) : f_X8_isField p u = some 1 := by
  simp (disch := omega) only [f_X8_isField, gd_t, bb_e, bd_s, cs_n, cs_s, okO_sI, okO_sL, okO_sR, okO_rI, okO_rL, okA_sI, okA_sL, okA_sR, okA_rI, okA_rL, gI_sI, gI_sL, gI_sR, gI_rI, gI_rL, gL_sI, gL_sL, gL_sR, gL_rI, gL_rL, gR_sI, gR_sL, gR_sR, gR_rI, gR_rL, oT, oS, oY, oYn, i_lt, i_le, i_eq, nI_toInt, nI_clamp, ↓reduceIte, false_and, and_false, and_self, true_and, and_true, if_pos, if_neg, ite_self, isB_0, isB_1, ix6, ix40, li_0, li_1, li_2, li_3, li_4, li_5, li_6, li_7, li_8, li_9, li_10, li_11, li_12, li_15, li_16, li_20, li_39, li_40, li_80, li_200, li_400, li_999, li_9999, li_100000, li_200000, li_300000, li_65535, li_m1]
theorem mF_f {p : Int32} (u : Mm) (h : ¬ (0 ≤ p.toInt ∧ p.toInt < 6)) : f_X8_isField p u = some 0 := by
  by_cases h0 : p.toInt < 0 <;> simp (disch := omega) only [f_X8_isField, gd_t, bb_e, bd_s, cs_n, cs_s, okO_sI, okO_sL, okO_sR, okO_rI, okO_rL, okA_sI, okA_sL, okA_sR, okA_rI, okA_rL, gI_sI, gI_sL, gI_sR, gI_rI, gI_rL, gL_sI, gL_sL, gL_sR, gL_rI, gL_rL, gR_sI, gR_sL, gR_sR, gR_rI, gR_rL, oT, oS, oY, oYn, i_lt, i_le, i_eq, nI_toInt, nI_clamp, ↓reduceIte, false_and, and_false, and_self, true_and, and_true, if_pos, if_neg, ite_self, isB_0, isB_1, ix6, ix40, li_0, li_1, li_2, li_3, li_4, li_5, li_6, li_7, li_8, li_9, li_10, li_11, li_12, li_15, li_16, li_20, li_39, li_40, li_80, li_200, li_400, li_999, li_9999, li_100000, li_200000, li_300000, li_65535, li_m1]
theorem isP_t {p : Int32} (u : Mm) (h : 0 ≤ p.toInt ∧ p.toInt < 16) : f_X7_isPerson p u = some 1 := by
  simp (disch := omega) only [f_X7_isPerson, f_X7_within, gd_t, bb_e, bd_s, cs_n, cs_s, okO_sI, okO_sL, okO_sR, okO_rI, okO_rL, okA_sI, okA_sL, okA_sR, okA_rI, okA_rL, gI_sI, gI_sL, gI_sR, gI_rI, gI_rL, gL_sI, gL_sL, gL_sR, gL_rI, gL_rL, gR_sI, gR_sL, gR_sR, gR_rI, gR_rL, oT, oS, oY, oYn, i_lt, i_le, i_eq, nI_toInt, nI_clamp, ↓reduceIte, false_and, and_false, and_self, true_and, and_true, if_pos, if_neg, ite_self, isB_0, isB_1, ix6, ix40, li_0, li_1, li_2, li_3, li_4, li_5, li_6, li_7, li_8, li_9, li_10, li_11, li_12, li_15, li_16, li_20, li_39, li_40, li_80, li_200, li_400, li_999, li_9999, li_100000, li_200000, li_300000, li_65535, li_m1]
theorem isP_f {p : Int32} (u : Mm) (h : ¬ (0 ≤ p.toInt ∧ p.toInt < 16)) : f_X7_isPerson p u = some 0 := by
  by_cases h0 : p.toInt < 0 <;> simp (disch := omega) only [f_X7_isPerson, f_X7_within, gd_t, bb_e, bd_s, cs_n, cs_s, okO_sI, okO_sL, okO_sR, okO_rI, okO_rL, okA_sI, okA_sL, okA_sR, okA_rI, okA_rL, gI_sI, gI_sL, gI_sR, gI_rI, gI_rL, gL_sI, gL_sL, gL_sR, gL_rI, gL_rL, gR_sI, gR_sL, gR_sR, gR_rI, gR_rL, oT, oS, oY, oYn, i_lt, i_le, i_eq, nI_toInt, nI_clamp, ↓reduceIte, false_and, and_false, and_self, true_and, and_true, if_pos, if_neg, ite_self, isB_0, isB_1, ix6, ix40, li_0, li_1, li_2, li_3, li_4, li_5, li_6, li_7, li_8, li_9, li_10, li_11, li_12, li_15, li_16, li_20, li_39, li_40, li_80, li_200, li_400, li_999, li_9999, li_100000, li_200000, li_300000, li_65535, li_m1]
theorem mP_t {p : Int32} (u : Mm) (h : 0 ≤ p.toInt ∧ p.toInt < 16) : f_X8_isPerson p u = some 1 := by
  simp (disch := omega) only [f_X8_isPerson, gd_t, bb_e, bd_s, cs_n, cs_s, okO_sI, okO_sL, okO_sR, okO_rI, okO_rL, okA_sI, okA_sL, okA_sR, okA_rI, okA_rL, gI_sI, gI_sL, gI_sR, gI_rI, gI_rL, gL_sI, gL_sL, gL_sR, gL_rI, gL_rL, gR_sI, gR_sL, gR_sR, gR_rI, gR_rL, oT, oS, oY, oYn, i_lt, i_le, i_eq, nI_toInt, nI_clamp, ↓reduceIte, false_and, and_false, and_self, true_and, and_true, if_pos, if_neg, ite_self, isB_0, isB_1, ix6, ix40, li_0, li_1, li_2, li_3, li_4, li_5, li_6, li_7, li_8, li_9, li_10, li_11, li_12, li_15, li_16, li_20, li_39, li_40, li_80, li_200, li_400, li_999, li_9999, li_100000, li_200000, li_300000, li_65535, li_m1]
theorem mP_f {p : Int32} (u : Mm) (h : ¬ (0 ≤ p.toInt ∧ p.toInt < 16)) : f_X8_isPerson p u = some 0 := by
  by_cases h0 : p.toInt < 0 <;> simp (disch := omega) only [f_X8_isPerson, gd_t, bb_e, bd_s, cs_n, cs_s, okO_sI, okO_sL, okO_sR, okO_rI, okO_rL, okA_sI, okA_sL, okA_sR, okA_rI, okA_rL, gI_sI, gI_sL, gI_sR, gI_rI, gI_rL, gL_sI, gL_sL, gL_sR, gL_rI, gL_rL, gR_sI, gR_sL, gR_sR, gR_rI, gR_rL, oT, oS, oY, oYn, i_lt, i_le, i_eq, nI_toInt, nI_clamp, ↓reduceIte, false_and, and_false, and_self, true_and, and_true, if_pos, if_neg, ite_self, isB_0, isB_1, ix6, ix40, li_0, li_1, li_2, li_3, li_4, li_5, li_6, li_7, li_8, li_9, li_10, li_11, li_12, li_15, li_16, li_20, li_39, li_40, li_80, li_200, li_400, li_999, li_9999, li_100000, li_200000, li_300000, li_65535, li_m1]
theorem isD_t {p : Int32} (u : Mm) (h : 0 ≤ p.toInt ∧ p.toInt ≤ 300000) : f_X7_isDay p u = some 1 := by
  simp (disch := omega) only [f_X7_isDay, f_X7_within, gd_t, bb_e, bd_s, cs_n, cs_s, okO_sI, okO_sL, okO_sR, okO_rI, okO_rL, okA_sI, okA_sL, okA_sR, okA_rI, okA_rL, gI_sI, gI_sL, gI_sR, gI_rI, gI_rL, gL_sI, gL_sL, gL_sR, gL_rI, gL_rL, gR_sI, gR_sL, gR_sR, gR_rI, gR_rL, oT, oS, oY, oYn, i_lt, i_le, i_eq, nI_toInt, nI_clamp, ↓reduceIte, false_and, and_false, and_self, true_and, and_true, if_pos, if_neg, ite_self, isB_0, isB_1, ix6, ix40, li_0, li_1, li_2, li_3, li_4, li_5, li_6, li_7, li_8, li_9, li_10, li_11, li_12, li_15, li_16, li_20, li_39, li_40, li_80, li_200, li_400, li_999, li_9999, li_100000, li_200000, li_300000, li_65535, li_m1]
theorem isD_f {p : Int32} (u : Mm) (h : ¬ (0 ≤ p.toInt ∧ p.toInt ≤ 300000)) : f_X7_isDay p u = some 0 := by
  by_cases h0 : p.toInt < 0 <;> simp (disch := omega) only [f_X7_isDay, f_X7_within, gd_t, bb_e, bd_s, cs_n, cs_s, okO_sI, okO_sL, okO_sR, okO_rI, okO_rL, okA_sI, okA_sL, okA_sR, okA_rI, okA_rL, gI_sI, gI_sL, gI_sR, gI_rI, gI_rL, gL_sI, gL_sL, gL_sR, gL_rI, gL_rL, gR_sI, gR_sL, gR_sR, gR_rI, gR_rL, oT, oS, oY, oYn, i_lt, i_le, i_eq, nI_toInt, nI_clamp, ↓reduceIte, false_and, and_false, and_self, true_and, and_true, if_pos, if_neg, ite_self, isB_0, isB_1, ix6, ix40, li_0, li_1, li_2, li_3, li_4, li_5, li_6, li_7, li_8, li_9, li_10, li_11, li_12, li_15, li_16, li_20, li_39, li_40, li_80, li_200, li_400, li_999, li_9999, li_100000, li_200000, li_300000, li_65535, li_m1]
theorem mD_t {p : Int32} (u : Mm) (h : 0 ≤ p.toInt ∧ p.toInt ≤ 300000) : f_X8_isDay p u = some 1 := by
  simp (disch := omega) only [f_X8_isDay, gd_t, bb_e, bd_s, cs_n, cs_s, okO_sI, okO_sL, okO_sR, okO_rI, okO_rL, okA_sI, okA_sL, okA_sR, okA_rI, okA_rL, gI_sI, gI_sL, gI_sR, gI_rI, gI_rL, gL_sI, gL_sL, gL_sR, gL_rI, gL_rL, gR_sI, gR_sL, gR_sR, gR_rI, gR_rL, oT, oS, oY, oYn, i_lt, i_le, i_eq, nI_toInt, nI_clamp, ↓reduceIte, false_and, and_false, and_self, true_and, and_true, if_pos, if_neg, ite_self, isB_0, isB_1, ix6, ix40, li_0, li_1, li_2, li_3, li_4, li_5, li_6, li_7, li_8, li_9, li_10, li_11, li_12, li_15, li_16, li_20, li_39, li_40, li_80, li_200, li_400, li_999, li_9999, li_100000, li_200000, li_300000, li_65535, li_m1]
theorem mD_f {p : Int32} (u : Mm) (h : ¬ (0 ≤ p.toInt ∧ p.toInt ≤ 300000)) : f_X8_isDay p u = some 0 := by
  by_cases h0 : p.toInt < 0 <;> simp (disch := omega) only [f_X8_isDay, gd_t, bb_e, bd_s, cs_n, cs_s, okO_sI, okO_sL, okO_sR, okO_rI, okO_rL, okA_sI, okA_sL, okA_sR, okA_rI, okA_rL, gI_sI, gI_sL, gI_sR, gI_rI, gI_rL, gL_sI, gL_sL, gL_sR, gL_rI, gL_rL, gR_sI, gR_sL, gR_sR, gR_rI, gR_rL, oT, oS, oY, oYn, i_lt, i_le, i_eq, nI_toInt, nI_clamp, ↓reduceIte, false_and, and_false, and_self, true_and, and_true, if_pos, if_neg, ite_self, isB_0, isB_1, ix6, ix40, li_0, li_1, li_2, li_3, li_4, li_5, li_6, li_7, li_8, li_9, li_10, li_11, li_12, li_15, li_16, li_20, li_39, li_40, li_80, li_200, li_400, li_999, li_9999, li_100000, li_200000, li_300000, li_65535, li_m1]
theorem wi_t {p a b : Int32} (u : Mm) (h : a.toInt ≤ p.toInt ∧ p.toInt ≤ b.toInt) : f_X7_within p a b u = some 1 := by
  simp (disch := omega) only [f_X7_within, gd_t, bb_e, bd_s, cs_n, cs_s, okO_sI, okO_sL, okO_sR, okO_rI, okO_rL, okA_sI, okA_sL, okA_sR, okA_rI, okA_rL, gI_sI, gI_sL, gI_sR, gI_rI, gI_rL, gL_sI, gL_sL, gL_sR, gL_rI, gL_rL, gR_sI, gR_sL, gR_sR, gR_rI, gR_rL, oT, oS, oY, oYn, i_lt, i_le, i_eq, nI_toInt, nI_clamp, ↓reduceIte, false_and, and_false, and_self, true_and, and_true, if_pos, if_neg, ite_self, isB_0, isB_1, ix6, ix40, li_0, li_1, li_2, li_3, li_4, li_5, li_6, li_7, li_8, li_9, li_10, li_11, li_12, li_15, li_16, li_20, li_39, li_40, li_80, li_200, li_400, li_999, li_9999, li_100000, li_200000, li_300000, li_65535, li_m1]
theorem wi_f {p a b : Int32} (u : Mm) (h : ¬ (a.toInt ≤ p.toInt ∧ p.toInt ≤ b.toInt)) : f_X7_within p a b u = some 0 := by
  by_cases h0 : p.toInt < a.toInt <;> simp (disch := omega) only [f_X7_within, gd_t, bb_e, bd_s, cs_n, cs_s, okO_sI, okO_sL, okO_sR, okO_rI, okO_rL, okA_sI, okA_sL, okA_sR, okA_rI, okA_rL, gI_sI, gI_sL, gI_sR, gI_rI, gI_rL, gL_sI, gL_sL, gL_sR, gL_rI, gL_rL, gR_sI, gR_sL, gR_sR, gR_rI, gR_rL, oT, oS, oY, oYn, i_lt, i_le, i_eq, nI_toInt, nI_clamp, ↓reduceIte, false_and, and_false, and_self, true_and, and_true, if_pos, if_neg, ite_self, isB_0, isB_1, ix6, ix40, li_0, li_1, li_2, li_3, li_4, li_5, li_6, li_7, li_8, li_9, li_10, li_11, li_12, li_15, li_16, li_20, li_39, li_40, li_80, li_200, li_400, li_999, li_9999, li_100000, li_200000, li_300000, li_65535, li_m1]
/-- the reference's start of a call -/
abbrev m0 (u : Mm) : Mm := sI (sI u 33 1 0) 33 0 0
theorem MR_m0 {u : Mm} {A : Ab} (h : MR u A) : MR (m0 u) (st A 0) := MR_st 0 (MR_th 0 h)

/-- one thing changes (not its level, what is above it, its piece, place or goal) -/
theorem CR_upd {u v : Mm} {A A' : Ab} {i : Nat} (hC : CR u A) (h1 : v.1 = u.1) (hR : ∀ r k, gR v r k = gR u r k) (hL : ∀ r k, gL v r k = gL u r k) (hI : ∀ r k, r ≠ 60 + 2 * i → r ≠ 61 + 2 * i → gI v r k = gI u r k) (hp : gI v (60 + 2 * i) 10 = gI u (60 + 2 * i) 10) (hn : an A' = an A) (he : ae A' = ae A) (hAL : ∀ r k, aL A' r k = aL A r k)
    (hA : ∀ r k, r < 39 ∨ r = 40 ∨ 46 < r → aI A' r k = aI A r k) (hj : ∀ r j, j ≠ i → r ≠ 41 → aI A' r j = aI A r j) (hs : ∀ j f, j ≠ i → f < 6 → aI A' 41 (6 * j + f) = aI A 41 (6 * j + f)) (hi : GT1 u A i → GT1 v A' i) : CR v A' := by
  obtain ⟨c1, c2, c3, c4, c5, c6, c7, c8, c9⟩ := hC
  refine ⟨RC_cong c1 (fun r k _ _ _ => hR r k), ⟨by rw [h1, hn]; exact c2.1, by rw [hI 2 1 (by omega) (by omega), hn]; exact c2.2⟩, by rw [hI 0 5 (by omega) (by omega), hA 33 0 (by omega)]; exact c3, ⟨by rw [hL, hAL]; exact c4.1, by rw [hL, hAL]; exact c4.2⟩, ?_, ?_, ?_, ?_, ?_⟩
  · intro j hj'
    rw [hn] at hj'
    by_cases e : j = i
    · subst e; exact hi (c5 j hj')
    · have q := c5 j hj'
      have hpar : par A' j = par A j := by simp only [par, hA 38 j (by omega)]
      unfold GT1 at q ⊢
      simp only [hR, hpar, hI (60 + 2 * j) _ (by omega) (by omega), hI (61 + 2 * j) _ (by omega) (by omega), hj 37 j e (by omega), hj 39 j e (by omega), hj 42 j e (by omega), hj 43 j e (by omega), hj 44 j e (by omega), hj 45 j e (by omega), hj 46 j e (by omega)]
      obtain ⟨q1, q2, q3, q4, q5, q6, q7, q8, q9, q10, q11, q12⟩ := q
      exact ⟨q1, q2, q3, q4, q5, q6, q7, q8, q9, q10, q11, fun f hf => by rw [hs j f e hf]; exact q12 f hf⟩
  · refine GP_cong c6 hn (fun j => ?_) (fun k => hA 40 k (by omega))
    by_cases e : j = i
    · subst e; exact hp
    · exact hI _ _ (by omega) (by omega)
  · exact GY_cong c7 (fun r k _ _ => hI r k (by omega) (by omega)) (fun r k _ _ => hL r k) (fun r k _ _ => hA r k (by omega)) (fun k => hAL 36 k)
  · exact GL_cong c8 he (fun r k _ _ => hI r k (by omega) (by omega)) (fun r k _ _ => hA r k (by omega))
  · exact GS_cong c9 hn (fun r k _ => hI r k (by omega) (by omega)) (fun r k _ _ => hA r k (by omega))
theorem MR_upd {u v : Mm} {A A' : Ab} {i : Nat} (hM : MR u A) (hi : i < an A) (h1 : v.1 = u.1) (hR : ∀ r k, gR v r k = gR u r k) (hL : ∀ r k, gL v r k = gL u r k) (hI : ∀ r k, r < 37 ∨ 48 < r → gI v r k = gI u r k) (hIj : ∀ r j, 37 ≤ r → r ≤ 48 → r ≠ 41 → j ≠ i → gI v r j = gI u r j) (hIs : ∀ j f, j ≠ i → f < 6 → gI v 41 (6 * j + f) = gI u 41 (6 * j + f)) (hn : an A' = an A) (he : ae A' = ae A) (hAL : ∀ r k, aL A' r k = aL A r k)
    (hA : ∀ r k, r < 37 ∨ 48 < r → aI A' r k = aI A r k) (hj : ∀ r j, j ≠ i → r ≠ 41 → aI A' r j = aI A r j) (hs : ∀ j f, j ≠ i → f < 6 → aI A' 41 (6 * j + f) = aI A 41 (6 * j + f)) (hh : HT1 u A i → HT1 v A' i) : MR v A' := by
  obtain ⟨c1, c2, c3, c4, c5, c6, c7, c8⟩ := hM
  refine ⟨RM_cong c1 (fun k => hR 33 k), by rw [h1]; exact c2, by rw [hI 33 7 (by omega), hn]; exact c3, by rw [hI 33 0 (by omega), hA 33 0 (by omega)]; exact c4, ⟨by rw [hL, hAL]; exact c5.1, by rw [hL, hAL]; exact c5.2⟩, ⟨?_, ?_⟩, ?_, ?_⟩
  · intro j hj'
    rw [hn] at hj'
    by_cases e : j = i
    · subst e; exact hh (c6.1 j hj')
    · have q := c6.1 j hj'
      unfold HT1 at q ⊢
      simp only [hIj 37 j (by omega) (by omega) (by omega) e, hIj 38 j (by omega) (by omega) (by omega) e, hIj 39 j (by omega) (by omega) (by omega) e, hIj 40 j (by omega) (by omega) (by omega) e, hIj 42 j (by omega) (by omega) (by omega) e, hIj 43 j (by omega) (by omega) (by omega) e, hIj 44 j (by omega) (by omega) (by omega) e, hIj 45 j (by omega) (by omega) (by omega) e, hIj 46 j (by omega) (by omega) (by omega) e, hIj 47 j (by omega) (by omega) (by omega) e, hIj 48 j (by omega) (by omega) (by omega) e,
        hj 37 j e (by omega), hj 38 j e (by omega), hj 39 j e (by omega), hj 40 j e (by omega), hj 42 j e (by omega), hj 43 j e (by omega), hj 44 j e (by omega), hj 45 j e (by omega), hj 46 j e (by omega), hj 47 j e (by omega), hj 48 j e (by omega)]
      obtain ⟨q1, q2, q3, q4, q5, q6, q7, q8, q9, q10, q11, q12⟩ := q
      exact ⟨q1, q2, q3, q4, q5, q6, q7, q8, q9, q10, q11, fun f hf => by rw [hs j f e hf, hIs j f e hf]; exact q12 f hf⟩
  · intro j h2 h3
    rw [hn] at h2
    rw [hIj 45 j (by omega) (by omega) (by omega) (by omega)]
    exact c6.2 j h2 h3
  · exact HY_cong c7 (fun r k _ _ => hI r k (by omega)) (fun k => hL 36 k) (fun r k _ _ => hA r k (by omega)) (fun k => hAL 36 k)
  · exact HL_cong c8 he (hI 33 22 (by omega)) (fun r k _ _ => hI r k (by omega)) (fun r k _ _ => hA r k (by omega))
theorem Wf_upd {A A' : Ab} {i : Nat} (hW : Wf A) (hn : an A' = an A) (he : ae A' = ae A) (hA : ∀ r k, r < 37 ∨ 48 < r → aI A' r k = aI A r k) (hj : ∀ r j, j ≠ i → r ≠ 41 → aI A' r j = aI A r j) (hs : ∀ j f, j ≠ i → f < 6 → aI A' 41 (6 * j + f) = aI A 41 (6 * j + f)) (hi : WT1 A i → WT1 A' i) (h46 : WD A' 46) (h47 : WD A' 47) (h48 : WD A' 48) : Wf A' := by
  obtain ⟨c1, c2, c3, c4, c5, c6⟩ := hW
  refine ⟨⟨by rw [hn]; exact c1.1, fun j hj' => ?_⟩, h46, h47, h48, WY_cong c5 (fun r k _ _ => hA r k (by omega)), WL_cong c6 he (fun r k _ _ => hA r k (by omega))⟩
  rw [hn] at hj'
  by_cases e : j = i
  · subst e; exact hi (c1.2 j hj')
  · have q := c1.2 j hj'
    unfold WT1 at q ⊢
    simp only [hj 37 j e (by omega), hj 38 j e (by omega), hj 39 j e (by omega), hj 40 j e (by omega), hj 42 j e (by omega), hj 43 j e (by omega), hj 44 j e (by omega), hj 46 j e (by omega), hj 47 j e (by omega), hj 48 j e (by omega)]
    obtain ⟨q1, q2, q3, q4, q5, q6, q7, q8, q9, q10, q12⟩ := q
    exact ⟨q1, q2, q3, q4, q5, q6, q7, q8, q9, q10, fun f hf => by rw [hs j f e hf]; exact q12 f hf⟩
theorem tI_st (A : Ab) (r k : Nat) (v c : Int32) (h : r ≠ 33) : tI (st A c) r k v = st (tI A r k v) c := by
  unfold st tI
  simp only [Prod.mk.injEq, true_and, and_true]
  funext a j
  simp only [up2]
  by_cases h1 : a = r
  · subst h1; simp [h]
  · simp [h1]
/-- a granted change: class u to sI u1 0 5 0, reference m0 of it to v -/
theorem leaf_ok {α : Type} {F7 F8 : Mm → Option (α × Mm)} {u u1 v : Mm} {A' : Ab} (r : α) (h7 : F7 u = some (r, sI u1 0 5 0)) (h8 : F8 (sI u1 0 5 0) = some (r, v)) (hW : Wf A') (hC : CR u1 A') (hM : MR v (st A' 0)) (hk : keepC (sI u1 0 5 0) v) : Pq F7 F8 u := leaf r _ v (st A' 0) h7 h8 (Wf_st 0 hW) (CR_st 0 hC) hM hk
