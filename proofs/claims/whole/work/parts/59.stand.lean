-- STAND
theorem P_stand {u : Mm} (hI : Inv u) (p1 p2 : Int32) : Pq (f_X7_stand 0 p1 p2) (f_X8_stand 33 p1 p2) u := by
  obtain ⟨A, hW, hC, hM⟩ := hI
  obtain ⟨hRC, hN, hS, hF, hT, hPc, hY, hLg, hSh⟩ := id hC
  obtain ⟨hRM, h60, h7, hMs, hMf, hMt, hMy, hMl⟩ := id hM
  have h80 : an A ≤ 80 := hW.1.1
  have hn := hN.1
  obtain ⟨c, hc7, hc8, hc⟩ := shelf hW hC p1 p2
  rcases hc with ⟨rfl, i, hi, rfl, hv1, hv2⟩ | hc
  · have hfr := fun q hq => free_t hW hC (i := i) (q := q) hi hq
    obtain ⟨u', hp1, hp2, hp3⟩ := put11 hRC h60 hSh.1 (fun a b _ _ hab h => plc_dist hW a b hab h) (fun a _ => plc_range hW a) (show i < 80 by omega) (p := p2) ⟨hv1, hv2⟩
    have hM1 : MR (sI u' 0 5 0) A := hM.keep ((hp3.keepM (by omega) (by omega)).sI (by omega))
    have ho' : okO u' 0 7 = true := oO0 (by rw [hp3.1]; exact h60)
    have hb1 := hc8 _ (MR_th 0 hM1)
    have hb10 := hc8 _ (MR_th 0 (hM.keep (keepM.rf.sI (r := 0) (k := 5) (x := 10) (by omega))))
    clear hT hMt hSh hY hMy hPc hF hMf hS hMs hLg hMl hc8
    have hz60 : 60 ≤ (sI u' 0 5 0).1 := hM1.2.1
    have hzR : RM (sI u' 0 5 0) := hM1.1
    by_cases hm : p2.toInt = -1
    · have h2 := sk_n (Wf_st 0 hW) (MR_m0 hM1) (t := nI i) (v := p2) (by omega) (z := some ((1 : Int32), sI (m0 (sI u' 0 5 0)) 47 i p2)) (an A) 1000 0 (by show 0 + an A = an A; omega) (by omega)
      rw [nI_0] at h2
      refine leaf_ok (u1 := u') (v := sI (m0 (sI u' 0 5 0)) 47 i p2) (A' := tI A 47 i p2) 1 ?_ ?_ (Wf_place hW ⟨hv1, hv2⟩ (Or.inl (by rw [i_eq, hm]; rfl))) (CR_stand hC hi hp2 hp3) (by rw [← tI_st _ _ _ _ _ (by omega)]; exact MR_row (MR_m0 hM1) hi (by omega) p2) (((keepC.rf.sI (by omega)).sI (by omega)).sI (by omega))
      · simp (disch := omega) only [f_X7_stand, hc7, hp1, ho', f_X7_grant, gd_t, bb_e, bd_s, cs_n, cs_s, okO_sI, okO_sL, okO_sR, okO_rI, okO_rL, okA_sI, okA_sL, okA_sR, okA_rI, okA_rL, gI_sI, gI_sL, gI_sR, gI_rI, gI_rL, gL_sI, gL_sL, gL_sR, gL_rI, gL_rL, gR_sI, gR_sL, gR_sR, gR_rI, gR_rL, oT, oS, oY, oYn, i_lt, i_le, i_eq, nI_toInt, nI_clamp, ↓reduceIte, false_and, and_false, and_self, true_and, and_true, if_pos, if_neg, ite_self, isB_0, isB_1, ix6, ix40, li_0, li_1, li_2, li_3, li_4, li_5, li_6, li_7, li_8, li_9, li_10, li_11, li_12, li_15, li_16, li_20, li_39, li_40, li_80, li_200, li_400, li_999, li_9999, li_100000, li_200000, li_300000, li_65535, li_m1, oO0 h60, oO2 h60, oO6 h60, oO10 h60, oO11 h60, oO14 h60, oO21 h60, oA1 h60, oA3 h60, oA4 h60, oA5 h60, oA7 h60, oA8 h60, oA9 h60, oA12 h60, oA13 h60, oA15 h60, oA16 h60, oA17 h60, oA18 h60, oA19 h60, oA20 h60, oA22 h60, oA23 h60, oA24 h60, rc_0_0 hRC, rc_0_1 hRC, rc_0_2 hRC, rc_0_3 hRC, rc_0_4 hRC, rc_2_0 hRC, rc_2_2 hRC, rc_2_3 hRC, rc_6_0 hRC, rc_6_1 hRC, rc_6_2 hRC, rc_10_0 hRC, rc_10_1 hRC, rc_10_2 hRC, rc_10_3 hRC, rc_10_4 hRC, rc_10_5 hRC, rc_11_0 hRC, rc_11_1 hRC, rc_14_0 hRC, rc_14_1 hRC, rc_21_0 hRC, rc_21_1 hRC, rc_21_2 hRC]
      · have hRM := hzR
        have h60 := hz60
        generalize sI u' 0 5 0 = w at *
        simp (disch := omega) only [f_X8_stand, hb1, h2, gd_t, bb_e, bd_s, cs_n, cs_s, okO_sI, okO_sL, okO_sR, okO_rI, okO_rL, okA_sI, okA_sL, okA_sR, okA_rI, okA_rL, gI_sI, gI_sL, gI_sR, gI_rI, gI_rL, gL_sI, gL_sL, gL_sR, gL_rI, gL_rL, gR_sI, gR_sL, gR_sR, gR_rI, gR_rL, oT, oS, oY, oYn, i_lt, i_le, i_eq, nI_toInt, nI_clamp, ↓reduceIte, false_and, and_false, and_self, true_and, and_true, if_pos, if_neg, ite_self, isB_0, isB_1, ix6, ix40, li_0, li_1, li_2, li_3, li_4, li_5, li_6, li_7, li_8, li_9, li_10, li_11, li_12, li_15, li_16, li_20, li_39, li_40, li_80, li_200, li_400, li_999, li_9999, li_100000, li_200000, li_300000, li_65535, li_m1, oO33 h60, oA34 h60, oA35 h60, oA36 h60, oA37 h60, oA38 h60, oA39 h60, oA40 h60, oA41 h60, oA42 h60, oA43 h60, oA44 h60, oA45 h60, oA46 h60, oA47 h60, oA48 h60, oA49 h60, oA50 h60, oA51 h60, oA52 h60, oA53 h60, oA54 h60, oA55 h60, oA56 h60, oA57 h60, oA58 h60, oA59 h60, rm_4 hRM, rm_5 hRM, rm_6 hRM, rm_8 hRM, rm_9 hRM, rm_10 hRM, rm_11 hRM, rm_12 hRM, rm_13 hRM, rm_14 hRM, rm_15 hRM, rm_16 hRM, rm_17 hRM, rm_18 hRM, rm_19 hRM, rm_20 hRM, rm_21 hRM, rm_23 hRM, rm_24 hRM, rm_25 hRM, rm_26 hRM, rm_27 hRM, rm_28 hRM, rm_29 hRM, rm_30 hRM, rm_32 hRM]
    · obtain ⟨q, hq, rfl⟩ := i_ex2 (p := p2) (n := 40) ⟨by omega, by omega⟩
      have hfr := hfr q hq
      have h2 := sk_l (Wf_st 0 hW) (MR_m0 hM1) (t := i) hi (v := nI q) (by omega) (z := some ((1 : Int32), sI (m0 (sI u' 0 5 0)) 47 i (nI q))) (an A) 1000 0 (by show 0 + an A = an A; omega) (by omega)
      have h3 := sk_l (Wf_st 0 hW) (MR_k hM 10) (t := i) hi (v := nI q) (by omega) (z := some ((1 : Int32), sI (m0 (sI u 0 5 10)) 47 i (nI q))) (an A) 1000 0 (by show 0 + an A = an A; omega) (by omega)
      rw [nI_0] at h2 h3
      simp only [aI_st (show 47 ≠ 33 by omega)] at h2 h3
      cases he : ex (fun k => !decide (k = i) && decide (aI A 47 k = nI q)) 0 (an A) with
      | true =>
        rw [he, if_pos rfl] at h3
        rw [he] at hfr
        have hfr : f_X1_isFreeFor 11 (nI i) (nI q) u = some 0 := hfr
        refine leaf_st (A := A) 0 10 0 hW hC hM ?_ ?_
        · simp (disch := omega) only [f_X7_stand, hc7, hfr, f_X7_deny, gd_t, bb_e, bd_s, cs_n, cs_s, okO_sI, okO_sL, okO_sR, okO_rI, okO_rL, okA_sI, okA_sL, okA_sR, okA_rI, okA_rL, gI_sI, gI_sL, gI_sR, gI_rI, gI_rL, gL_sI, gL_sL, gL_sR, gL_rI, gL_rL, gR_sI, gR_sL, gR_sR, gR_rI, gR_rL, oT, oS, oY, oYn, i_lt, i_le, i_eq, nI_toInt, nI_clamp, ↓reduceIte, false_and, and_false, and_self, true_and, and_true, if_pos, if_neg, ite_self, isB_0, isB_1, ix6, ix40, li_0, li_1, li_2, li_3, li_4, li_5, li_6, li_7, li_8, li_9, li_10, li_11, li_12, li_15, li_16, li_20, li_39, li_40, li_80, li_200, li_400, li_999, li_9999, li_100000, li_200000, li_300000, li_65535, li_m1, oO0 h60, oO2 h60, oO6 h60, oO10 h60, oO11 h60, oO14 h60, oO21 h60, oA1 h60, oA3 h60, oA4 h60, oA5 h60, oA7 h60, oA8 h60, oA9 h60, oA12 h60, oA13 h60, oA15 h60, oA16 h60, oA17 h60, oA18 h60, oA19 h60, oA20 h60, oA22 h60, oA23 h60, oA24 h60, rc_0_0 hRC, rc_0_1 hRC, rc_0_2 hRC, rc_0_3 hRC, rc_0_4 hRC, rc_2_0 hRC, rc_2_2 hRC, rc_2_3 hRC, rc_6_0 hRC, rc_6_1 hRC, rc_6_2 hRC, rc_10_0 hRC, rc_10_1 hRC, rc_10_2 hRC, rc_10_3 hRC, rc_10_4 hRC, rc_10_5 hRC, rc_11_0 hRC, rc_11_1 hRC, rc_14_0 hRC, rc_14_1 hRC, rc_21_0 hRC, rc_21_1 hRC, rc_21_2 hRC]
        · simp (disch := omega) only [f_X8_stand, hb10, h3, gd_t, bb_e, bd_s, cs_n, cs_s, okO_sI, okO_sL, okO_sR, okO_rI, okO_rL, okA_sI, okA_sL, okA_sR, okA_rI, okA_rL, gI_sI, gI_sL, gI_sR, gI_rI, gI_rL, gL_sI, gL_sL, gL_sR, gL_rI, gL_rL, gR_sI, gR_sL, gR_sR, gR_rI, gR_rL, oT, oS, oY, oYn, i_lt, i_le, i_eq, nI_toInt, nI_clamp, ↓reduceIte, false_and, and_false, and_self, true_and, and_true, if_pos, if_neg, ite_self, isB_0, isB_1, ix6, ix40, li_0, li_1, li_2, li_3, li_4, li_5, li_6, li_7, li_8, li_9, li_10, li_11, li_12, li_15, li_16, li_20, li_39, li_40, li_80, li_200, li_400, li_999, li_9999, li_100000, li_200000, li_300000, li_65535, li_m1, oO33 h60, oA34 h60, oA35 h60, oA36 h60, oA37 h60, oA38 h60, oA39 h60, oA40 h60, oA41 h60, oA42 h60, oA43 h60, oA44 h60, oA45 h60, oA46 h60, oA47 h60, oA48 h60, oA49 h60, oA50 h60, oA51 h60, oA52 h60, oA53 h60, oA54 h60, oA55 h60, oA56 h60, oA57 h60, oA58 h60, oA59 h60, rm_4 hRM, rm_5 hRM, rm_6 hRM, rm_8 hRM, rm_9 hRM, rm_10 hRM, rm_11 hRM, rm_12 hRM, rm_13 hRM, rm_14 hRM, rm_15 hRM, rm_16 hRM, rm_17 hRM, rm_18 hRM, rm_19 hRM, rm_20 hRM, rm_21 hRM, rm_23 hRM, rm_24 hRM, rm_25 hRM, rm_26 hRM, rm_27 hRM, rm_28 hRM, rm_29 hRM, rm_30 hRM, rm_32 hRM]
      | false =>
        rw [he, if_neg (by decide)] at h2
        rw [he] at hfr
        have hfr : f_X1_isFreeFor 11 (nI i) (nI q) u = some 1 := hfr
        refine leaf_ok (u1 := u') (v := sI (m0 (sI u' 0 5 0)) 47 i (nI q)) (A' := tI A 47 i (nI q)) 1 ?_ ?_ (Wf_place hW ⟨hv1, hv2⟩ (Or.inr (fun k hk hki e => by have := ex_no he k (by omega) (by omega); simp [hki, e] at this))) (CR_stand hC hi hp2 hp3) (by rw [← tI_st _ _ _ _ _ (by omega)]; exact MR_row (MR_m0 hM1) hi (by omega) (nI q)) (((keepC.rf.sI (by omega)).sI (by omega)).sI (by omega))
        · simp (disch := omega) only [f_X7_stand, hc7, hfr, hp1, ho', f_X7_grant, gd_t, bb_e, bd_s, cs_n, cs_s, okO_sI, okO_sL, okO_sR, okO_rI, okO_rL, okA_sI, okA_sL, okA_sR, okA_rI, okA_rL, gI_sI, gI_sL, gI_sR, gI_rI, gI_rL, gL_sI, gL_sL, gL_sR, gL_rI, gL_rL, gR_sI, gR_sL, gR_sR, gR_rI, gR_rL, oT, oS, oY, oYn, i_lt, i_le, i_eq, nI_toInt, nI_clamp, ↓reduceIte, false_and, and_false, and_self, true_and, and_true, if_pos, if_neg, ite_self, isB_0, isB_1, ix6, ix40, li_0, li_1, li_2, li_3, li_4, li_5, li_6, li_7, li_8, li_9, li_10, li_11, li_12, li_15, li_16, li_20, li_39, li_40, li_80, li_200, li_400, li_999, li_9999, li_100000, li_200000, li_300000, li_65535, li_m1, oO0 h60, oO2 h60, oO6 h60, oO10 h60, oO11 h60, oO14 h60, oO21 h60, oA1 h60, oA3 h60, oA4 h60, oA5 h60, oA7 h60, oA8 h60, oA9 h60, oA12 h60, oA13 h60, oA15 h60, oA16 h60, oA17 h60, oA18 h60, oA19 h60, oA20 h60, oA22 h60, oA23 h60, oA24 h60, rc_0_0 hRC, rc_0_1 hRC, rc_0_2 hRC, rc_0_3 hRC, rc_0_4 hRC, rc_2_0 hRC, rc_2_2 hRC, rc_2_3 hRC, rc_6_0 hRC, rc_6_1 hRC, rc_6_2 hRC, rc_10_0 hRC, rc_10_1 hRC, rc_10_2 hRC, rc_10_3 hRC, rc_10_4 hRC, rc_10_5 hRC, rc_11_0 hRC, rc_11_1 hRC, rc_14_0 hRC, rc_14_1 hRC, rc_21_0 hRC, rc_21_1 hRC, rc_21_2 hRC]
        · have hRM := hzR
          have h60 := hz60
          generalize sI u' 0 5 0 = w at *
          simp (disch := omega) only [f_X8_stand, hb1, h2, gd_t, bb_e, bd_s, cs_n, cs_s, okO_sI, okO_sL, okO_sR, okO_rI, okO_rL, okA_sI, okA_sL, okA_sR, okA_rI, okA_rL, gI_sI, gI_sL, gI_sR, gI_rI, gI_rL, gL_sI, gL_sL, gL_sR, gL_rI, gL_rL, gR_sI, gR_sL, gR_sR, gR_rI, gR_rL, oT, oS, oY, oYn, i_lt, i_le, i_eq, nI_toInt, nI_clamp, ↓reduceIte, false_and, and_false, and_self, true_and, and_true, if_pos, if_neg, ite_self, isB_0, isB_1, ix6, ix40, li_0, li_1, li_2, li_3, li_4, li_5, li_6, li_7, li_8, li_9, li_10, li_11, li_12, li_15, li_16, li_20, li_39, li_40, li_80, li_200, li_400, li_999, li_9999, li_100000, li_200000, li_300000, li_65535, li_m1, oO33 h60, oA34 h60, oA35 h60, oA36 h60, oA37 h60, oA38 h60, oA39 h60, oA40 h60, oA41 h60, oA42 h60, oA43 h60, oA44 h60, oA45 h60, oA46 h60, oA47 h60, oA48 h60, oA49 h60, oA50 h60, oA51 h60, oA52 h60, oA53 h60, oA54 h60, oA55 h60, oA56 h60, oA57 h60, oA58 h60, oA59 h60, rm_4 hRM, rm_5 hRM, rm_6 hRM, rm_8 hRM, rm_9 hRM, rm_10 hRM, rm_11 hRM, rm_12 hRM, rm_13 hRM, rm_14 hRM, rm_15 hRM, rm_16 hRM, rm_17 hRM, rm_18 hRM, rm_19 hRM, rm_20 hRM, rm_21 hRM, rm_23 hRM, rm_24 hRM, rm_25 hRM, rm_26 hRM, rm_27 hRM, rm_28 hRM, rm_29 hRM, rm_30 hRM, rm_32 hRM]
  · have hb := hc8 _ (MR_th 0 (hM.keep (keepM.rf.sI (r := 0) (k := 5) (x := c) (by omega))))
    clear hc8
    refine leaf_s1 (A := A) 0 c hW hC hM ?_ ?_
    · simp (disch := omega) only [f_X7_stand, hc7, f_X7_deny, gd_t, bb_e, bd_s, cs_n, cs_s, okO_sI, okO_sL, okO_sR, okO_rI, okO_rL, okA_sI, okA_sL, okA_sR, okA_rI, okA_rL, gI_sI, gI_sL, gI_sR, gI_rI, gI_rL, gL_sI, gL_sL, gL_sR, gL_rI, gL_rL, gR_sI, gR_sL, gR_sR, gR_rI, gR_rL, oT, oS, oY, oYn, i_lt, i_le, i_eq, nI_toInt, nI_clamp, ↓reduceIte, false_and, and_false, and_self, true_and, and_true, if_pos, if_neg, ite_self, isB_0, isB_1, ix6, ix40, li_0, li_1, li_2, li_3, li_4, li_5, li_6, li_7, li_8, li_9, li_10, li_11, li_12, li_15, li_16, li_20, li_39, li_40, li_80, li_200, li_400, li_999, li_9999, li_100000, li_200000, li_300000, li_65535, li_m1, oO0 h60, oO2 h60, oO6 h60, oO10 h60, oO11 h60, oO14 h60, oO21 h60, oA1 h60, oA3 h60, oA4 h60, oA5 h60, oA7 h60, oA8 h60, oA9 h60, oA12 h60, oA13 h60, oA15 h60, oA16 h60, oA17 h60, oA18 h60, oA19 h60, oA20 h60, oA22 h60, oA23 h60, oA24 h60, rc_0_0 hRC, rc_0_1 hRC, rc_0_2 hRC, rc_0_3 hRC, rc_0_4 hRC, rc_2_0 hRC, rc_2_2 hRC, rc_2_3 hRC, rc_6_0 hRC, rc_6_1 hRC, rc_6_2 hRC, rc_10_0 hRC, rc_10_1 hRC, rc_10_2 hRC, rc_10_3 hRC, rc_10_4 hRC, rc_10_5 hRC, rc_11_0 hRC, rc_11_1 hRC, rc_14_0 hRC, rc_14_1 hRC, rc_21_0 hRC, rc_21_1 hRC, rc_21_2 hRC]
    · simp (disch := omega) only [f_X8_stand, hb, gd_t, bb_e, bd_s, cs_n, cs_s, okO_sI, okO_sL, okO_sR, okO_rI, okO_rL, okA_sI, okA_sL, okA_sR, okA_rI, okA_rL, gI_sI, gI_sL, gI_sR, gI_rI, gI_rL, gL_sI, gL_sL, gL_sR, gL_rI, gL_rL, gR_sI, gR_sL, gR_sR, gR_rI, gR_rL, oT, oS, oY, oYn, i_lt, i_le, i_eq, nI_toInt, nI_clamp, ↓reduceIte, false_and, and_false, and_self, true_and, and_true, if_pos, if_neg, ite_self, isB_0, isB_1, ix6, ix40, li_0, li_1, li_2, li_3, li_4, li_5, li_6, li_7, li_8, li_9, li_10, li_11, li_12, li_15, li_16, li_20, li_39, li_40, li_80, li_200, li_400, li_999, li_9999, li_100000, li_200000, li_300000, li_65535, li_m1, oO33 h60, oA34 h60, oA35 h60, oA36 h60, oA37 h60, oA38 h60, oA39 h60, oA40 h60, oA41 h60, oA42 h60, oA43 h60, oA44 h60, oA45 h60, oA46 h60, oA47 h60, oA48 h60, oA49 h60, oA50 h60, oA51 h60, oA52 h60, oA53 h60, oA54 h60, oA55 h60, oA56 h60, oA57 h60, oA58 h60, oA59 h60, rm_4 hRM, rm_5 hRM, rm_6 hRM, rm_8 hRM, rm_9 hRM, rm_10 hRM, rm_11 hRM, rm_12 hRM, rm_13 hRM, rm_14 hRM, rm_15 hRM, rm_16 hRM, rm_17 hRM, rm_18 hRM, rm_19 hRM, rm_20 hRM, rm_21 hRM, rm_23 hRM, rm_24 hRM, rm_25 hRM, rm_26 hRM, rm_27 hRM, rm_28 hRM, rm_29 hRM, rm_30 hRM, rm_32 hRM]
-- GOAL
theorem goa_l {u : Mm} {A : Ab} (hC : CR u A) {t : Nat} (ht : t < 80) {v : Int32} : ∀ (d n j : Nat), j + d = 80 → d < n → L_X4_isGoalOfAnother_2 10 v (nI t) u (fun _ => some (0 : Int32)) n (nI j) = some (b2i (ex (fun k => !decide (k = t) && decide (gol A k = v)) j d)) := by
  obtain ⟨hRC, hN, -, -, -, -, -, -, hS⟩ := id hC
  have hn := hN.1
  have h60 : 60 ≤ u.1 := by omega
  intro d
  induction d with
  | zero =>
    intro n j h1 h2
    obtain ⟨n, rfl⟩ : ∃ m, n = m + 1 := ⟨n - 1, by omega⟩
    have e : j = 80 := by omega
    subst e
    rw [L_X4_isGoalOfAnother_2, if_pos (by decide)]
    rfl
  | succ d ih =>
    intro n j h1 h2
    obtain ⟨n, rfl⟩ : ∃ m, n = m + 1 := ⟨n - 1, by omega⟩
    have ih := ih n (j + 1) (by omega) (by omega)
    have hg := hS.2 j (by omega)
    rw [L_X4_isGoalOfAnother_2, if_neg (by rw [show (80 : Int32) = nI 80 from rfl]; exact nI_ge (by omega) (by omega))]
    simp only [oO10 h60, bb_e, rc_10_2 hRC, cs_s, gd_t, oA17 h60 (show j < 80 by omega), nI_clamp (show j < 2 ^ 31 by omega), hg, nI_1', ih, ex]
    by_cases c2 : gol A j = v
    · rw [if_pos c2]
      by_cases c1 : j = t
      · rw [if_pos (by rw [c1])]
        simp [c1]
      · rw [if_neg (by rw [nI_eq (by omega) (by omega)]; exact c1)]
        simp [c1, c2, b2i]
    · rw [if_neg c2]
      simp [c2]
theorem goa_n {A : Ab} (hW : Wf A) {t : Nat} {v : Int32} (hv : 0 ≤ v.toInt) : ex (fun k => !decide (k = t) && decide (gol A k = v)) 0 80 = ex (fun k => !decide (k = t) && decide (aI A 48 k = v)) 0 (an A) := by
  have h80 := hW.1.1
  cases h1 : ex (fun k => !decide (k = t) && decide (gol A k = v)) 0 80 with
  | true =>
    obtain ⟨k, -, h2, h3⟩ := ex_yes h1
    simp only [Bool.and_eq_true, Bool.not_eq_true', decide_eq_true_eq, decide_eq_false_iff_not] at h3
    have hk : k < an A := by
      rcases Nat.lt_or_ge k (an A) with q | q
      · exact q
      · have := h3.2
        rw [gol, if_neg (by omega)] at this
        rw [← this, li_m1] at hv
        omega
    cases h4 : ex (fun k => !decide (k = t) && decide (aI A 48 k = v)) 0 (an A) with
    | true => rfl
    | false =>
      have h5 := ex_no h4 k (by omega) (by omega)
      have h6 := h3.2
      rw [gol, if_pos hk] at h6
      simp [h3.1, h6] at h5
  | false =>
    cases h4 : ex (fun k => !decide (k = t) && decide (aI A 48 k = v)) 0 (an A) with
    | false => rfl
    | true =>
      obtain ⟨k, -, h2, h3⟩ := ex_yes h4
      have h5 := ex_no h1 k (by omega) (by omega)
      simp only [gol, if_pos (show k < an A by omega)] at h5
      rw [h3] at h5
      cases h5
theorem CR_goal {u : Mm} {A : Ab} (hC : CR u A) {i : Nat} (hi : i < an A) {p : Int32} : CR (sI u 17 i p) (tI A 48 i p) := by
  obtain ⟨c1, c2, c3, c4, c5, c6, c7, c8, c9⟩ := hC
  refine ⟨RC_cong c1 (fun _ _ _ _ _ => rfl), c2, c3, c4, ?_, ?_, ?_, ?_, ?_⟩
  · exact GT_cong c5 rfl (by intros; first | with_reducible rfl | (simp only [gI_sI, gI_sL, gI_sR, gI_rI, gI_rL, gL_sI, gL_sL, gL_sR, gL_rI, gL_rL, gR_sI, gR_sL, gR_sR, gR_rI, gR_rL, aI_tI, aI_tL, aI_qI, aI_qL, aI_tN, aI_tE, aL_tI, aL_tL, aL_qI, aL_qL, aL_tN, aL_tE, an_tI, an_tL, an_qI, an_qL, an_tN, an_tE, ae_tI, ae_tL, ae_qI, ae_qL, ae_tN, ae_tE] <;> repeat (first | rw [if_neg (by omega)] | rw [if_pos (by omega)]))) (fun _ _ _ => rfl) (fun _ => rfl) (by intros; first | with_reducible rfl | (simp only [gI_sI, gI_sL, gI_sR, gI_rI, gI_rL, gL_sI, gL_sL, gL_sR, gL_rI, gL_rL, gR_sI, gR_sL, gR_sR, gR_rI, gR_rL, aI_tI, aI_tL, aI_qI, aI_qL, aI_tN, aI_tE, aL_tI, aL_tL, aL_qI, aL_qL, aL_tN, aL_tE, an_tI, an_tL, an_qI, an_qL, an_tN, an_tE, ae_tI, ae_tL, ae_qI, ae_qL, ae_tN, ae_tE] <;> repeat (first | rw [if_neg (by omega)] | rw [if_pos (by omega)])))
  · exact GP_cong c6 rfl (by intros; first | with_reducible rfl | (simp only [gI_sI, gI_sL, gI_sR, gI_rI, gI_rL, gL_sI, gL_sL, gL_sR, gL_rI, gL_rL, gR_sI, gR_sL, gR_sR, gR_rI, gR_rL, aI_tI, aI_tL, aI_qI, aI_qL, aI_tN, aI_tE, aL_tI, aL_tL, aL_qI, aL_qL, aL_tN, aL_tE, an_tI, an_tL, an_qI, an_qL, an_tN, an_tE, ae_tI, ae_tL, ae_qI, ae_qL, ae_tN, ae_tE] <;> repeat (first | rw [if_neg (by omega)] | rw [if_pos (by omega)]))) (by intros; first | with_reducible rfl | (simp only [gI_sI, gI_sL, gI_sR, gI_rI, gI_rL, gL_sI, gL_sL, gL_sR, gL_rI, gL_rL, gR_sI, gR_sL, gR_sR, gR_rI, gR_rL, aI_tI, aI_tL, aI_qI, aI_qL, aI_tN, aI_tE, aL_tI, aL_tL, aL_qI, aL_qL, aL_tN, aL_tE, an_tI, an_tL, an_qI, an_qL, an_tN, an_tE, ae_tI, ae_tL, ae_qI, ae_qL, ae_tN, ae_tE] <;> repeat (first | rw [if_neg (by omega)] | rw [if_pos (by omega)])))
  · exact GY_cong c7 (by intros; first | with_reducible rfl | (simp only [gI_sI, gI_sL, gI_sR, gI_rI, gI_rL, gL_sI, gL_sL, gL_sR, gL_rI, gL_rL, gR_sI, gR_sL, gR_sR, gR_rI, gR_rL, aI_tI, aI_tL, aI_qI, aI_qL, aI_tN, aI_tE, aL_tI, aL_tL, aL_qI, aL_qL, aL_tN, aL_tE, an_tI, an_tL, an_qI, an_qL, an_tN, an_tE, ae_tI, ae_tL, ae_qI, ae_qL, ae_tN, ae_tE] <;> repeat (first | rw [if_neg (by omega)] | rw [if_pos (by omega)]))) (fun _ _ _ _ => rfl) (by intros; first | with_reducible rfl | (simp only [gI_sI, gI_sL, gI_sR, gI_rI, gI_rL, gL_sI, gL_sL, gL_sR, gL_rI, gL_rL, gR_sI, gR_sL, gR_sR, gR_rI, gR_rL, aI_tI, aI_tL, aI_qI, aI_qL, aI_tN, aI_tE, aL_tI, aL_tL, aL_qI, aL_qL, aL_tN, aL_tE, an_tI, an_tL, an_qI, an_qL, an_tN, an_tE, ae_tI, ae_tL, ae_qI, ae_qL, ae_tN, ae_tE] <;> repeat (first | rw [if_neg (by omega)] | rw [if_pos (by omega)]))) (fun _ => rfl)
  · exact GL_cong c8 rfl (by intros; first | with_reducible rfl | (simp only [gI_sI, gI_sL, gI_sR, gI_rI, gI_rL, gL_sI, gL_sL, gL_sR, gL_rI, gL_rL, gR_sI, gR_sL, gR_sR, gR_rI, gR_rL, aI_tI, aI_tL, aI_qI, aI_qL, aI_tN, aI_tE, aL_tI, aL_tL, aL_qI, aL_qL, aL_tN, aL_tE, an_tI, an_tL, an_qI, an_qL, an_tN, an_tE, ae_tI, ae_tL, ae_qI, ae_qL, ae_tN, ae_tE] <;> repeat (first | rw [if_neg (by omega)] | rw [if_pos (by omega)]))) (by intros; first | with_reducible rfl | (simp only [gI_sI, gI_sL, gI_sR, gI_rI, gI_rL, gL_sI, gL_sL, gL_sR, gL_rI, gL_rL, gR_sI, gR_sL, gR_sR, gR_rI, gR_rL, aI_tI, aI_tL, aI_qI, aI_qL, aI_tN, aI_tE, aL_tI, aL_tL, aL_qI, aL_qL, aL_tN, aL_tE, an_tI, an_tL, an_qI, an_qL, an_tN, an_tE, ae_tI, ae_tL, ae_qI, ae_qL, ae_tN, ae_tE] <;> repeat (first | rw [if_neg (by omega)] | rw [if_pos (by omega)])))
  · have e1 : plc (tI A 48 i p) = plc A := by
      funext k
      simp only [plc, an_tI, aI_tI]
      simp
    unfold GS
    rw [e1]
    refine ⟨?_, fun k hk => ?_⟩
    · unfold Lay
      simp only [gI_sI]
      simp only [Nat.reduceEqDiff, false_and, ↓reduceIte]
      exact c9.1
    · have q := c9.2 k hk
      rw [gI_sI]
      simp only [gol, an_tI, aI_tI]
      by_cases e : k = i
      · simp [e, hi]
      · simp only [e, and_false, ↓reduceIte]
        rw [q, gol]
theorem P_goal {u : Mm} (hI : Inv u) (p1 p2 : Int32) : Pq (f_X7_goal 0 p1 p2) (f_X8_goal 33 p1 p2) u := by
  obtain ⟨A, hW, hC, hM⟩ := hI
  obtain ⟨hRC, hN, hS, hF, hT, hPc, hY, hLg, hSh⟩ := id hC
  obtain ⟨hRM, h60, h7, hMs, hMf, hMt, hMy, hMl⟩ := id hM
  have h80 : an A ≤ 80 := hW.1.1
  have hn := hN.1
  obtain ⟨c, hc7, hc8, hc⟩ := shelf hW hC p1 p2
  rcases hc with ⟨rfl, i, hi, rfl, hv1, hv2⟩ | hc
  · have hM1 : MR (sI (sI u 17 i p2) 0 5 0) A := hM.keep ((keepM.rf.sI (by omega)).sI (by omega))
    have hb1 := hc8 _ (MR_th 0 hM1)
    have hb10 := hc8 _ (MR_th 0 (hM.keep (keepM.rf.sI (r := 0) (k := 5) (x := 10) (by omega))))
    clear hT hMt hSh hY hMy hPc hF hMf hS hMs hLg hMl hc8
    by_cases hm : p2.toInt = -1
    · have h2 := gk_n (Wf_st 0 hW) (MR_m0 hM1) (t := nI i) (v := p2) (by omega) (z := some ((1 : Int32), sI (m0 (sI (sI u 17 i p2) 0 5 0)) 48 i p2)) (an A) 1000 0 (by show 0 + an A = an A; omega) (by omega)
      rw [nI_0] at h2
      refine leaf_ok (u1 := sI u 17 i p2) (v := sI (m0 (sI (sI u 17 i p2) 0 5 0)) 48 i p2) (A' := tI A 48 i p2) 1 ?_ ?_ (Wf_goal hW ⟨hv1, hv2⟩ (Or.inl (by rw [i_eq, hm]; rfl))) (CR_goal hC hi) (by rw [← tI_st _ _ _ _ _ (by omega)]; exact MR_row (MR_m0 hM1) hi (by omega) p2) (((keepC.rf.sI (by omega)).sI (by omega)).sI (by omega))
      · simp (disch := omega) only [f_X7_goal, hc7, f_X7_grant, gd_t, bb_e, bd_s, cs_n, cs_s, okO_sI, okO_sL, okO_sR, okO_rI, okO_rL, okA_sI, okA_sL, okA_sR, okA_rI, okA_rL, gI_sI, gI_sL, gI_sR, gI_rI, gI_rL, gL_sI, gL_sL, gL_sR, gL_rI, gL_rL, gR_sI, gR_sL, gR_sR, gR_rI, gR_rL, oT, oS, oY, oYn, i_lt, i_le, i_eq, nI_toInt, nI_clamp, ↓reduceIte, false_and, and_false, and_self, true_and, and_true, if_pos, if_neg, ite_self, isB_0, isB_1, ix6, ix40, li_0, li_1, li_2, li_3, li_4, li_5, li_6, li_7, li_8, li_9, li_10, li_11, li_12, li_15, li_16, li_20, li_39, li_40, li_80, li_200, li_400, li_999, li_9999, li_100000, li_200000, li_300000, li_65535, li_m1, oO0 h60, oO2 h60, oO6 h60, oO10 h60, oO11 h60, oO14 h60, oO21 h60, oA1 h60, oA3 h60, oA4 h60, oA5 h60, oA7 h60, oA8 h60, oA9 h60, oA12 h60, oA13 h60, oA15 h60, oA16 h60, oA17 h60, oA18 h60, oA19 h60, oA20 h60, oA22 h60, oA23 h60, oA24 h60, rc_0_0 hRC, rc_0_1 hRC, rc_0_2 hRC, rc_0_3 hRC, rc_0_4 hRC, rc_2_0 hRC, rc_2_2 hRC, rc_2_3 hRC, rc_6_0 hRC, rc_6_1 hRC, rc_6_2 hRC, rc_10_0 hRC, rc_10_1 hRC, rc_10_2 hRC, rc_10_3 hRC, rc_10_4 hRC, rc_10_5 hRC, rc_11_0 hRC, rc_11_1 hRC, rc_14_0 hRC, rc_14_1 hRC, rc_21_0 hRC, rc_21_1 hRC, rc_21_2 hRC]
      · simp (disch := omega) only [f_X8_goal, hb1, h2, gd_t, bb_e, bd_s, cs_n, cs_s, okO_sI, okO_sL, okO_sR, okO_rI, okO_rL, okA_sI, okA_sL, okA_sR, okA_rI, okA_rL, gI_sI, gI_sL, gI_sR, gI_rI, gI_rL, gL_sI, gL_sL, gL_sR, gL_rI, gL_rL, gR_sI, gR_sL, gR_sR, gR_rI, gR_rL, oT, oS, oY, oYn, i_lt, i_le, i_eq, nI_toInt, nI_clamp, ↓reduceIte, false_and, and_false, and_self, true_and, and_true, if_pos, if_neg, ite_self, isB_0, isB_1, ix6, ix40, li_0, li_1, li_2, li_3, li_4, li_5, li_6, li_7, li_8, li_9, li_10, li_11, li_12, li_15, li_16, li_20, li_39, li_40, li_80, li_200, li_400, li_999, li_9999, li_100000, li_200000, li_300000, li_65535, li_m1, oO33 h60, oA34 h60, oA35 h60, oA36 h60, oA37 h60, oA38 h60, oA39 h60, oA40 h60, oA41 h60, oA42 h60, oA43 h60, oA44 h60, oA45 h60, oA46 h60, oA47 h60, oA48 h60, oA49 h60, oA50 h60, oA51 h60, oA52 h60, oA53 h60, oA54 h60, oA55 h60, oA56 h60, oA57 h60, oA58 h60, oA59 h60, rm_4 hRM, rm_5 hRM, rm_6 hRM, rm_8 hRM, rm_9 hRM, rm_10 hRM, rm_11 hRM, rm_12 hRM, rm_13 hRM, rm_14 hRM, rm_15 hRM, rm_16 hRM, rm_17 hRM, rm_18 hRM, rm_19 hRM, rm_20 hRM, rm_21 hRM, rm_23 hRM, rm_24 hRM, rm_25 hRM, rm_26 hRM, rm_27 hRM, rm_28 hRM, rm_29 hRM, rm_30 hRM, rm_32 hRM]
    · have h1 := goa_l hC (t := i) (by omega) (v := p2) 80 1000 0 (by omega) (by omega)
      rw [nI_0, goa_n hW (by omega)] at h1
      have h2 := gk_l (Wf_st 0 hW) (MR_m0 hM1) (t := i) hi (v := p2) (by omega) (z := some ((1 : Int32), sI (m0 (sI (sI u 17 i p2) 0 5 0)) 48 i p2)) (an A) 1000 0 (by show 0 + an A = an A; omega) (by omega)
      have h3 := gk_l (Wf_st 0 hW) (MR_k hM 10) (t := i) hi (v := p2) (by omega) (z := some ((1 : Int32), sI (m0 (sI u 0 5 10)) 48 i p2)) (an A) 1000 0 (by show 0 + an A = an A; omega) (by omega)
      rw [nI_0] at h2 h3
      simp only [aI_st (show 48 ≠ 33 by omega)] at h2 h3
      cases he : ex (fun k => !decide (k = i) && decide (aI A 48 k = p2)) 0 (an A) with
      | true =>
        rw [he, if_pos rfl] at h3
        rw [he, b2i_t] at h1
        refine leaf_st (A := A) 0 10 0 hW hC hM ?_ ?_
        · simp (disch := omega) only [f_X7_goal, hc7, f_X4_isGoalOfAnother, h1, f_X7_deny, gd_t, bb_e, bd_s, cs_n, cs_s, okO_sI, okO_sL, okO_sR, okO_rI, okO_rL, okA_sI, okA_sL, okA_sR, okA_rI, okA_rL, gI_sI, gI_sL, gI_sR, gI_rI, gI_rL, gL_sI, gL_sL, gL_sR, gL_rI, gL_rL, gR_sI, gR_sL, gR_sR, gR_rI, gR_rL, oT, oS, oY, oYn, i_lt, i_le, i_eq, nI_toInt, nI_clamp, ↓reduceIte, false_and, and_false, and_self, true_and, and_true, if_pos, if_neg, ite_self, isB_0, isB_1, ix6, ix40, li_0, li_1, li_2, li_3, li_4, li_5, li_6, li_7, li_8, li_9, li_10, li_11, li_12, li_15, li_16, li_20, li_39, li_40, li_80, li_200, li_400, li_999, li_9999, li_100000, li_200000, li_300000, li_65535, li_m1, oO0 h60, oO2 h60, oO6 h60, oO10 h60, oO11 h60, oO14 h60, oO21 h60, oA1 h60, oA3 h60, oA4 h60, oA5 h60, oA7 h60, oA8 h60, oA9 h60, oA12 h60, oA13 h60, oA15 h60, oA16 h60, oA17 h60, oA18 h60, oA19 h60, oA20 h60, oA22 h60, oA23 h60, oA24 h60, rc_0_0 hRC, rc_0_1 hRC, rc_0_2 hRC, rc_0_3 hRC, rc_0_4 hRC, rc_2_0 hRC, rc_2_2 hRC, rc_2_3 hRC, rc_6_0 hRC, rc_6_1 hRC, rc_6_2 hRC, rc_10_0 hRC, rc_10_1 hRC, rc_10_2 hRC, rc_10_3 hRC, rc_10_4 hRC, rc_10_5 hRC, rc_11_0 hRC, rc_11_1 hRC, rc_14_0 hRC, rc_14_1 hRC, rc_21_0 hRC, rc_21_1 hRC, rc_21_2 hRC]
        · simp (disch := omega) only [f_X8_goal, hb10, h3, gd_t, bb_e, bd_s, cs_n, cs_s, okO_sI, okO_sL, okO_sR, okO_rI, okO_rL, okA_sI, okA_sL, okA_sR, okA_rI, okA_rL, gI_sI, gI_sL, gI_sR, gI_rI, gI_rL, gL_sI, gL_sL, gL_sR, gL_rI, gL_rL, gR_sI, gR_sL, gR_sR, gR_rI, gR_rL, oT, oS, oY, oYn, i_lt, i_le, i_eq, nI_toInt, nI_clamp, ↓reduceIte, false_and, and_false, and_self, true_and, and_true, if_pos, if_neg, ite_self, isB_0, isB_1, ix6, ix40, li_0, li_1, li_2, li_3, li_4, li_5, li_6, li_7, li_8, li_9, li_10, li_11, li_12, li_15, li_16, li_20, li_39, li_40, li_80, li_200, li_400, li_999, li_9999, li_100000, li_200000, li_300000, li_65535, li_m1, oO33 h60, oA34 h60, oA35 h60, oA36 h60, oA37 h60, oA38 h60, oA39 h60, oA40 h60, oA41 h60, oA42 h60, oA43 h60, oA44 h60, oA45 h60, oA46 h60, oA47 h60, oA48 h60, oA49 h60, oA50 h60, oA51 h60, oA52 h60, oA53 h60, oA54 h60, oA55 h60, oA56 h60, oA57 h60, oA58 h60, oA59 h60, rm_4 hRM, rm_5 hRM, rm_6 hRM, rm_8 hRM, rm_9 hRM, rm_10 hRM, rm_11 hRM, rm_12 hRM, rm_13 hRM, rm_14 hRM, rm_15 hRM, rm_16 hRM, rm_17 hRM, rm_18 hRM, rm_19 hRM, rm_20 hRM, rm_21 hRM, rm_23 hRM, rm_24 hRM, rm_25 hRM, rm_26 hRM, rm_27 hRM, rm_28 hRM, rm_29 hRM, rm_30 hRM, rm_32 hRM]
      | false =>
        rw [he, if_neg (by decide)] at h2
        rw [he, b2i_f] at h1
        refine leaf_ok (u1 := sI u 17 i p2) (v := sI (m0 (sI (sI u 17 i p2) 0 5 0)) 48 i p2) (A' := tI A 48 i p2) 1 ?_ ?_ (Wf_goal hW ⟨hv1, hv2⟩ (Or.inr (fun k hk hki e => by have := ex_no he k (by omega) (by omega); simp [hki, e] at this))) (CR_goal hC hi) (by rw [← tI_st _ _ _ _ _ (by omega)]; exact MR_row (MR_m0 hM1) hi (by omega) p2) (((keepC.rf.sI (by omega)).sI (by omega)).sI (by omega))
        · simp (disch := omega) only [f_X7_goal, hc7, f_X4_isGoalOfAnother, h1, f_X7_grant, gd_t, bb_e, bd_s, cs_n, cs_s, okO_sI, okO_sL, okO_sR, okO_rI, okO_rL, okA_sI, okA_sL, okA_sR, okA_rI, okA_rL, gI_sI, gI_sL, gI_sR, gI_rI, gI_rL, gL_sI, gL_sL, gL_sR, gL_rI, gL_rL, gR_sI, gR_sL, gR_sR, gR_rI, gR_rL, oT, oS, oY, oYn, i_lt, i_le, i_eq, nI_toInt, nI_clamp, ↓reduceIte, false_and, and_false, and_self, true_and, and_true, if_pos, if_neg, ite_self, isB_0, isB_1, ix6, ix40, li_0, li_1, li_2, li_3, li_4, li_5, li_6, li_7, li_8, li_9, li_10, li_11, li_12, li_15, li_16, li_20, li_39, li_40, li_80, li_200, li_400, li_999, li_9999, li_100000, li_200000, li_300000, li_65535, li_m1, oO0 h60, oO2 h60, oO6 h60, oO10 h60, oO11 h60, oO14 h60, oO21 h60, oA1 h60, oA3 h60, oA4 h60, oA5 h60, oA7 h60, oA8 h60, oA9 h60, oA12 h60, oA13 h60, oA15 h60, oA16 h60, oA17 h60, oA18 h60, oA19 h60, oA20 h60, oA22 h60, oA23 h60, oA24 h60, rc_0_0 hRC, rc_0_1 hRC, rc_0_2 hRC, rc_0_3 hRC, rc_0_4 hRC, rc_2_0 hRC, rc_2_2 hRC, rc_2_3 hRC, rc_6_0 hRC, rc_6_1 hRC, rc_6_2 hRC, rc_10_0 hRC, rc_10_1 hRC, rc_10_2 hRC, rc_10_3 hRC, rc_10_4 hRC, rc_10_5 hRC, rc_11_0 hRC, rc_11_1 hRC, rc_14_0 hRC, rc_14_1 hRC, rc_21_0 hRC, rc_21_1 hRC, rc_21_2 hRC]
        · simp (disch := omega) only [f_X8_goal, hb1, h2, gd_t, bb_e, bd_s, cs_n, cs_s, okO_sI, okO_sL, okO_sR, okO_rI, okO_rL, okA_sI, okA_sL, okA_sR, okA_rI, okA_rL, gI_sI, gI_sL, gI_sR, gI_rI, gI_rL, gL_sI, gL_sL, gL_sR, gL_rI, gL_rL, gR_sI, gR_sL, gR_sR, gR_rI, gR_rL, oT, oS, oY, oYn, i_lt, i_le, i_eq, nI_toInt, nI_clamp, ↓reduceIte, false_and, and_false, and_self, true_and, and_true, if_pos, if_neg, ite_self, isB_0, isB_1, ix6, ix40, li_0, li_1, li_2, li_3, li_4, li_5, li_6, li_7, li_8, li_9, li_10, li_11, li_12, li_15, li_16, li_20, li_39, li_40, li_80, li_200, li_400, li_999, li_9999, li_100000, li_200000, li_300000, li_65535, li_m1, oO33 h60, oA34 h60, oA35 h60, oA36 h60, oA37 h60, oA38 h60, oA39 h60, oA40 h60, oA41 h60, oA42 h60, oA43 h60, oA44 h60, oA45 h60, oA46 h60, oA47 h60, oA48 h60, oA49 h60, oA50 h60, oA51 h60, oA52 h60, oA53 h60, oA54 h60, oA55 h60, oA56 h60, oA57 h60, oA58 h60, oA59 h60, rm_4 hRM, rm_5 hRM, rm_6 hRM, rm_8 hRM, rm_9 hRM, rm_10 hRM, rm_11 hRM, rm_12 hRM, rm_13 hRM, rm_14 hRM, rm_15 hRM, rm_16 hRM, rm_17 hRM, rm_18 hRM, rm_19 hRM, rm_20 hRM, rm_21 hRM, rm_23 hRM, rm_24 hRM, rm_25 hRM, rm_26 hRM, rm_27 hRM, rm_28 hRM, rm_29 hRM, rm_30 hRM, rm_32 hRM]
  · have hb := hc8 _ (MR_th 0 (hM.keep (keepM.rf.sI (r := 0) (k := 5) (x := c) (by omega))))
    clear hc8
    refine leaf_s1 (A := A) 0 c hW hC hM ?_ ?_
    · simp (disch := omega) only [f_X7_goal, hc7, f_X7_deny, gd_t, bb_e, bd_s, cs_n, cs_s, okO_sI, okO_sL, okO_sR, okO_rI, okO_rL, okA_sI, okA_sL, okA_sR, okA_rI, okA_rL, gI_sI, gI_sL, gI_sR, gI_rI, gI_rL, gL_sI, gL_sL, gL_sR, gL_rI, gL_rL, gR_sI, gR_sL, gR_sR, gR_rI, gR_rL, oT, oS, oY, oYn, i_lt, i_le, i_eq, nI_toInt, nI_clamp, ↓reduceIte, false_and, and_false, and_self, true_and, and_true, if_pos, if_neg, ite_self, isB_0, isB_1, ix6, ix40, li_0, li_1, li_2, li_3, li_4, li_5, li_6, li_7, li_8, li_9, li_10, li_11, li_12, li_15, li_16, li_20, li_39, li_40, li_80, li_200, li_400, li_999, li_9999, li_100000, li_200000, li_300000, li_65535, li_m1, oO0 h60, oO2 h60, oO6 h60, oO10 h60, oO11 h60, oO14 h60, oO21 h60, oA1 h60, oA3 h60, oA4 h60, oA5 h60, oA7 h60, oA8 h60, oA9 h60, oA12 h60, oA13 h60, oA15 h60, oA16 h60, oA17 h60, oA18 h60, oA19 h60, oA20 h60, oA22 h60, oA23 h60, oA24 h60, rc_0_0 hRC, rc_0_1 hRC, rc_0_2 hRC, rc_0_3 hRC, rc_0_4 hRC, rc_2_0 hRC, rc_2_2 hRC, rc_2_3 hRC, rc_6_0 hRC, rc_6_1 hRC, rc_6_2 hRC, rc_10_0 hRC, rc_10_1 hRC, rc_10_2 hRC, rc_10_3 hRC, rc_10_4 hRC, rc_10_5 hRC, rc_11_0 hRC, rc_11_1 hRC, rc_14_0 hRC, rc_14_1 hRC, rc_21_0 hRC, rc_21_1 hRC, rc_21_2 hRC]
    · simp (disch := omega) only [f_X8_goal, hb, gd_t, bb_e, bd_s, cs_n, cs_s, okO_sI, okO_sL, okO_sR, okO_rI, okO_rL, okA_sI, okA_sL, okA_sR, okA_rI, okA_rL, gI_sI, gI_sL, gI_sR, gI_rI, gI_rL, gL_sI, gL_sL, gL_sR, gL_rI, gL_rL, gR_sI, gR_sL, gR_sR, gR_rI, gR_rL, oT, oS, oY, oYn, i_lt, i_le, i_eq, nI_toInt, nI_clamp, ↓reduceIte, false_and, and_false, and_self, true_and, and_true, if_pos, if_neg, ite_self, isB_0, isB_1, ix6, ix40, li_0, li_1, li_2, li_3, li_4, li_5, li_6, li_7, li_8, li_9, li_10, li_11, li_12, li_15, li_16, li_20, li_39, li_40, li_80, li_200, li_400, li_999, li_9999, li_100000, li_200000, li_300000, li_65535, li_m1, oO33 h60, oA34 h60, oA35 h60, oA36 h60, oA37 h60, oA38 h60, oA39 h60, oA40 h60, oA41 h60, oA42 h60, oA43 h60, oA44 h60, oA45 h60, oA46 h60, oA47 h60, oA48 h60, oA49 h60, oA50 h60, oA51 h60, oA52 h60, oA53 h60, oA54 h60, oA55 h60, oA56 h60, oA57 h60, oA58 h60, oA59 h60, rm_4 hRM, rm_5 hRM, rm_6 hRM, rm_8 hRM, rm_9 hRM, rm_10 hRM, rm_11 hRM, rm_12 hRM, rm_13 hRM, rm_14 hRM, rm_15 hRM, rm_16 hRM, rm_17 hRM, rm_18 hRM, rm_19 hRM, rm_20 hRM, rm_21 hRM, rm_23 hRM, rm_24 hRM, rm_25 hRM, rm_26 hRM, rm_27 hRM, rm_28 hRM, rm_29 hRM, rm_30 hRM, rm_32 hRM]
