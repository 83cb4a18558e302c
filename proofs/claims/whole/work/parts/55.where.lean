/-- who has the nearest of a line -/
def wh (A : Ab) (tick : Int32) : List Nat → Int32
  | [] => -1
  | i :: l => if hol A (nI i) tick (ae A) = -1 then wh A tick l else hol A (nI i) tick (ae A)
theorem wh_st (A : Ab) (c tick : Int32) : ∀ l, wh (st A c) tick l = wh A tick l
  | [] => rfl
  | i :: l => by
    simp only [wh, wh_st A c tick l, hol_st, show ae (st A c) = ae A from rfl]
theorem where_l {u : Mm} {A : Ab} (hW : Wf A) (hC : CR u A) (q tick : Int32) (r : Nat) {k : Int32 → Option (Int32 × Mm)} : ∀ x : Option Nat, (∀ i, x = some i → i < an A) → ∀ n, dpt x < n → L_X7_where_41 0 q tick r u (fun a _ => k a) n (-1) (pC x) = k (wh A tick (lineO A x)) := by
  refine line_ind hW ?_ ?_
  · intro n hn
    obtain ⟨n, rfl⟩ : ∃ a, n = a + 1 := ⟨n - 1, by omega⟩
    rfl
  · intro i hi ih n hn
    obtain ⟨n, rfl⟩ : ∃ a, n = a + 1 := ⟨n - 1, by omega⟩
    have hd := dpt_par hW hi
    have hN := hC.2.1.1
    have hRC := hC.1
    obtain ⟨-, t2, -, t4, -⟩ := hC.2.2.2.2.1 i hi
    have e : lineO A (some i) = i :: lineO A (par A i) := line_eq hW hi
    rw [e]
    show L_X7_where_41 0 q tick r u _ (n + 1) (-1) (some (60 + 2 * i)) = _
    rw [L_X7_where_41, cs_s, if_pos rfl, oO0 (by omega), gd_t, bb_e, oT (by omega), gd_t, rc_0_2 hRC, cs_s, oO6 (by omega), gd_t, t2, holder_t hW hC, bd_s, bb_e, t4]
    simp only [wh]
    by_cases h : hol A (nI i) tick (ae A) = -1
    · rw [if_pos h, h]
      exact ih n (by omega)
    · rw [if_neg h]
      obtain ⟨n, rfl⟩ : ∃ a, n = a + 1 := ⟨n - 1, by have : dpt (some i) = i + 1 := rfl; omega⟩
      rw [L_X7_where_41]
      cases par A i with
      | none => rfl
      | some j =>
        show cs (some (60 + 2 * j)) _ _ = _
        rw [cs_s, if_neg h]
theorem where8_l {u : Mm} {A : Ab} (hW : Wf A) (hM : MR u A) (q tick : Int32) : ∀ x : Option Nat, (∀ i, x = some i → i < an A) → ∀ n, dpt x < n → L_X8_where_42 33 q tick u (fun _ => some (-1, u)) n (pI x) = some (wh A tick (lineO A x), u) := by
  refine line_ind hW ?_ ?_
  · intro n hn
    obtain ⟨n, rfl⟩ : ∃ a, n = a + 1 := ⟨n - 1, by omega⟩
    rw [L_X8_where_42, if_pos (by decide)]
    rfl
  · intro i hi ih n hn
    obtain ⟨n, rfl⟩ : ∃ a, n = a + 1 := ⟨n - 1, by omega⟩
    have hd := dpt_par hW hi
    obtain ⟨hRM, h60, -, -, -, hT, -, hL⟩ := id hM
    have k2 := (hT.1 i hi).2.1
    have h80 := hW.1.1
    have he := hW.2.2.2.2.2.1
    have e : lineO A (some i) = i :: lineO A (par A i) := line_eq hW hi
    rw [e]
    have ih := ih n (by omega)
    show L_X8_where_42 33 q tick u _ (n + 1) (nI i) = _
    rw [L_X8_where_42, if_neg (nI_pos (by omega))]
    simp only [oO33 h60, gd_t, bb_e, bd_s, latest_t hW hM, rm_9 hRM, rm_24 hRM, cs_s, oA38 h60 (show i < 80 by omega), nI_clamp (show i < 2 ^ 31 by omega), k2, par_pI hW hi, ih, wh]
    unfold hol
    cases h : lat A (nI i) tick (ae A) with
    | none => rfl
    | some k =>
      have hk := lat_lt h
      have hp := (hW.2.2.2.2.2.2.1 k hk).1
      have l2 := (hL.2 k hk).2.1
      rw [show pI (some k) = nI k from rfl, if_neg (nI_pos (by omega)), oA52 h60 (by omega), gd_t, nI_clamp (by omega), l2]
      simp only [i_lt, i_eq, li_0, li_m1, gd_t]
      by_cases c : (aI A 52 k).toInt = -1
      · rw [if_pos (by omega), if_pos c]
      · rw [if_neg (by omega), if_neg c]
-- WHERE
theorem P_where {u : Mm} (hI : Inv u) (p1 p2 : Int32) : Pq (f_X7_where 0 p1 p2) (f_X8_where 33 p1 p2) u := by
  obtain ⟨A, hW, hC, hM⟩ := hI
  obtain ⟨hRC, hN, hS, hF, hT, hPc, hY, hLg, hSh⟩ := id hC
  obtain ⟨hRM, h60, h7, hMs, hMf, hMt, hMy, hMl⟩ := id hM
  have h80 : an A ≤ 80 := hW.1.1
  have hn := hN.1
  by_cases hp : isT A p1
  · obtain ⟨i, hi, rfl⟩ := isT_ex hp
    have ha := at_some hC hW hi
    have hb := fun c => mt_some (MR_k hM c) (Wf_st 0 hW) hi
    by_cases hk : 0 ≤ p2.toInt ∧ p2.toInt ≤ 100000
    · have h1 : L_X7_where_41 0 (nI i) p2 (60 + 2 * i) u (fun a19 _ => some (a19, sI u 0 5 0)) 1000 (-1) (some (60 + 2 * i)) = some (wh A p2 (line A i), sI u 0 5 0) := where_l hW hC (nI i) p2 (60 + 2 * i) (k := fun a19 => some (a19, sI u 0 5 0)) (some i) (fun j h => by cases h; exact hi) 1000 (by simp only [dpt]; omega)
      have h2 : L_X8_where_42 33 (nI i) p2 (m0 (sI u 0 5 0)) (fun _ => some (-1, m0 (sI u 0 5 0))) 1000 (nI i) = some (wh A p2 (line A i), m0 (sI u 0 5 0)) := by
        have := where8_l (Wf_st 0 hW) (MR_k hM 0) (nI i) p2 (some i) (fun j h => by cases h; exact hi) 1000 (by simp only [dpt]; omega)
        rw [wh_st, show lineO (st A 0) (some i) = line A i from line_st A 0 i] at this
        exact this
      generalize wh A p2 (line A i) = v at h1 h2
      clear hT hMt hSh hY hMy hPc hF hMf hS hMs
      refine leaf_s1 (A := A) v 0 hW hC hM ?_ ?_
      · simp (disch := omega) only [f_X7_where, ha, wi_t (p := p2) (a := 0) (b := 100000) u (by rw [li_0, li_100000]; exact hk), h1, f_X7_answer, gd_t, bb_e, bd_s, cs_n, cs_s, okO_sI, okO_sL, okO_sR, okO_rI, okO_rL, okA_sI, okA_sL, okA_sR, okA_rI, okA_rL, gI_sI, gI_sL, gI_sR, gI_rI, gI_rL, gL_sI, gL_sL, gL_sR, gL_rI, gL_rL, gR_sI, gR_sL, gR_sR, gR_rI, gR_rL, oT, oS, oY, oYn, i_lt, i_le, i_eq, nI_toInt, nI_clamp, ↓reduceIte, false_and, and_false, and_self, true_and, and_true, if_pos, if_neg, ite_self, isB_0, isB_1, ix6, ix40, li_0, li_1, li_2, li_3, li_4, li_5, li_6, li_7, li_8, li_9, li_10, li_11, li_12, li_15, li_16, li_20, li_39, li_40, li_80, li_200, li_400, li_999, li_9999, li_100000, li_200000, li_300000, li_65535, li_m1, oO0 h60, oO2 h60, oO6 h60, oO10 h60, oO11 h60, oO14 h60, oO21 h60, oA1 h60, oA3 h60, oA4 h60, oA5 h60, oA7 h60, oA8 h60, oA9 h60, oA12 h60, oA13 h60, oA15 h60, oA16 h60, oA17 h60, oA18 h60, oA19 h60, oA20 h60, oA22 h60, oA23 h60, oA24 h60, rc_0_0 hRC, rc_0_1 hRC, rc_0_2 hRC, rc_0_3 hRC, rc_0_4 hRC, rc_2_0 hRC, rc_2_2 hRC, rc_2_3 hRC, rc_6_0 hRC, rc_6_1 hRC, rc_6_2 hRC, rc_10_0 hRC, rc_10_1 hRC, rc_10_2 hRC, rc_10_3 hRC, rc_10_4 hRC, rc_10_5 hRC, rc_11_0 hRC, rc_11_1 hRC, rc_14_0 hRC, rc_14_1 hRC, rc_21_0 hRC, rc_21_1 hRC, rc_21_2 hRC]
      · simp (disch := omega) only [f_X8_where, hb 0, h2, gd_t, bb_e, bd_s, cs_n, cs_s, okO_sI, okO_sL, okO_sR, okO_rI, okO_rL, okA_sI, okA_sL, okA_sR, okA_rI, okA_rL, gI_sI, gI_sL, gI_sR, gI_rI, gI_rL, gL_sI, gL_sL, gL_sR, gL_rI, gL_rL, gR_sI, gR_sL, gR_sR, gR_rI, gR_rL, oT, oS, oY, oYn, i_lt, i_le, i_eq, nI_toInt, nI_clamp, ↓reduceIte, false_and, and_false, and_self, true_and, and_true, if_pos, if_neg, ite_self, isB_0, isB_1, ix6, ix40, li_0, li_1, li_2, li_3, li_4, li_5, li_6, li_7, li_8, li_9, li_10, li_11, li_12, li_15, li_16, li_20, li_39, li_40, li_80, li_200, li_400, li_999, li_9999, li_100000, li_200000, li_300000, li_65535, li_m1, oO33 h60, oA34 h60, oA35 h60, oA36 h60, oA37 h60, oA38 h60, oA39 h60, oA40 h60, oA41 h60, oA42 h60, oA43 h60, oA44 h60, oA45 h60, oA46 h60, oA47 h60, oA48 h60, oA49 h60, oA50 h60, oA51 h60, oA52 h60, oA53 h60, oA54 h60, oA55 h60, oA56 h60, oA57 h60, oA58 h60, oA59 h60, rm_4 hRM, rm_5 hRM, rm_6 hRM, rm_8 hRM, rm_9 hRM, rm_10 hRM, rm_11 hRM, rm_12 hRM, rm_13 hRM, rm_14 hRM, rm_15 hRM, rm_16 hRM, rm_17 hRM, rm_18 hRM, rm_19 hRM, rm_20 hRM, rm_21 hRM, rm_23 hRM, rm_24 hRM, rm_25 hRM, rm_26 hRM, rm_27 hRM, rm_28 hRM, rm_29 hRM, rm_30 hRM, rm_32 hRM]
    · refine leaf_st (A := A) (-1) 5 0 hW hC hM ?_ ?_
      · simp (disch := omega) only [f_X7_where, ha, wi_f (p := p2) (a := 0) (b := 100000) u (by rw [li_0, li_100000]; exact hk), f_X7_refuse, gd_t, bb_e, bd_s, cs_n, cs_s, okO_sI, okO_sL, okO_sR, okO_rI, okO_rL, okA_sI, okA_sL, okA_sR, okA_rI, okA_rL, gI_sI, gI_sL, gI_sR, gI_rI, gI_rL, gL_sI, gL_sL, gL_sR, gL_rI, gL_rL, gR_sI, gR_sL, gR_sR, gR_rI, gR_rL, oT, oS, oY, oYn, i_lt, i_le, i_eq, nI_toInt, nI_clamp, ↓reduceIte, false_and, and_false, and_self, true_and, and_true, if_pos, if_neg, ite_self, isB_0, isB_1, ix6, ix40, li_0, li_1, li_2, li_3, li_4, li_5, li_6, li_7, li_8, li_9, li_10, li_11, li_12, li_15, li_16, li_20, li_39, li_40, li_80, li_200, li_400, li_999, li_9999, li_100000, li_200000, li_300000, li_65535, li_m1, oO0 h60, oO2 h60, oO6 h60, oO10 h60, oO11 h60, oO14 h60, oO21 h60, oA1 h60, oA3 h60, oA4 h60, oA5 h60, oA7 h60, oA8 h60, oA9 h60, oA12 h60, oA13 h60, oA15 h60, oA16 h60, oA17 h60, oA18 h60, oA19 h60, oA20 h60, oA22 h60, oA23 h60, oA24 h60, rc_0_0 hRC, rc_0_1 hRC, rc_0_2 hRC, rc_0_3 hRC, rc_0_4 hRC, rc_2_0 hRC, rc_2_2 hRC, rc_2_3 hRC, rc_6_0 hRC, rc_6_1 hRC, rc_6_2 hRC, rc_10_0 hRC, rc_10_1 hRC, rc_10_2 hRC, rc_10_3 hRC, rc_10_4 hRC, rc_10_5 hRC, rc_11_0 hRC, rc_11_1 hRC, rc_14_0 hRC, rc_14_1 hRC, rc_21_0 hRC, rc_21_1 hRC, rc_21_2 hRC]
      · by_cases h0 : p2.toInt < 0 <;> simp (disch := omega) only [f_X8_where, hb 5, f_X8_refuse, gd_t, bb_e, bd_s, cs_n, cs_s, okO_sI, okO_sL, okO_sR, okO_rI, okO_rL, okA_sI, okA_sL, okA_sR, okA_rI, okA_rL, gI_sI, gI_sL, gI_sR, gI_rI, gI_rL, gL_sI, gL_sL, gL_sR, gL_rI, gL_rL, gR_sI, gR_sL, gR_sR, gR_rI, gR_rL, oT, oS, oY, oYn, i_lt, i_le, i_eq, nI_toInt, nI_clamp, ↓reduceIte, false_and, and_false, and_self, true_and, and_true, if_pos, if_neg, ite_self, isB_0, isB_1, ix6, ix40, li_0, li_1, li_2, li_3, li_4, li_5, li_6, li_7, li_8, li_9, li_10, li_11, li_12, li_15, li_16, li_20, li_39, li_40, li_80, li_200, li_400, li_999, li_9999, li_100000, li_200000, li_300000, li_65535, li_m1, oO33 h60, oA34 h60, oA35 h60, oA36 h60, oA37 h60, oA38 h60, oA39 h60, oA40 h60, oA41 h60, oA42 h60, oA43 h60, oA44 h60, oA45 h60, oA46 h60, oA47 h60, oA48 h60, oA49 h60, oA50 h60, oA51 h60, oA52 h60, oA53 h60, oA54 h60, oA55 h60, oA56 h60, oA57 h60, oA58 h60, oA59 h60, rm_4 hRM, rm_5 hRM, rm_6 hRM, rm_8 hRM, rm_9 hRM, rm_10 hRM, rm_11 hRM, rm_12 hRM, rm_13 hRM, rm_14 hRM, rm_15 hRM, rm_16 hRM, rm_17 hRM, rm_18 hRM, rm_19 hRM, rm_20 hRM, rm_21 hRM, rm_23 hRM, rm_24 hRM, rm_25 hRM, rm_26 hRM, rm_27 hRM, rm_28 hRM, rm_29 hRM, rm_30 hRM, rm_32 hRM]
  · refine leaf_st (A := A) (-1) 2 0 hW hC hM ?_ ?_
    · simp (disch := omega) only [f_X7_where, at_none hC hW hp, f_X7_refuse, gd_t, bb_e, bd_s, cs_n, cs_s, okO_sI, okO_sL, okO_sR, okO_rI, okO_rL, okA_sI, okA_sL, okA_sR, okA_rI, okA_rL, gI_sI, gI_sL, gI_sR, gI_rI, gI_rL, gL_sI, gL_sL, gL_sR, gL_rI, gL_rL, gR_sI, gR_sL, gR_sR, gR_rI, gR_rL, oT, oS, oY, oYn, i_lt, i_le, i_eq, nI_toInt, nI_clamp, ↓reduceIte, false_and, and_false, and_self, true_and, and_true, if_pos, if_neg, ite_self, isB_0, isB_1, ix6, ix40, li_0, li_1, li_2, li_3, li_4, li_5, li_6, li_7, li_8, li_9, li_10, li_11, li_12, li_15, li_16, li_20, li_39, li_40, li_80, li_200, li_400, li_999, li_9999, li_100000, li_200000, li_300000, li_65535, li_m1, oO0 h60, oO2 h60, oO6 h60, oO10 h60, oO11 h60, oO14 h60, oO21 h60, oA1 h60, oA3 h60, oA4 h60, oA5 h60, oA7 h60, oA8 h60, oA9 h60, oA12 h60, oA13 h60, oA15 h60, oA16 h60, oA17 h60, oA18 h60, oA19 h60, oA20 h60, oA22 h60, oA23 h60, oA24 h60, rc_0_0 hRC, rc_0_1 hRC, rc_0_2 hRC, rc_0_3 hRC, rc_0_4 hRC, rc_2_0 hRC, rc_2_2 hRC, rc_2_3 hRC, rc_6_0 hRC, rc_6_1 hRC, rc_6_2 hRC, rc_10_0 hRC, rc_10_1 hRC, rc_10_2 hRC, rc_10_3 hRC, rc_10_4 hRC, rc_10_5 hRC, rc_11_0 hRC, rc_11_1 hRC, rc_14_0 hRC, rc_14_1 hRC, rc_21_0 hRC, rc_21_1 hRC, rc_21_2 hRC]
    · simp (disch := omega) only [f_X8_where, mt_none (MR_k hM 2) (Wf_st 0 hW) hp, f_X8_refuse, gd_t, bb_e, bd_s, cs_n, cs_s, okO_sI, okO_sL, okO_sR, okO_rI, okO_rL, okA_sI, okA_sL, okA_sR, okA_rI, okA_rL, gI_sI, gI_sL, gI_sR, gI_rI, gI_rL, gL_sI, gL_sL, gL_sR, gL_rI, gL_rL, gR_sI, gR_sL, gR_sR, gR_rI, gR_rL, oT, oS, oY, oYn, i_lt, i_le, i_eq, nI_toInt, nI_clamp, ↓reduceIte, false_and, and_false, and_self, true_and, and_true, if_pos, if_neg, ite_self, isB_0, isB_1, ix6, ix40, li_0, li_1, li_2, li_3, li_4, li_5, li_6, li_7, li_8, li_9, li_10, li_11, li_12, li_15, li_16, li_20, li_39, li_40, li_80, li_200, li_400, li_999, li_9999, li_100000, li_200000, li_300000, li_65535, li_m1, oO33 h60, oA34 h60, oA35 h60, oA36 h60, oA37 h60, oA38 h60, oA39 h60, oA40 h60, oA41 h60, oA42 h60, oA43 h60, oA44 h60, oA45 h60, oA46 h60, oA47 h60, oA48 h60, oA49 h60, oA50 h60, oA51 h60, oA52 h60, oA53 h60, oA54 h60, oA55 h60, oA56 h60, oA57 h60, oA58 h60, oA59 h60, rm_4 hRM, rm_5 hRM, rm_6 hRM, rm_8 hRM, rm_9 hRM, rm_10 hRM, rm_11 hRM, rm_12 hRM, rm_13 hRM, rm_14 hRM, rm_15 hRM, rm_16 hRM, rm_17 hRM, rm_18 hRM, rm_19 hRM, rm_20 hRM, rm_21 hRM, rm_23 hRM, rm_24 hRM, rm_25 hRM, rm_26 hRM, rm_27 hRM, rm_28 hRM, rm_29 hRM, rm_30 hRM, rm_32 hRM]
