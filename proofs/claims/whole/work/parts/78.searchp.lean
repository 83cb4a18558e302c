/-! SEARCH -/
theorem ty_n {v : Mm} {p : Int32} (hp : ¬ (0 ≤ p.toInt ∧ p.toInt < 4)) : f_X8_trayed 33 p v = some 1 := by
  by_cases d1 : p < 0
  · rw [f_X8_trayed, if_pos d1]
  · rw [f_X8_trayed, if_neg d1, if_neg (by rw [i_lt, li_0] at d1; rw [i_lt, li_4]; omega)]
theorem ty_3 {v : Mm} {A : Ab} (hM : MR v A) {t : Nat} (ht : t < 4) (yt : aI A 35 t = -1) : f_X8_trayed 33 (nI t) v = some 3 := by
  obtain ⟨hRM, h60, -, -, -, -, hY, -⟩ := hM
  have e : gI v 35 t = -1 := by rw [← yt]; exact (hY t ht).2.1
  have b1 : ¬ nI t < 0 := nI_pos (by omega)
  have b2 : nI t < 4 := by rw [show (4 : Int32) = nI 4 from rfl]; exact nI_lt ht (by omega)
  have c1 : ¬ (0 : Int32) ≤ -1 := by decide
  simp (disch := first | exact h60 | omega | with_unfolding_all exact h60) only [f_X8_trayed, eq_false b1, eq_true b2, e, eq_false c1, ↓bb_e, ↓c_sI, ↓o_sI, ↓a_sI, ↓c_sL, ↓o_sL, ↓a_sL, ↓c_rI, ↓o_rI, ↓a_rI, ↓c_rL, ↓o_rL, ↓a_rL, ↓c_rngI, ↓o_rngI, ↓a_rngI, ↓c_rngL, ↓o_rngL, ↓a_rngL, ↓bd_s, ↓cs_s, ↓cs_n, ↓gd_t, ↓gB0, ↓gB1, ↓gOT, ↓gAS, ↓gOY, ↓gAY, ↓reduceIte, d10, nI_clamp, nI_1', i0eq, ↓gO33 h60, ↓gA34 h60, ↓gA35 h60, ↓gA36 h60, ↓gA37 h60, ↓gA38 h60, ↓gA39 h60, ↓gA40 h60, ↓gA41 h60, ↓gA42 h60, ↓gA43 h60, ↓gA44 h60, ↓gA45 h60, ↓gA46 h60, ↓gA47 h60, ↓gA48 h60, ↓gA49 h60, ↓gA50 h60, ↓gA51 h60, ↓gA52 h60, ↓gA53 h60, ↓gA54 h60, ↓gA55 h60, ↓gA56 h60, ↓gA57 h60, ↓gA58 h60, ↓gA59 h60, ↓cM_4 hRM, ↓cM_5 hRM, ↓cM_6 hRM, ↓cM_8 hRM, ↓cM_9 hRM, ↓cM_10 hRM, ↓cM_11 hRM, ↓cM_12 hRM, ↓cM_13 hRM, ↓cM_14 hRM, ↓cM_15 hRM, ↓cM_16 hRM, ↓cM_17 hRM, ↓cM_18 hRM, ↓cM_19 hRM, ↓cM_20 hRM, ↓cM_21 hRM, ↓cM_23 hRM, ↓cM_24 hRM, ↓cM_25 hRM, ↓cM_26 hRM, ↓cM_27 hRM, ↓cM_28 hRM, ↓cM_29 hRM, ↓cM_30 hRM, ↓cM_32 hRM, ↓bno8, ↓brf8]
theorem ty_0 {v : Mm} {A : Ab} (hM : MR v A) {t K : Nat} (ht : t < 4) (hK : K ≤ 40) (yt : aI A 35 t = nI K) : f_X8_trayed 33 (nI t) v = some 0 := by
  obtain ⟨hRM, h60, -, -, -, -, hY, -⟩ := hM
  have e : gI v 35 t = nI K := by rw [← yt]; exact (hY t ht).2.1
  have b1 : ¬ nI t < 0 := nI_pos (by omega)
  have b2 : nI t < 4 := by rw [show (4 : Int32) = nI 4 from rfl]; exact nI_lt ht (by omega)
  have c1 : (0 : Int32) ≤ nI K := nI_pos' (by omega)
  simp (disch := first | exact h60 | omega | with_unfolding_all exact h60) only [f_X8_trayed, eq_false b1, eq_true b2, e, eq_true c1, ↓bb_e, ↓c_sI, ↓o_sI, ↓a_sI, ↓c_sL, ↓o_sL, ↓a_sL, ↓c_rI, ↓o_rI, ↓a_rI, ↓c_rL, ↓o_rL, ↓a_rL, ↓c_rngI, ↓o_rngI, ↓a_rngI, ↓c_rngL, ↓o_rngL, ↓a_rngL, ↓bd_s, ↓cs_s, ↓cs_n, ↓gd_t, ↓gB0, ↓gB1, ↓gOT, ↓gAS, ↓gOY, ↓gAY, ↓reduceIte, d10, nI_clamp, nI_1', i0eq, ↓gO33 h60, ↓gA34 h60, ↓gA35 h60, ↓gA36 h60, ↓gA37 h60, ↓gA38 h60, ↓gA39 h60, ↓gA40 h60, ↓gA41 h60, ↓gA42 h60, ↓gA43 h60, ↓gA44 h60, ↓gA45 h60, ↓gA46 h60, ↓gA47 h60, ↓gA48 h60, ↓gA49 h60, ↓gA50 h60, ↓gA51 h60, ↓gA52 h60, ↓gA53 h60, ↓gA54 h60, ↓gA55 h60, ↓gA56 h60, ↓gA57 h60, ↓gA58 h60, ↓gA59 h60, ↓cM_4 hRM, ↓cM_5 hRM, ↓cM_6 hRM, ↓cM_8 hRM, ↓cM_9 hRM, ↓cM_10 hRM, ↓cM_11 hRM, ↓cM_12 hRM, ↓cM_13 hRM, ↓cM_14 hRM, ↓cM_15 hRM, ↓cM_16 hRM, ↓cM_17 hRM, ↓cM_18 hRM, ↓cM_19 hRM, ↓cM_20 hRM, ↓cM_21 hRM, ↓cM_23 hRM, ↓cM_24 hRM, ↓cM_25 hRM, ↓cM_26 hRM, ↓cM_27 hRM, ↓cM_28 hRM, ↓cM_29 hRM, ↓cM_30 hRM, ↓cM_32 hRM, ↓bno8, ↓brf8]
theorem l20 : (20 : Int32).toInt = 20 := by decide
theorem M_searchR {v : Mm} {A : Ab} (hM : MR v A) {t K : Nat} (ht : t < 4) (hK : K ≤ 40) (yt : aI A 35 t = nI K) (p2 p3 c : Int32) (h : (¬ (1 ≤ p2.toInt ∧ p2.toInt ≤ 20) ∧ c = 5) ∨ ∃ m, p2 = nI m ∧ (1 ≤ m ∧ m ≤ 20) ∧ ((¬ 2 * m ≤ K ∧ c = 4) ∨ (2 * m ≤ K ∧ (((∃ i, i < 2 * m ∧ ¬ fit (aL A 36 (40 * t + i))) ∧ c = 5) ∨ ((∀ i, i < 2 * m → fit (aL A 36 (40 * t + i))) ∧ ¬ (0 ≤ p3.toInt ∧ p3.toInt < (m : Int)) ∧ c = 9))))) : f_X8_search 33 (nI t) p2 p3 v = some (-1, sI (m0 v) 33 0 c) := by
  have hty := ty_0 (MR_th 0 hM) ht hK yt
  have hM' := MR_m0 hM
  rw [f_X8_search, oO33 hM.2.1, gd_t, hty, bd_s, show gI (sI (sI v 33 1 0) 33 0 0) 33 0 = 0 from gI_e, if_pos (by decide)]
  unfold m0 at hM' ⊢
  generalize sI (sI v 33 1 0) 33 0 0 = w at *
  obtain ⟨hRM, h60, -, -, -, -, hY, -⟩ := hM'
  have e35 : gI w 35 t = nI K := by rw [← yt]; exact (hY t ht).2.1
  have hSM : SM w t K (fun j => aL A 36 (40 * t + j)) := ⟨hRM, h60, fun j hj => (hY t ht).2.2 K yt hK j hj⟩
  rcases h with ⟨a1, rfl⟩ | ⟨m, rfl, ⟨m1, m2⟩, h⟩
  · by_cases b1 : p2 < 1
    · simp (disch := first | exact h60 | omega | with_unfolding_all exact h60) only [eq_true b1, ↓bb_e, ↓c_sI, ↓o_sI, ↓a_sI, ↓c_sL, ↓o_sL, ↓a_sL, ↓c_rI, ↓o_rI, ↓a_rI, ↓c_rL, ↓o_rL, ↓a_rL, ↓c_rngI, ↓o_rngI, ↓a_rngI, ↓c_rngL, ↓o_rngL, ↓a_rngL, ↓bd_s, ↓cs_s, ↓cs_n, ↓gd_t, ↓gB0, ↓gB1, ↓gOT, ↓gAS, ↓gOY, ↓gAY, ↓reduceIte, d10, nI_clamp, nI_1', i0eq, ↓gO33 h60, ↓gA34 h60, ↓gA35 h60, ↓gA36 h60, ↓gA37 h60, ↓gA38 h60, ↓gA39 h60, ↓gA40 h60, ↓gA41 h60, ↓gA42 h60, ↓gA43 h60, ↓gA44 h60, ↓gA45 h60, ↓gA46 h60, ↓gA47 h60, ↓gA48 h60, ↓gA49 h60, ↓gA50 h60, ↓gA51 h60, ↓gA52 h60, ↓gA53 h60, ↓gA54 h60, ↓gA55 h60, ↓gA56 h60, ↓gA57 h60, ↓gA58 h60, ↓gA59 h60, ↓cM_4 hRM, ↓cM_5 hRM, ↓cM_6 hRM, ↓cM_8 hRM, ↓cM_9 hRM, ↓cM_10 hRM, ↓cM_11 hRM, ↓cM_12 hRM, ↓cM_13 hRM, ↓cM_14 hRM, ↓cM_15 hRM, ↓cM_16 hRM, ↓cM_17 hRM, ↓cM_18 hRM, ↓cM_19 hRM, ↓cM_20 hRM, ↓cM_21 hRM, ↓cM_23 hRM, ↓cM_24 hRM, ↓cM_25 hRM, ↓cM_26 hRM, ↓cM_27 hRM, ↓cM_28 hRM, ↓cM_29 hRM, ↓cM_30 hRM, ↓cM_32 hRM, ↓bno8, ↓brf8]
    · have b2 : ¬ p2 ≤ 20 := by rw [i_lt, li_1] at b1; rw [i_le, l20]; omega
      simp (disch := first | exact h60 | omega | with_unfolding_all exact h60) only [eq_false b1, eq_false b2, ↓bb_e, ↓c_sI, ↓o_sI, ↓a_sI, ↓c_sL, ↓o_sL, ↓a_sL, ↓c_rI, ↓o_rI, ↓a_rI, ↓c_rL, ↓o_rL, ↓a_rL, ↓c_rngI, ↓o_rngI, ↓a_rngI, ↓c_rngL, ↓o_rngL, ↓a_rngL, ↓bd_s, ↓cs_s, ↓cs_n, ↓gd_t, ↓gB0, ↓gB1, ↓gOT, ↓gAS, ↓gOY, ↓gAY, ↓reduceIte, d10, nI_clamp, nI_1', i0eq, ↓gO33 h60, ↓gA34 h60, ↓gA35 h60, ↓gA36 h60, ↓gA37 h60, ↓gA38 h60, ↓gA39 h60, ↓gA40 h60, ↓gA41 h60, ↓gA42 h60, ↓gA43 h60, ↓gA44 h60, ↓gA45 h60, ↓gA46 h60, ↓gA47 h60, ↓gA48 h60, ↓gA49 h60, ↓gA50 h60, ↓gA51 h60, ↓gA52 h60, ↓gA53 h60, ↓gA54 h60, ↓gA55 h60, ↓gA56 h60, ↓gA57 h60, ↓gA58 h60, ↓gA59 h60, ↓cM_4 hRM, ↓cM_5 hRM, ↓cM_6 hRM, ↓cM_8 hRM, ↓cM_9 hRM, ↓cM_10 hRM, ↓cM_11 hRM, ↓cM_12 hRM, ↓cM_13 hRM, ↓cM_14 hRM, ↓cM_15 hRM, ↓cM_16 hRM, ↓cM_17 hRM, ↓cM_18 hRM, ↓cM_19 hRM, ↓cM_20 hRM, ↓cM_21 hRM, ↓cM_23 hRM, ↓cM_24 hRM, ↓cM_25 hRM, ↓cM_26 hRM, ↓cM_27 hRM, ↓cM_28 hRM, ↓cM_29 hRM, ↓cM_30 hRM, ↓cM_32 hRM, ↓bno8, ↓brf8]
  · have b1 : ¬ nI m < 1 := by rw [i_lt, li_1, nI_toInt (by omega)]; omega
    have b2 : nI m ≤ 20 := by rw [i_le, l20, nI_toInt (by omega)]; omega
    rcases h with ⟨h, rfl⟩ | ⟨h, h2⟩
    · have b3 : ¬ nI (2 * m) ≤ nI K := nI_ge (by omega) (by omega)
      simp (disch := first | exact h60 | omega | with_unfolding_all exact h60) only [eq_false b1, eq_true b2, ix2, e35, eq_false b3, ↓bb_e, ↓c_sI, ↓o_sI, ↓a_sI, ↓c_sL, ↓o_sL, ↓a_sL, ↓c_rI, ↓o_rI, ↓a_rI, ↓c_rL, ↓o_rL, ↓a_rL, ↓c_rngI, ↓o_rngI, ↓a_rngI, ↓c_rngL, ↓o_rngL, ↓a_rngL, ↓bd_s, ↓cs_s, ↓cs_n, ↓gd_t, ↓gB0, ↓gB1, ↓gOT, ↓gAS, ↓gOY, ↓gAY, ↓reduceIte, d10, nI_clamp, nI_1', i0eq, ↓gO33 h60, ↓gA34 h60, ↓gA35 h60, ↓gA36 h60, ↓gA37 h60, ↓gA38 h60, ↓gA39 h60, ↓gA40 h60, ↓gA41 h60, ↓gA42 h60, ↓gA43 h60, ↓gA44 h60, ↓gA45 h60, ↓gA46 h60, ↓gA47 h60, ↓gA48 h60, ↓gA49 h60, ↓gA50 h60, ↓gA51 h60, ↓gA52 h60, ↓gA53 h60, ↓gA54 h60, ↓gA55 h60, ↓gA56 h60, ↓gA57 h60, ↓gA58 h60, ↓gA59 h60, ↓cM_4 hRM, ↓cM_5 hRM, ↓cM_6 hRM, ↓cM_8 hRM, ↓cM_9 hRM, ↓cM_10 hRM, ↓cM_11 hRM, ↓cM_12 hRM, ↓cM_13 hRM, ↓cM_14 hRM, ↓cM_15 hRM, ↓cM_16 hRM, ↓cM_17 hRM, ↓cM_18 hRM, ↓cM_19 hRM, ↓cM_20 hRM, ↓cM_21 hRM, ↓cM_23 hRM, ↓cM_24 hRM, ↓cM_25 hRM, ↓cM_26 hRM, ↓cM_27 hRM, ↓cM_28 hRM, ↓cM_29 hRM, ↓cM_30 hRM, ↓cM_32 hRM, ↓bno8, ↓brf8]
    · have b3 : nI (2 * m) ≤ nI K := nI_le h (by omega)
      have ck := fun k => ck_l hSM ht hK h (p3 := p3) (k := k) (2 * m) 1000 0 (by omega) (by omega)
      rw [nI_0] at ck
      rcases h2 with ⟨⟨i, i1, i2⟩, rfl⟩ | ⟨hf, hp, rfl⟩
      · have ck := fun k => (ck k).2 ⟨i, by omega, i1, i2⟩
        simp (disch := first | exact h60 | omega | with_unfolding_all exact h60) only [eq_false b1, eq_true b2, ix2, e35, eq_true b3, ↓ck, ↓bb_e, ↓c_sI, ↓o_sI, ↓a_sI, ↓c_sL, ↓o_sL, ↓a_sL, ↓c_rI, ↓o_rI, ↓a_rI, ↓c_rL, ↓o_rL, ↓a_rL, ↓c_rngI, ↓o_rngI, ↓a_rngI, ↓c_rngL, ↓o_rngL, ↓a_rngL, ↓bd_s, ↓cs_s, ↓cs_n, ↓gd_t, ↓gB0, ↓gB1, ↓gOT, ↓gAS, ↓gOY, ↓gAY, ↓reduceIte, d10, nI_clamp, nI_1', i0eq, ↓gO33 h60, ↓gA34 h60, ↓gA35 h60, ↓gA36 h60, ↓gA37 h60, ↓gA38 h60, ↓gA39 h60, ↓gA40 h60, ↓gA41 h60, ↓gA42 h60, ↓gA43 h60, ↓gA44 h60, ↓gA45 h60, ↓gA46 h60, ↓gA47 h60, ↓gA48 h60, ↓gA49 h60, ↓gA50 h60, ↓gA51 h60, ↓gA52 h60, ↓gA53 h60, ↓gA54 h60, ↓gA55 h60, ↓gA56 h60, ↓gA57 h60, ↓gA58 h60, ↓gA59 h60, ↓cM_4 hRM, ↓cM_5 hRM, ↓cM_6 hRM, ↓cM_8 hRM, ↓cM_9 hRM, ↓cM_10 hRM, ↓cM_11 hRM, ↓cM_12 hRM, ↓cM_13 hRM, ↓cM_14 hRM, ↓cM_15 hRM, ↓cM_16 hRM, ↓cM_17 hRM, ↓cM_18 hRM, ↓cM_19 hRM, ↓cM_20 hRM, ↓cM_21 hRM, ↓cM_23 hRM, ↓cM_24 hRM, ↓cM_25 hRM, ↓cM_26 hRM, ↓cM_27 hRM, ↓cM_28 hRM, ↓cM_29 hRM, ↓cM_30 hRM, ↓cM_32 hRM, ↓bno8, ↓brf8]
      · have ck := fun k => (ck k).1 hf
        by_cases b4 : p3 < 0
        · simp (disch := first | exact h60 | omega | with_unfolding_all exact h60) only [eq_false b1, eq_true b2, ix2, e35, eq_true b3, ↓ck, eq_true b4, ↓bb_e, ↓c_sI, ↓o_sI, ↓a_sI, ↓c_sL, ↓o_sL, ↓a_sL, ↓c_rI, ↓o_rI, ↓a_rI, ↓c_rL, ↓o_rL, ↓a_rL, ↓c_rngI, ↓o_rngI, ↓a_rngI, ↓c_rngL, ↓o_rngL, ↓a_rngL, ↓bd_s, ↓cs_s, ↓cs_n, ↓gd_t, ↓gB0, ↓gB1, ↓gOT, ↓gAS, ↓gOY, ↓gAY, ↓reduceIte, d10, nI_clamp, nI_1', i0eq, ↓gO33 h60, ↓gA34 h60, ↓gA35 h60, ↓gA36 h60, ↓gA37 h60, ↓gA38 h60, ↓gA39 h60, ↓gA40 h60, ↓gA41 h60, ↓gA42 h60, ↓gA43 h60, ↓gA44 h60, ↓gA45 h60, ↓gA46 h60, ↓gA47 h60, ↓gA48 h60, ↓gA49 h60, ↓gA50 h60, ↓gA51 h60, ↓gA52 h60, ↓gA53 h60, ↓gA54 h60, ↓gA55 h60, ↓gA56 h60, ↓gA57 h60, ↓gA58 h60, ↓gA59 h60, ↓cM_4 hRM, ↓cM_5 hRM, ↓cM_6 hRM, ↓cM_8 hRM, ↓cM_9 hRM, ↓cM_10 hRM, ↓cM_11 hRM, ↓cM_12 hRM, ↓cM_13 hRM, ↓cM_14 hRM, ↓cM_15 hRM, ↓cM_16 hRM, ↓cM_17 hRM, ↓cM_18 hRM, ↓cM_19 hRM, ↓cM_20 hRM, ↓cM_21 hRM, ↓cM_23 hRM, ↓cM_24 hRM, ↓cM_25 hRM, ↓cM_26 hRM, ↓cM_27 hRM, ↓cM_28 hRM, ↓cM_29 hRM, ↓cM_30 hRM, ↓cM_32 hRM, ↓bno8, ↓brf8]
        · have b5 : ¬ p3 < nI m := by rw [i_lt, li_0] at b4; rw [i_lt, nI_toInt (by omega)]; omega
          simp (disch := first | exact h60 | omega | with_unfolding_all exact h60) only [eq_false b1, eq_true b2, ix2, e35, eq_true b3, ↓ck, eq_false b4, eq_false b5, ↓bb_e, ↓c_sI, ↓o_sI, ↓a_sI, ↓c_sL, ↓o_sL, ↓a_sL, ↓c_rI, ↓o_rI, ↓a_rI, ↓c_rL, ↓o_rL, ↓a_rL, ↓c_rngI, ↓o_rngI, ↓a_rngI, ↓c_rngL, ↓o_rngL, ↓a_rngL, ↓bd_s, ↓cs_s, ↓cs_n, ↓gd_t, ↓gB0, ↓gB1, ↓gOT, ↓gAS, ↓gOY, ↓gAY, ↓reduceIte, d10, nI_clamp, nI_1', i0eq, ↓gO33 h60, ↓gA34 h60, ↓gA35 h60, ↓gA36 h60, ↓gA37 h60, ↓gA38 h60, ↓gA39 h60, ↓gA40 h60, ↓gA41 h60, ↓gA42 h60, ↓gA43 h60, ↓gA44 h60, ↓gA45 h60, ↓gA46 h60, ↓gA47 h60, ↓gA48 h60, ↓gA49 h60, ↓gA50 h60, ↓gA51 h60, ↓gA52 h60, ↓gA53 h60, ↓gA54 h60, ↓gA55 h60, ↓gA56 h60, ↓gA57 h60, ↓gA58 h60, ↓gA59 h60, ↓cM_4 hRM, ↓cM_5 hRM, ↓cM_6 hRM, ↓cM_8 hRM, ↓cM_9 hRM, ↓cM_10 hRM, ↓cM_11 hRM, ↓cM_12 hRM, ↓cM_13 hRM, ↓cM_14 hRM, ↓cM_15 hRM, ↓cM_16 hRM, ↓cM_17 hRM, ↓cM_18 hRM, ↓cM_19 hRM, ↓cM_20 hRM, ↓cM_21 hRM, ↓cM_23 hRM, ↓cM_24 hRM, ↓cM_25 hRM, ↓cM_26 hRM, ↓cM_27 hRM, ↓cM_28 hRM, ↓cM_29 hRM, ↓cM_30 hRM, ↓cM_32 hRM, ↓bno8, ↓brf8]
theorem M_searchG {v : Mm} {A : Ab} (hM : MR v A) {t K m q : Nat} (ht : t < 4) (hK : K ≤ 40) (yt : aI A 35 t = nI K) (m1 : 1 ≤ m) (m2 : m ≤ 20) (hm : 2 * m ≤ K) (hf : ∀ i, i < 2 * m → fit (aL A 36 (40 * t + i))) (hq : q < m) {wt ct : Nat → Int64} (hwt : wt = fun i => aL A 36 (40 * t + 2 * i)) (hct : ct = fun i => aL A 36 (40 * t + (2 * i + 1))) {r : Int64} (hr : 0 < r.toInt) (he : ∀ (w : Mm) (p1 p2 p3 : Int32) (x y z : Int64) (k : Int64 → Int64 → Option (Int32 × Mm)), L_X8_search_322 33 p1 p2 p3 x y z w k 1000 (wc wt ct (ord wt ct m) m) (cc wt (ord wt ct m) m) = k r 0) : ∃ x, only (m0 v) x 59 59 ∧ f_X8_search 33 (nI t) (nI m) (nI q) v = some (nI (ord wt ct m q), sL (sL x 33 2 (wc wt ct (ord wt ct m) m / r)) 33 3 (cc wt (ord wt ct m) m / r)) := by
  have hty := ty_0 (MR_th 0 hM) ht hK yt
  have hM' := MR_m0 hM
  rw [f_X8_search, oO33 hM.2.1, gd_t, hty, bd_s, show gI (sI (sI v 33 1 0) 33 0 0) 33 0 = 0 from gI_e, if_pos (by decide)]
  unfold m0 at hM' ⊢
  generalize sI (sI v 33 1 0) 33 0 0 = w at *
  obtain ⟨hRM, h60, -, -, -, -, hY, -⟩ := hM'
  have e35 : gI w 35 t = nI K := by rw [← yt]; exact (hY t ht).2.1
  have hSM : SM w t K (fun j => aL A 36 (40 * t + j)) := ⟨hRM, h60, fun j hj => (hY t ht).2.2 K yt hK j hj⟩
  have b1 : ¬ nI m < 1 := by rw [i_lt, li_1, nI_toInt (by omega)]; omega
  have b2 : nI m ≤ 20 := by rw [i_le, l20, nI_toInt (by omega)]; omega
  have b3 : nI (2 * m) ≤ nI K := nI_le hm (by omega)
  have b4 : ¬ nI q < 0 := nI_pos (by omega)
  have b5 : nI q < nI m := nI_lt hq (by omega)
  have ck := fun k => (ck_l hSM ht hK hm (p3 := nI q) (k := k) (2 * m) 1000 0 (by omega) (by omega)).1 hf
  rw [nI_0] at ck
  obtain ⟨x, x1, x2, x3⟩ := as2_l hSM ht hK hm hwt hct (p3 := nI q) (k := fun a56 u57 => L_X8_search_248 33 (nI t) (nI m) (nI q) u57 (fun a76 a77 a78 a79 => L_X8_search_322 33 (nI t) (nI m) (nI q) a76 a77 a78 u57 (fun a83 a84 => gd (decide (¬ a83 = 0)) (gd (okO u57 33 8) (gd (decide (¬ a83 = 0)) (bb (gR (sL (sL u57 33 2 (a77 / a83)) 33 3 (a78 / a83)) 33 32) (fun x88 => cs x88 none (fun k89 => gd (okA (sL (sL u57 33 2 (a77 / a83)) 33 3 (a78 / a83)) k89 9 (nI q)) (some ((gI (sL (sL u57 33 2 (a77 / a83)) 33 3 (a78 / a83)) k89 (Int32.toNatClampNeg (nI q))), (sL (sL u57 33 2 (a77 / a83)) 33 3 (a78 / a83)))))))))) 1000 a77 a78) 1000 (0 : Int64) (0 : Int64) (0 : Int64) 0) m 1000 0 w (by omega) (by omega) only.rf (fun i hi => by omega)
  rw [nI_0] at x3
  have hSx := hSM.only x1
  obtain ⟨xRM, x60, -⟩ := id hSx
  have sm := fun k => sm_l hSx ht hK hm hwt hct (g := ord wt ct m) (fun i hi => ord_lt wt ct m i hi) x2 (p3 := nI q) (k := k) m 1000 0 (by omega) (by omega)
  rw [nI_0] at sm
  have sm : ∀ k, L_X8_search_248 33 (nI t) (nI m) (nI q) x k 1000 0 0 0 0 = k (cc ct (ord wt ct m) m) (wc wt ct (ord wt ct m) m) (cc wt (ord wt ct m) m) (nI m) := sm
  have r0 : ¬ r = 0 := fun e => by rw [e] at hr; exact absurd hr (by decide)
  have eq := x2 q hq
  refine ⟨x, x1, ?_⟩
  simp (disch := first | exact h60 | omega | with_unfolding_all exact h60) only [eq_false b1, eq_true b2, ix2, e35, eq_true b3, ↓ck, eq_false b4, eq_true b5, ↓x3, ↓sm, ↓he, ↓gd_of (decide_eq_true r0), ↓gO33 x60, ↓cM_32 xRM, ↓gA59 x60, gI_sL, eq, ↓bb_e, ↓c_sI, ↓o_sI, ↓a_sI, ↓c_sL, ↓o_sL, ↓a_sL, ↓c_rI, ↓o_rI, ↓a_rI, ↓c_rL, ↓o_rL, ↓a_rL, ↓c_rngI, ↓o_rngI, ↓a_rngI, ↓c_rngL, ↓o_rngL, ↓a_rngL, ↓bd_s, ↓cs_s, ↓cs_n, ↓gd_t, ↓gB0, ↓gB1, ↓gOT, ↓gAS, ↓gOY, ↓gAY, ↓reduceIte, d10, nI_clamp, nI_1', i0eq, ↓gO33 h60, ↓gA34 h60, ↓gA35 h60, ↓gA36 h60, ↓gA37 h60, ↓gA38 h60, ↓gA39 h60, ↓gA40 h60, ↓gA41 h60, ↓gA42 h60, ↓gA43 h60, ↓gA44 h60, ↓gA45 h60, ↓gA46 h60, ↓gA47 h60, ↓gA48 h60, ↓gA49 h60, ↓gA50 h60, ↓gA51 h60, ↓gA52 h60, ↓gA53 h60, ↓gA54 h60, ↓gA55 h60, ↓gA56 h60, ↓gA57 h60, ↓gA58 h60, ↓gA59 h60, ↓cM_4 hRM, ↓cM_5 hRM, ↓cM_6 hRM, ↓cM_8 hRM, ↓cM_9 hRM, ↓cM_10 hRM, ↓cM_11 hRM, ↓cM_12 hRM, ↓cM_13 hRM, ↓cM_14 hRM, ↓cM_15 hRM, ↓cM_16 hRM, ↓cM_17 hRM, ↓cM_18 hRM, ↓cM_19 hRM, ↓cM_20 hRM, ↓cM_21 hRM, ↓cM_23 hRM, ↓cM_24 hRM, ↓cM_25 hRM, ↓cM_26 hRM, ↓cM_27 hRM, ↓cM_28 hRM, ↓cM_29 hRM, ↓cM_30 hRM, ↓cM_32 hRM, ↓bno8, ↓brf8]
theorem P_search {u : Mm} (hI : Inv u) (p1 p2 p3 : Int32) : Pq (f_X7_search 0 p1 p2 p3) (f_X8_search 33 p1 p2 p3) u := by
  obtain ⟨A, hW, hC, hM⟩ := hI
  obtain ⟨hRC, hN, hS, hF, hT, hPc, hY, hLg, hSh⟩ := id hC
  obtain ⟨hRM, h60, h7, hMs, hMf, hMt, hMy, hMl⟩ := id hM
  have h80 : an A ≤ 80 := hW.1.1
  have hn := hN.1
  by_cases h1 : 0 ≤ p1.toInt ∧ p1.toInt < 4
  · obtain ⟨t, ht, rfl⟩ := i_ex2 (n := 4) h1
    have hta := ta_some hC ht
    by_cases yt : aI A 35 t = -1
    · have hms := miss_t hC ht yt
      refine leaf_s1 (A := A) (-1) 3 hW hC hM ?_ ?_
      · simp (disch := first | exact h60 | omega | with_unfolding_all exact h60) only [f_X7_search, ↓bd_of hta, ↓bd_of hms, ↓bb_e, ↓c_sI, ↓o_sI, ↓a_sI, ↓c_sL, ↓o_sL, ↓a_sL, ↓c_rI, ↓o_rI, ↓a_rI, ↓c_rL, ↓o_rL, ↓a_rL, ↓c_rngI, ↓o_rngI, ↓a_rngI, ↓c_rngL, ↓o_rngL, ↓a_rngL, ↓bd_s, ↓cs_s, ↓cs_n, ↓gd_t, ↓gB0, ↓gB1, ↓gOT, ↓gAS, ↓gOY, ↓gAY, ↓reduceIte, d10, nI_clamp, nI_1', i0eq, ↓gO0 h60, ↓gO2 h60, ↓gO6 h60, ↓gO10 h60, ↓gO11 h60, ↓gO14 h60, ↓gO21 h60, ↓gA1 h60, ↓gA3 h60, ↓gA4 h60, ↓gA5 h60, ↓gA7 h60, ↓gA8 h60, ↓gA9 h60, ↓gA12 h60, ↓gA13 h60, ↓gA15 h60, ↓gA16 h60, ↓gA17 h60, ↓gA18 h60, ↓gA19 h60, ↓gA20 h60, ↓gA22 h60, ↓gA23 h60, ↓gA24 h60, ↓cC_0_0 hRC, ↓cC_0_1 hRC, ↓cC_0_2 hRC, ↓cC_0_3 hRC, ↓cC_0_4 hRC, ↓cC_2_0 hRC, ↓cC_2_2 hRC, ↓cC_2_3 hRC, ↓cC_6_0 hRC, ↓cC_6_1 hRC, ↓cC_6_2 hRC, ↓cC_10_0 hRC, ↓cC_10_1 hRC, ↓cC_10_2 hRC, ↓cC_10_3 hRC, ↓cC_10_4 hRC, ↓cC_10_5 hRC, ↓cC_11_0 hRC, ↓cC_11_1 hRC, ↓cC_14_0 hRC, ↓cC_14_1 hRC, ↓cC_21_0 hRC, ↓cC_21_1 hRC, ↓cC_21_2 hRC, ↓bdn7, ↓brf7, ↓bgr7, ↓ban7]
      · have hty := ty_3 (MR_th 0 (hM.keep (keepM.rf.sI (r := 0) (k := 5) (x := 3) (by omega)))) ht yt
        rw [f_X8_search, oO33 (u := sI u 0 5 3) h60, gd_t, hty, bd_s, show gI (sI (sI (sI u 0 5 3) 33 1 0) 33 0 3) 33 0 = 3 from gI_e, if_neg (by decide)]
    · obtain ⟨K, hK, yt⟩ : ∃ k, k ≤ 40 ∧ aI A 35 t = nI k := by
        have := (hW.2.2.2.2.1 t ht).2
        have := i_ne yt
        obtain ⟨k, hk, e⟩ := i_ex2 (p := aI A 35 t) (n := 41) (by omega)
        exact ⟨k, by omega, e⟩
      have hms := miss_f hW hC ht hK yt
      have hyl := yl hC ht hK yt
      have hNu : ∀ j, j < K → gL u (26 + 2 * t) j = aL A 36 (40 * t + j) := fun j hj => by
        rcases hY t ht with ⟨q, -⟩ | ⟨k, k1, k2, k3, k4, k5⟩
        · rw [yt] at q; exact absurd q (nI_m1 (by omega))
        · have e : k = K := nI_ij (by omega) (by omega) (by rw [← k2, yt])
          subst e
          exact k5 j hj
      by_cases a2 : 1 ≤ p2.toInt ∧ p2.toInt ≤ 20
      · obtain ⟨m, m3, rfl⟩ := i_ex2 (p := p2) (n := 21) (by omega)
        rw [nI_toInt (by omega)] at a2
        have m1 : 1 ≤ m := by omega
        have m2 : m ≤ 20 := by omega
        have hw := wi_t (p := nI m) (a := 1) (b := 20) u (by rw [li_1, l20, nI_toInt (by omega)]; omega)
        have hrun := run_t hC ht hyl.2 hK (p := 0) (q := nI (2 * m)) (by rw [nI_toInt (by omega)]; omega)
        by_cases a3 : 2 * m ≤ K
        · rw [if_pos (by rw [li_0, nI_toInt (by omega)]; omega)] at hrun
          have htk : (∃ v, SC u v m (fun i => aL A 36 (40 * t + 2 * i)) (fun i => aL A 36 (40 * t + (2 * i + 1))) ∧ (∀ i, i < 2 * m → fit (aL A 36 (40 * t + i))) ∧ f_X3_takes 21 (gR u (25 + 2 * t) 0) (nI m) u = some (1, v)) ∨ (∃ v, scrL u v ∧ (∃ i, i < 2 * m ∧ ¬ fit (aL A 36 (40 * t + i))) ∧ f_X3_takes 21 (gR u (25 + 2 * t) 0) (nI m) u = some (0, v)) := by
            rw [rc_yn hRC ht]
            rcases tks_l (u := u) (N := fun j => aL A 36 (40 * t + j)) hRC h60 ht hK a3 hNu (k := fun a24 u25 => gd (okO u25 21 3) (some (1, (sI u25 21 3 (nI m))))) m 1000 0 (sI u 21 3 0) (by omega) (by omega) (scrL.rf.sI (by omega)) (fun i hi => by omega) with ⟨v, q1, q2, q3⟩ | ⟨v, q1, q2, q3⟩
            · rw [nI_0] at q3
              have g60 : 60 ≤ v.1 := by rw [q1.1]; exact h60
              refine Or.inl ⟨sI v 21 3 (nI m), ⟨RC_cong hRC (fun r k _ _ h => q1.2.1 r k h), g60, q1.sI (by omega), gI_e, fun i hi => (q2 i hi).1⟩, fun i hi => ?_, ?_⟩
              · obtain ⟨-, f0, f1⟩ := q2 (i / 2) (by omega)
                by_cases c : i % 2 = 0
                · have e : i = 2 * (i / 2) := by omega
                  rw [e]; exact f0
                · have e : i = 2 * (i / 2) + 1 := by omega
                  rw [e]; exact f1
              · rw [f_X3_takes, oO21 h60, gd_t, q3, oO21 g60, gd_t]
            · rw [nI_0] at q3
              exact Or.inr ⟨v, q1, q2, by rw [f_X3_takes, oO21 h60, gd_t, q3]⟩
          rcases htk with ⟨v, hS, hf, htk⟩ | ⟨v, hs, hnf, htk⟩
          · obtain ⟨gRC, g60, hs, h3v, hrows⟩ := id hS
            by_cases a4 : 0 ≤ p3.toInt ∧ p3.toInt < (m : Int)
            · obtain ⟨q, hq, rfl⟩ := i_ex2 a4
              have hw3 := wi_t (p := nI q) (a := 0) (b := nI m - 1) v (by rw [pred_i (by omega), li_0]; omega)
              generalize hwt : (fun i => aL A 36 (40 * t + 2 * i)) = wt at *
              generalize hct : (fun i => aL A 36 (40 * t + (2 * i + 1))) = ct at *
              have hfw : ∀ i, i < m → fit (wt i) ∧ fit (ct i) := fun i hi => by
                rw [← hwt, ← hct]
                exact ⟨hf (2 * i) (by omega), hf (2 * i + 1) (by omega)⟩
              have hfo : ∀ i, i < m → fit (wt (ord wt ct m i)) ∧ fit (ct (ord wt ct m i)) := fun i hi => hfw _ (ord_lt wt ct m i hi)
              obtain ⟨x, x1, x2, x3⟩ := ar2_l m2 hS (k := fun a24 u25 => some u25) m 1000 0 v (by omega) (by omega) only.rf (fun i hi => by omega)
              rw [nI_0] at x3
              have x3 : f_X3_arrange 21 v = some x := x3
              have hSx := hS.only x1
              obtain ⟨xRC, x60, xs, -⟩ := id hSx
              have y1 := wc7_l m2 hSx (g := ord wt ct m) (fun i hi => ord_lt wt ct m i hi) x2 (k := fun a18 a19 a20 => some a19) m 1000 0 (by omega) (by omega)
              rw [nI_0] at y1
              have y1 : f_X3_weightedCosts 21 x = some (wc wt ct (ord wt ct m) m) := y1
              have y2 := ws7_l m2 hSx (k := fun a8 a9 => some a8) m 1000 0 (by omega) (by omega)
              rw [nI_0] at y2
              have y2 : f_X3_weights 21 x = some (cc wt (fun i => i) m) := y2
              rw [← cc_ord wt ct m] at y2
              have w1 := wc_r m2 hfo m (Nat.le_refl _)
              have w2 := cc_r m2 (fun i hi => (hfo i hi).1) m (Nat.le_refl _)
              obtain ⟨r, c, r1, r2, r3, r4⟩ := euc 15 (wc wt ct (ord wt ct m) m) (cc wt (ord wt ct m) m) (by omega) (by omega) (by
                have : (2 : Int) ^ 15 = 32768 := by decide
                omega)
              have hcd : f_X7_commonDivisor (wc wt ct (ord wt ct m) m) (cc wt (ord wt ct m) m) x = some r := by
                have := r3 x (wc wt ct (ord wt ct m) m) (cc wt (ord wt ct m) m) (fun a6 a7 a8 => some a6) 1000 0 (by omega) (by omega)
                rw [nI_0] at this
                exact this
              have r0 : ¬ r = 0 := fun e => by rw [e] at r1; exact absurd r1 (by decide)
              have rl : ¬ lg_cmp r 0 ≤ 0 := by rw [lg_cmp_le, Int64.le_iff_toInt_le, Int64.toInt_zero]; omega
              have hkf : f_X7_keepFraction 0 (wc wt ct (ord wt ct m) m) (cc wt (ord wt ct m) m) x = some (sL (sL x 0 6 (wc wt ct (ord wt ct m) m / r)) 0 7 (cc wt (ord wt ct m) m / r)) := by
                rw [f_X7_keepFraction, hcd, bd_s, if_neg rl, decide_eq_true r0, gd_t, oO0 x60, gd_t, gd_t]
              have e22 := x2 q hq
              have hM1 : MR (sI (sL (sL x 0 6 (wc wt ct (ord wt ct m) m / r)) 0 7 (cc wt (ord wt ct m) m / r)) 0 5 0) A := hM.keep (((xs.keepM.sL (by omega)).sL (by omega)).sI (by omega))
              obtain ⟨z, z1, z2⟩ := M_searchG hM1 ht hK yt m1 m2 a3 hf hq hwt.symm hct.symm r1 (fun w p1 p2 p3 x y z k => r4 w p1 p2 p3 x y z k 1000 (by omega))
              have hCx := CR_fr (wc wt ct (ord wt ct m) m / r) (cc wt (ord wt ct m) m / r) (hC.scrL xs)
              have hMz := MR_fr (wc wt ct (ord wt ct m) m / r) (cc wt (ord wt ct m) m / r) ((MR_m0 hM1).scrM z1.scrM)
              refine leaf_ok (u1 := sL (sL x 0 6 (wc wt ct (ord wt ct m) m / r)) 0 7 (cc wt (ord wt ct m) m / r)) (A' := tL (tL A 33 2 (wc wt ct (ord wt ct m) m / r)) 33 3 (cc wt (ord wt ct m) m / r)) (nI (ord wt ct m q)) ?_ z2 hW hCx hMz (((((keepC.rf.sI (by omega)).sI (by omega)).trans (z1.scrM.keepC)).sL (by omega)).sL (by omega))
              have ra := ban7 (α := Int32 × Mm) (w := sL (sL x 0 6 (wc wt ct (ord wt ct m) m / r)) 0 7 (cc wt (ord wt ct m) m / r)) x60
              simp (disch := first | exact h60 | omega | with_unfolding_all exact h60) only [f_X7_search, ↓bd_of hta, ↓bd_of hms, ↓bd_of hw, ix2, ↓bd_of hrun, ↓bd_of htk, ↓bd_of hw3, ↓gO0 g60, ↓cC_0_4 gRC, ↓gO21 g60, ↓bd_of x3, ↓gO0 x60, ↓cC_0_4 xRC, ↓gO21 x60, ↓bd_of y1, ↓bd_of y2, ↓bd_of hkf, ↓cC_21_0 xRC, ↓gA22 x60, gI_sL, e22, ↓ra, ↓bb_e, ↓c_sI, ↓o_sI, ↓a_sI, ↓c_sL, ↓o_sL, ↓a_sL, ↓c_rI, ↓o_rI, ↓a_rI, ↓c_rL, ↓o_rL, ↓a_rL, ↓c_rngI, ↓o_rngI, ↓a_rngI, ↓c_rngL, ↓o_rngL, ↓a_rngL, ↓bd_s, ↓cs_s, ↓cs_n, ↓gd_t, ↓gB0, ↓gB1, ↓gOT, ↓gAS, ↓gOY, ↓gAY, ↓reduceIte, d10, nI_clamp, nI_1', i0eq, ↓gO0 h60, ↓gO2 h60, ↓gO6 h60, ↓gO10 h60, ↓gO11 h60, ↓gO14 h60, ↓gO21 h60, ↓gA1 h60, ↓gA3 h60, ↓gA4 h60, ↓gA5 h60, ↓gA7 h60, ↓gA8 h60, ↓gA9 h60, ↓gA12 h60, ↓gA13 h60, ↓gA15 h60, ↓gA16 h60, ↓gA17 h60, ↓gA18 h60, ↓gA19 h60, ↓gA20 h60, ↓gA22 h60, ↓gA23 h60, ↓gA24 h60, ↓cC_0_0 hRC, ↓cC_0_1 hRC, ↓cC_0_2 hRC, ↓cC_0_3 hRC, ↓cC_0_4 hRC, ↓cC_2_0 hRC, ↓cC_2_2 hRC, ↓cC_2_3 hRC, ↓cC_6_0 hRC, ↓cC_6_1 hRC, ↓cC_6_2 hRC, ↓cC_10_0 hRC, ↓cC_10_1 hRC, ↓cC_10_2 hRC, ↓cC_10_3 hRC, ↓cC_10_4 hRC, ↓cC_10_5 hRC, ↓cC_11_0 hRC, ↓cC_11_1 hRC, ↓cC_14_0 hRC, ↓cC_14_1 hRC, ↓cC_21_0 hRC, ↓cC_21_1 hRC, ↓cC_21_2 hRC, ↓bdn7, ↓brf7, ↓bgr7, ↓ban7]
            · have hw3 := wi_f (p := p3) (a := 0) (b := nI m - 1) v (by rw [pred_i (by omega), li_0]; omega)
              refine leaf_scL (-1) 9 hW hC hM hs ?_ (M_searchR (hM.keep (hs.keepM.sI (by omega))) ht hK yt _ _ 9 (Or.inr ⟨m, rfl, ⟨m1, m2⟩, Or.inr ⟨a3, Or.inr ⟨hf, a4, rfl⟩⟩⟩))
              simp (disch := first | exact h60 | omega | with_unfolding_all exact h60) only [f_X7_search, ↓bd_of hta, ↓bd_of hms, ↓bd_of hw, ix2, ↓bd_of hrun, ↓bd_of htk, ↓bd_of hw3, ↓gO0 g60, ↓brf7 g60, ↓bb_e, ↓c_sI, ↓o_sI, ↓a_sI, ↓c_sL, ↓o_sL, ↓a_sL, ↓c_rI, ↓o_rI, ↓a_rI, ↓c_rL, ↓o_rL, ↓a_rL, ↓c_rngI, ↓o_rngI, ↓a_rngI, ↓c_rngL, ↓o_rngL, ↓a_rngL, ↓bd_s, ↓cs_s, ↓cs_n, ↓gd_t, ↓gB0, ↓gB1, ↓gOT, ↓gAS, ↓gOY, ↓gAY, ↓reduceIte, d10, nI_clamp, nI_1', i0eq, ↓gO0 h60, ↓gO2 h60, ↓gO6 h60, ↓gO10 h60, ↓gO11 h60, ↓gO14 h60, ↓gO21 h60, ↓gA1 h60, ↓gA3 h60, ↓gA4 h60, ↓gA5 h60, ↓gA7 h60, ↓gA8 h60, ↓gA9 h60, ↓gA12 h60, ↓gA13 h60, ↓gA15 h60, ↓gA16 h60, ↓gA17 h60, ↓gA18 h60, ↓gA19 h60, ↓gA20 h60, ↓gA22 h60, ↓gA23 h60, ↓gA24 h60, ↓cC_0_0 hRC, ↓cC_0_1 hRC, ↓cC_0_2 hRC, ↓cC_0_3 hRC, ↓cC_0_4 hRC, ↓cC_2_0 hRC, ↓cC_2_2 hRC, ↓cC_2_3 hRC, ↓cC_6_0 hRC, ↓cC_6_1 hRC, ↓cC_6_2 hRC, ↓cC_10_0 hRC, ↓cC_10_1 hRC, ↓cC_10_2 hRC, ↓cC_10_3 hRC, ↓cC_10_4 hRC, ↓cC_10_5 hRC, ↓cC_11_0 hRC, ↓cC_11_1 hRC, ↓cC_14_0 hRC, ↓cC_14_1 hRC, ↓cC_21_0 hRC, ↓cC_21_1 hRC, ↓cC_21_2 hRC, ↓bdn7, ↓brf7, ↓bgr7, ↓ban7]
          · have g60 : 60 ≤ v.1 := by rw [hs.1]; exact h60
            refine leaf_scL (-1) 5 hW hC hM hs ?_ (M_searchR (hM.keep (hs.keepM.sI (by omega))) ht hK yt _ _ 5 (Or.inr ⟨m, rfl, ⟨m1, m2⟩, Or.inr ⟨a3, Or.inl ⟨hnf, rfl⟩⟩⟩))
            simp (disch := first | exact h60 | omega | with_unfolding_all exact h60) only [f_X7_search, ↓bd_of hta, ↓bd_of hms, ↓bd_of hw, ix2, ↓bd_of hrun, ↓bd_of htk, ↓gO0 g60, ↓brf7 g60, ↓bb_e, ↓c_sI, ↓o_sI, ↓a_sI, ↓c_sL, ↓o_sL, ↓a_sL, ↓c_rI, ↓o_rI, ↓a_rI, ↓c_rL, ↓o_rL, ↓a_rL, ↓c_rngI, ↓o_rngI, ↓a_rngI, ↓c_rngL, ↓o_rngL, ↓a_rngL, ↓bd_s, ↓cs_s, ↓cs_n, ↓gd_t, ↓gB0, ↓gB1, ↓gOT, ↓gAS, ↓gOY, ↓gAY, ↓reduceIte, d10, nI_clamp, nI_1', i0eq, ↓gO0 h60, ↓gO2 h60, ↓gO6 h60, ↓gO10 h60, ↓gO11 h60, ↓gO14 h60, ↓gO21 h60, ↓gA1 h60, ↓gA3 h60, ↓gA4 h60, ↓gA5 h60, ↓gA7 h60, ↓gA8 h60, ↓gA9 h60, ↓gA12 h60, ↓gA13 h60, ↓gA15 h60, ↓gA16 h60, ↓gA17 h60, ↓gA18 h60, ↓gA19 h60, ↓gA20 h60, ↓gA22 h60, ↓gA23 h60, ↓gA24 h60, ↓cC_0_0 hRC, ↓cC_0_1 hRC, ↓cC_0_2 hRC, ↓cC_0_3 hRC, ↓cC_0_4 hRC, ↓cC_2_0 hRC, ↓cC_2_2 hRC, ↓cC_2_3 hRC, ↓cC_6_0 hRC, ↓cC_6_1 hRC, ↓cC_6_2 hRC, ↓cC_10_0 hRC, ↓cC_10_1 hRC, ↓cC_10_2 hRC, ↓cC_10_3 hRC, ↓cC_10_4 hRC, ↓cC_10_5 hRC, ↓cC_11_0 hRC, ↓cC_11_1 hRC, ↓cC_14_0 hRC, ↓cC_14_1 hRC, ↓cC_21_0 hRC, ↓cC_21_1 hRC, ↓cC_21_2 hRC, ↓bdn7, ↓brf7, ↓bgr7, ↓ban7]
        · rw [if_neg (by rw [li_0, nI_toInt (by omega)]; omega)] at hrun
          refine leaf_scL (-1) 4 hW hC hM scrL.rf ?_ (M_searchR (hM.keep (keepM.rf.sI (by omega))) ht hK yt _ _ 4 (Or.inr ⟨m, rfl, ⟨m1, m2⟩, Or.inl ⟨a3, rfl⟩⟩))
          simp (disch := first | exact h60 | omega | with_unfolding_all exact h60) only [f_X7_search, ↓bd_of hta, ↓bd_of hms, ↓bd_of hw, ix2, ↓bd_of hrun, ↓bb_e, ↓c_sI, ↓o_sI, ↓a_sI, ↓c_sL, ↓o_sL, ↓a_sL, ↓c_rI, ↓o_rI, ↓a_rI, ↓c_rL, ↓o_rL, ↓a_rL, ↓c_rngI, ↓o_rngI, ↓a_rngI, ↓c_rngL, ↓o_rngL, ↓a_rngL, ↓bd_s, ↓cs_s, ↓cs_n, ↓gd_t, ↓gB0, ↓gB1, ↓gOT, ↓gAS, ↓gOY, ↓gAY, ↓reduceIte, d10, nI_clamp, nI_1', i0eq, ↓gO0 h60, ↓gO2 h60, ↓gO6 h60, ↓gO10 h60, ↓gO11 h60, ↓gO14 h60, ↓gO21 h60, ↓gA1 h60, ↓gA3 h60, ↓gA4 h60, ↓gA5 h60, ↓gA7 h60, ↓gA8 h60, ↓gA9 h60, ↓gA12 h60, ↓gA13 h60, ↓gA15 h60, ↓gA16 h60, ↓gA17 h60, ↓gA18 h60, ↓gA19 h60, ↓gA20 h60, ↓gA22 h60, ↓gA23 h60, ↓gA24 h60, ↓cC_0_0 hRC, ↓cC_0_1 hRC, ↓cC_0_2 hRC, ↓cC_0_3 hRC, ↓cC_0_4 hRC, ↓cC_2_0 hRC, ↓cC_2_2 hRC, ↓cC_2_3 hRC, ↓cC_6_0 hRC, ↓cC_6_1 hRC, ↓cC_6_2 hRC, ↓cC_10_0 hRC, ↓cC_10_1 hRC, ↓cC_10_2 hRC, ↓cC_10_3 hRC, ↓cC_10_4 hRC, ↓cC_10_5 hRC, ↓cC_11_0 hRC, ↓cC_11_1 hRC, ↓cC_14_0 hRC, ↓cC_14_1 hRC, ↓cC_21_0 hRC, ↓cC_21_1 hRC, ↓cC_21_2 hRC, ↓bdn7, ↓brf7, ↓bgr7, ↓ban7]
      · have hw := wi_f (p := p2) (a := 1) (b := 20) u (by rw [li_1, l20]; exact a2)
        refine leaf_scL (-1) 5 hW hC hM scrL.rf ?_ (M_searchR (hM.keep (keepM.rf.sI (by omega))) ht hK yt _ _ 5 (Or.inl ⟨a2, rfl⟩))
        simp (disch := first | exact h60 | omega | with_unfolding_all exact h60) only [f_X7_search, ↓bd_of hta, ↓bd_of hms, ↓bd_of hw, ↓bb_e, ↓c_sI, ↓o_sI, ↓a_sI, ↓c_sL, ↓o_sL, ↓a_sL, ↓c_rI, ↓o_rI, ↓a_rI, ↓c_rL, ↓o_rL, ↓a_rL, ↓c_rngI, ↓o_rngI, ↓a_rngI, ↓c_rngL, ↓o_rngL, ↓a_rngL, ↓bd_s, ↓cs_s, ↓cs_n, ↓gd_t, ↓gB0, ↓gB1, ↓gOT, ↓gAS, ↓gOY, ↓gAY, ↓reduceIte, d10, nI_clamp, nI_1', i0eq, ↓gO0 h60, ↓gO2 h60, ↓gO6 h60, ↓gO10 h60, ↓gO11 h60, ↓gO14 h60, ↓gO21 h60, ↓gA1 h60, ↓gA3 h60, ↓gA4 h60, ↓gA5 h60, ↓gA7 h60, ↓gA8 h60, ↓gA9 h60, ↓gA12 h60, ↓gA13 h60, ↓gA15 h60, ↓gA16 h60, ↓gA17 h60, ↓gA18 h60, ↓gA19 h60, ↓gA20 h60, ↓gA22 h60, ↓gA23 h60, ↓gA24 h60, ↓cC_0_0 hRC, ↓cC_0_1 hRC, ↓cC_0_2 hRC, ↓cC_0_3 hRC, ↓cC_0_4 hRC, ↓cC_2_0 hRC, ↓cC_2_2 hRC, ↓cC_2_3 hRC, ↓cC_6_0 hRC, ↓cC_6_1 hRC, ↓cC_6_2 hRC, ↓cC_10_0 hRC, ↓cC_10_1 hRC, ↓cC_10_2 hRC, ↓cC_10_3 hRC, ↓cC_10_4 hRC, ↓cC_10_5 hRC, ↓cC_11_0 hRC, ↓cC_11_1 hRC, ↓cC_14_0 hRC, ↓cC_14_1 hRC, ↓cC_21_0 hRC, ↓cC_21_1 hRC, ↓cC_21_2 hRC, ↓bdn7, ↓brf7, ↓bgr7, ↓ban7]
  · refine leaf_s1 (A := A) (-1) 1 hW hC hM ?_ ?_
    · simp (disch := first | exact h60 | omega | with_unfolding_all exact h60) only [f_X7_search, ↓bd_of (ta_none hC h1), ↓bb_e, ↓c_sI, ↓o_sI, ↓a_sI, ↓c_sL, ↓o_sL, ↓a_sL, ↓c_rI, ↓o_rI, ↓a_rI, ↓c_rL, ↓o_rL, ↓a_rL, ↓c_rngI, ↓o_rngI, ↓a_rngI, ↓c_rngL, ↓o_rngL, ↓a_rngL, ↓bd_s, ↓cs_s, ↓cs_n, ↓gd_t, ↓gB0, ↓gB1, ↓gOT, ↓gAS, ↓gOY, ↓gAY, ↓reduceIte, d10, nI_clamp, nI_1', i0eq, ↓gO0 h60, ↓gO2 h60, ↓gO6 h60, ↓gO10 h60, ↓gO11 h60, ↓gO14 h60, ↓gO21 h60, ↓gA1 h60, ↓gA3 h60, ↓gA4 h60, ↓gA5 h60, ↓gA7 h60, ↓gA8 h60, ↓gA9 h60, ↓gA12 h60, ↓gA13 h60, ↓gA15 h60, ↓gA16 h60, ↓gA17 h60, ↓gA18 h60, ↓gA19 h60, ↓gA20 h60, ↓gA22 h60, ↓gA23 h60, ↓gA24 h60, ↓cC_0_0 hRC, ↓cC_0_1 hRC, ↓cC_0_2 hRC, ↓cC_0_3 hRC, ↓cC_0_4 hRC, ↓cC_2_0 hRC, ↓cC_2_2 hRC, ↓cC_2_3 hRC, ↓cC_6_0 hRC, ↓cC_6_1 hRC, ↓cC_6_2 hRC, ↓cC_10_0 hRC, ↓cC_10_1 hRC, ↓cC_10_2 hRC, ↓cC_10_3 hRC, ↓cC_10_4 hRC, ↓cC_10_5 hRC, ↓cC_11_0 hRC, ↓cC_11_1 hRC, ↓cC_14_0 hRC, ↓cC_14_1 hRC, ↓cC_21_0 hRC, ↓cC_21_1 hRC, ↓cC_21_2 hRC, ↓bdn7, ↓brf7, ↓bgr7, ↓ban7]
    · rw [f_X8_search, oO33 (u := sI u 0 5 1) h60, gd_t, ty_n h1, bd_s, show gI (sI (sI (sI u 0 5 1) 33 1 0) 33 0 1) 33 0 = 1 from gI_e, if_neg (by decide)]
