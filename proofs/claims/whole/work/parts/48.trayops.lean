theorem shp_yn {t : Nat} (ht : t < 4) : shp (26 + 2 * t) = 10 ∧ aln (26 + 2 * t) = 40 := by
  rcases (show t = 0 ∨ t = 1 ∨ t = 2 ∨ t = 3 by omega) with rfl | rfl | rfl | rfl <;> exact ⟨rfl, rfl⟩
theorem yloop {u : Mm} (hRM : RM u) (h60 : 60 ≤ u.1) {t m : Nat} (ht : t < 4) (hm : m ≤ 40) {q : Int32} {k : Int32 → Mm → Option (Int32 × Mm)} : ∀ (d n j : Nat), j + d = m → d < n → L_X8_tray_74 33 (nI t) q (nI m) k n (nI j) (rngL u 36 (40 * t) j 0) = k (nI m) (rngL u 36 (40 * t) m 0) := by
  intro d
  induction d with
  | zero =>
    intro n j h1 h2
    obtain ⟨n, rfl⟩ : ∃ m, n = m + 1 := ⟨n - 1, by omega⟩
    have e : j = m := by omega
    subst e
    rw [L_X8_tray_74, if_pos (nI_le (Nat.le_refl _) (by omega))]
  | succ d ih =>
    intro n j h1 h2
    obtain ⟨n, rfl⟩ : ∃ m, n = m + 1 := ⟨n - 1, by omega⟩
    rw [L_X8_tray_74, if_neg (nI_ge (by omega) (by omega)), okO_rngL, oO33 h60, gd_t, bb_e, gR_rngL, rm_6 hRM, cs_s, okA_rngL, ix40, oA36 h60 (show 40 * t + j < 160 by omega), gd_t, bb_e, nI_clamp (by omega), nI_1', rngL_s]
    exact ih n (j + 1) (by omega) (by omega)
theorem C_trayS {u : Mm} {A : Ab} (hC : CR u A) {t m : Nat} (ht : t < 4) (hm : m ≤ 40) {p2 : Int32} (h2 : 0 ≤ p2.toInt ∧ p2.toInt ≤ 3) : f_X7_tray 0 (nI t) p2 (nI m) u = some (1, sI (rngL (sI (sI u (25 + 2 * t) 1 p2) (25 + 2 * t) 2 (nI m)) (26 + 2 * t) 0 40 0) 0 5 0) := by
  obtain ⟨hRC, hN, -⟩ := id hC
  have hn := hN.1
  have h60 : 60 ≤ u.1 := by omega
  have hf := fill_L (u := sI (sI u (25 + 2 * t) 1 p2) (25 + 2 * t) 2 (nI m)) (r := 26 + 2 * t) (v := 0) (show 26 + 2 * t < u.1 by omega) (shp_yn ht).1 (by rw [(shp_yn ht).2]; omega)
  rw [(shp_yn ht).2] at hf
  simp (disch := omega) only [f_X7_tray, ta_some hC ht, wi_t (p := p2) (a := 0) (b := 3) u (by rw [li_0, li_3]; exact h2), f_X6_renew, rc_yn hRC ht, hf, okO_rngL, f_X7_grant, gd_t, bb_e, bd_s, cs_n, cs_s, okO_sI, okO_sL, okO_sR, okO_rI, okO_rL, okA_sI, okA_sL, okA_sR, okA_rI, okA_rL, gI_sI, gI_sL, gI_sR, gI_rI, gI_rL, gL_sI, gL_sL, gL_sR, gL_rI, gL_rL, gR_sI, gR_sL, gR_sR, gR_rI, gR_rL, oT, oS, oY, oYn, i_lt, i_le, i_eq, nI_toInt, nI_clamp, ↓reduceIte, false_and, and_false, and_self, true_and, and_true, if_pos, if_neg, ite_self, isB_0, isB_1, ix6, ix40, li_0, li_1, li_2, li_3, li_4, li_5, li_6, li_7, li_8, li_9, li_10, li_11, li_12, li_15, li_16, li_20, li_39, li_40, li_80, li_200, li_400, li_999, li_9999, li_100000, li_200000, li_300000, li_65535, li_m1, oO0 h60, oO2 h60, oO6 h60, oO10 h60, oO11 h60, oO14 h60, oO21 h60, oA1 h60, oA3 h60, oA4 h60, oA5 h60, oA7 h60, oA8 h60, oA9 h60, oA12 h60, oA13 h60, oA15 h60, oA16 h60, oA17 h60, oA18 h60, oA19 h60, oA20 h60, oA22 h60, oA23 h60, oA24 h60, rc_0_0 hRC, rc_0_1 hRC, rc_0_2 hRC, rc_0_3 hRC, rc_0_4 hRC, rc_2_0 hRC, rc_2_2 hRC, rc_2_3 hRC, rc_6_0 hRC, rc_6_1 hRC, rc_6_2 hRC, rc_10_0 hRC, rc_10_1 hRC, rc_10_2 hRC, rc_10_3 hRC, rc_10_4 hRC, rc_10_5 hRC, rc_11_0 hRC, rc_11_1 hRC, rc_14_0 hRC, rc_14_1 hRC, rc_21_0 hRC, rc_21_1 hRC, rc_21_2 hRC]
theorem M_trayS {u : Mm} {A : Ab} (hM : MR u A) {t m : Nat} (ht : t < 4) (hm : m ≤ 40) {p2 : Int32} (h2 : 0 ≤ p2.toInt ∧ p2.toInt ≤ 3) : f_X8_tray 33 (nI t) p2 (nI m) u = some (1, rngL (sI (sI (m0 u) 34 t p2) 35 t (nI m)) 36 (40 * t) m 0) := by
  obtain ⟨hRM, h60, -⟩ := id hM
  have hl := yloop (u := sI (sI (m0 u) 34 t p2) 35 t (nI m)) (RM_cong hRM (fun k => rfl)) h60 ht hm (q := p2) (k := fun a26 u27 => some (1, u27)) m 1000 0 (by omega) (by omega)
  rw [rngL_0] at hl
  simp (disch := omega) only [f_X8_tray, gd_t, bb_e, bd_s, cs_n, cs_s, okO_sI, okO_sL, okO_sR, okO_rI, okO_rL, okA_sI, okA_sL, okA_sR, okA_rI, okA_rL, gI_sI, gI_sL, gI_sR, gI_rI, gI_rL, gL_sI, gL_sL, gL_sR, gL_rI, gL_rL, gR_sI, gR_sL, gR_sR, gR_rI, gR_rL, oT, oS, oY, oYn, i_lt, i_le, i_eq, nI_toInt, nI_clamp, ↓reduceIte, false_and, and_false, and_self, true_and, and_true, if_pos, if_neg, ite_self, isB_0, isB_1, ix6, ix40, li_0, li_1, li_2, li_3, li_4, li_5, li_6, li_7, li_8, li_9, li_10, li_11, li_12, li_15, li_16, li_20, li_39, li_40, li_80, li_200, li_400, li_999, li_9999, li_100000, li_200000, li_300000, li_65535, li_m1, oO33 h60, oA34 h60, oA35 h60, oA36 h60, oA37 h60, oA38 h60, oA39 h60, oA40 h60, oA41 h60, oA42 h60, oA43 h60, oA44 h60, oA45 h60, oA46 h60, oA47 h60, oA48 h60, oA49 h60, oA50 h60, oA51 h60, oA52 h60, oA53 h60, oA54 h60, oA55 h60, oA56 h60, oA57 h60, oA58 h60, oA59 h60, rm_4 hRM, rm_5 hRM, rm_6 hRM, rm_8 hRM, rm_9 hRM, rm_10 hRM, rm_11 hRM, rm_12 hRM, rm_13 hRM, rm_14 hRM, rm_15 hRM, rm_16 hRM, rm_17 hRM, rm_18 hRM, rm_19 hRM, rm_20 hRM, rm_21 hRM, rm_23 hRM, rm_24 hRM, rm_25 hRM, rm_26 hRM, rm_27 hRM, rm_28 hRM, rm_29 hRM, rm_30 hRM, rm_32 hRM]
  exact hl
/-- a tray made anew -/
abbrev yA (A : Ab) (t : Nat) (p2 p3 : Int32) : Ab := tI (tI (qL A 36 (fun j => if 40 * t ≤ j ∧ j < 40 * t + 40 then 0 else aL A 36 j)) 34 t p2) 35 t p3
theorem CR_tray {u : Mm} {A : Ab} (hC : CR u A) {t m : Nat} (ht : t < 4) (hm : m ≤ 40) (p2 : Int32) : CR (rngL (sI (sI u (25 + 2 * t) 1 p2) (25 + 2 * t) 2 (nI m)) (26 + 2 * t) 0 40 0) (yA A t p2 (nI m)) := by
  refine CR_y hC rfl (fun _ _ => rfl) (by intro r k h; simp only [gI_rngL, gI_sI]; rw [if_neg (by omega), if_neg (by omega)]) (by intro r k h; rw [gL_rngL, if_neg (by omega)]; rfl) rfl rfl (by intros; first | with_reducible rfl | (simp only [gI_sI, gI_sL, gI_sR, gI_rI, gI_rL, gL_sI, gL_sL, gL_sR, gL_rI, gL_rL, gR_sI, gR_sL, gR_sR, gR_rI, gR_rL, aI_tI, aI_tL, aI_qI, aI_qL, aI_tN, aI_tE, aL_tI, aL_tL, aL_qI, aL_qL, aL_tN, aL_tE, an_tI, an_tL, an_qI, an_qL, an_tN, an_tE, ae_tI, ae_tL, ae_qI, ae_qL, ae_tN, ae_tE] <;> repeat (first | rw [if_neg (by omega)] | rw [if_pos (by omega)]))) (by intros; first | with_reducible rfl | (simp only [gI_sI, gI_sL, gI_sR, gI_rI, gI_rL, gL_sI, gL_sL, gL_sR, gL_rI, gL_rL, gR_sI, gR_sL, gR_sR, gR_rI, gR_rL, aI_tI, aI_tL, aI_qI, aI_qL, aI_tN, aI_tE, aL_tI, aL_tL, aL_qI, aL_qL, aL_tN, aL_tE, an_tI, an_tL, an_qI, an_qL, an_tN, an_tE, ae_tI, ae_tL, ae_qI, ae_qL, ae_tN, ae_tE] <;> repeat (first | rw [if_neg (by omega)] | rw [if_pos (by omega)]))) ?_
  intro s hs
  by_cases e : s = t
  · subst e
    refine Or.inr ⟨m, hm, ?_, ?_, ?_, fun j hj => ?_⟩
    · rw [aI_tI, if_pos ⟨rfl, rfl⟩]
    · rw [gI_rngL, gI_sI, if_neg (by omega), gI_sI, if_pos ⟨rfl, rfl⟩, aI_tI, if_neg (by omega), aI_tI, if_pos ⟨rfl, rfl⟩]
    · rw [gI_rngL, gI_sI, if_pos ⟨rfl, rfl⟩]
    · rw [gL_rngL, if_pos (by omega), aL_tI, aL_tI, aL_qL, if_pos rfl, if_pos (by omega)]
  · have q := y_cases hC hs
    unfold GY1
    simp only [gI_rngL, gL_rngL, gI_sI, gI_sL, gI_sR, gI_rI, gI_rL, gL_sI, gL_sL, gL_sR, gL_rI, gL_rL, gR_sI, gR_sL, gR_sR, gR_rI, gR_rL, aI_tI, aI_tL, aI_qI, aI_qL, aI_tN, aI_tE, aL_tI, aL_tL, aL_qI, aL_qL, aL_tN, aL_tE, an_tI, an_tL, an_qI, an_qL, an_tN, an_tE, ae_tI, ae_tL, ae_qI, ae_qL, ae_tN, ae_tE]
    simp (disch := omega) only [if_neg, e, and_false, ↓reduceIte]
    rcases q with q | ⟨k, q1, q2, q3, q4, q5⟩
    · exact Or.inl q
    · refine Or.inr ⟨k, q1, q2, q3, q4, fun j hj => ?_⟩
      rw [if_neg (by omega)]
      exact q5 j hj
theorem MR_tray {u : Mm} {A : Ab} (hM : MR u A) {t m : Nat} (ht : t < 4) (hm : m ≤ 40) (p2 : Int32) : MR (rngL (sI (sI u 34 t p2) 35 t (nI m)) 36 (40 * t) m 0) (yA A t p2 (nI m)) := by
  refine MR_y hM rfl (fun _ _ => rfl) (by intro r k h; simp only [gI_rngL, gI_sI]; rw [if_neg (by omega), if_neg (by omega)]) (by intro r k h; rw [gL_rngL, if_neg (by omega)]; rfl) rfl rfl (by intros; first | with_reducible rfl | (simp only [gI_sI, gI_sL, gI_sR, gI_rI, gI_rL, gL_sI, gL_sL, gL_sR, gL_rI, gL_rL, gR_sI, gR_sL, gR_sR, gR_rI, gR_rL, aI_tI, aI_tL, aI_qI, aI_qL, aI_tN, aI_tE, aL_tI, aL_tL, aL_qI, aL_qL, aL_tN, aL_tE, an_tI, an_tL, an_qI, an_qL, an_tN, an_tE, ae_tI, ae_tL, ae_qI, ae_qL, ae_tN, ae_tE] <;> repeat (first | rw [if_neg (by omega)] | rw [if_pos (by omega)]))) (by intros; first | with_reducible rfl | (simp only [gI_sI, gI_sL, gI_sR, gI_rI, gI_rL, gL_sI, gL_sL, gL_sR, gL_rI, gL_rL, gR_sI, gR_sL, gR_sR, gR_rI, gR_rL, aI_tI, aI_tL, aI_qI, aI_qL, aI_tN, aI_tE, aL_tI, aL_tL, aL_qI, aL_qL, aL_tN, aL_tE, an_tI, an_tL, an_qI, an_qL, an_tN, an_tE, ae_tI, ae_tL, ae_qI, ae_qL, ae_tN, ae_tE] <;> repeat (first | rw [if_neg (by omega)] | rw [if_pos (by omega)]))) ?_
  obtain ⟨-, -, -, -, -, -, hy, -⟩ := hM
  intro s hs
  by_cases e : s = t
  · subst e
    refine ⟨?_, ?_, fun k h1 h2 j hj => ?_⟩
    · simp only [gI_rngL, gI_sI, gI_sL, gI_sR, gI_rI, gI_rL, gL_sI, gL_sL, gL_sR, gL_rI, gL_rL, gR_sI, gR_sL, gR_sR, gR_rI, gR_rL, aI_tI, aI_tL, aI_qI, aI_qL, aI_tN, aI_tE, aL_tI, aL_tL, aL_qI, aL_qL, aL_tN, aL_tE, an_tI, an_tL, an_qI, an_qL, an_tN, an_tE, ae_tI, ae_tL, ae_qI, ae_qL, ae_tN, ae_tE]; simp
    · simp only [gI_rngL, gI_sI, gI_sL, gI_sR, gI_rI, gI_rL, gL_sI, gL_sL, gL_sR, gL_rI, gL_rL, gR_sI, gR_sL, gR_sR, gR_rI, gR_rL, aI_tI, aI_tL, aI_qI, aI_qL, aI_tN, aI_tE, aL_tI, aL_tL, aL_qI, aL_qL, aL_tN, aL_tE, an_tI, an_tL, an_qI, an_qL, an_tN, an_tE, ae_tI, ae_tL, ae_qI, ae_qL, ae_tN, ae_tE]; simp
    · rw [aI_tI, if_pos ⟨rfl, rfl⟩, nI_eq (by omega) (by omega)] at h1
      rw [gL_rngL, if_pos (by omega), aL_tI, aL_tI, aL_qL, if_pos rfl, if_pos (by omega)]
  · obtain ⟨q1, q2, q3⟩ := hy s hs
    simp only [gI_rngL, gL_rngL, gI_sI, gI_sL, gI_sR, gI_rI, gI_rL, gL_sI, gL_sL, gL_sR, gL_rI, gL_rL, gR_sI, gR_sL, gR_sR, gR_rI, gR_rL, aI_tI, aI_tL, aI_qI, aI_qL, aI_tN, aI_tE, aL_tI, aL_tL, aL_qI, aL_qL, aL_tN, aL_tE, an_tI, an_tL, an_qI, an_qL, an_tN, an_tE, ae_tI, ae_tL, ae_qI, ae_qL, ae_tN, ae_tE]
    simp (disch := omega) only [if_neg, e, and_false, ↓reduceIte]
    refine ⟨q1, q2, fun k h1 h2 j hj => ?_⟩
    rw [if_neg (by omega), if_neg (by omega)]
    exact q3 k h1 h2 j hj
theorem Wf_tray {A : Ab} (hW : Wf A) {t m : Nat} (hm : m ≤ 40) {p2 : Int32} (h2 : 0 ≤ p2.toInt ∧ p2.toInt ≤ 3) : Wf (yA A t p2 (nI m)) := by
  refine Wf_y hW rfl rfl (by intros; first | with_reducible rfl | (simp only [gI_sI, gI_sL, gI_sR, gI_rI, gI_rL, gL_sI, gL_sL, gL_sR, gL_rI, gL_rL, gR_sI, gR_sL, gR_sR, gR_rI, gR_rL, aI_tI, aI_tL, aI_qI, aI_qL, aI_tN, aI_tE, aL_tI, aL_tL, aL_qI, aL_qL, aL_tN, aL_tE, an_tI, an_tL, an_qI, an_qL, an_tN, an_tE, ae_tI, ae_tL, ae_qI, ae_qL, ae_tN, ae_tE] <;> repeat (first | rw [if_neg (by omega)] | rw [if_pos (by omega)]))) ?_
  obtain ⟨-, -, -, -, hy, -⟩ := hW
  intro s hs
  have q := hy s hs
  by_cases e : s = t
  · subst e
    simp only [aI_tI, aI_tL, aI_qI, aI_qL, aI_tN, aI_tE, aL_tI, aL_tL, aL_qI, aL_qL, aL_tN, aL_tE, an_tI, an_tL, an_qI, an_qL, an_tN, an_tE, ae_tI, ae_tL, ae_qI, ae_qL, ae_tN, ae_tE]
    simp only [and_self, ↓reduceIte, Nat.reduceEqDiff, false_and, nI_toInt (show m < 2 ^ 31 by omega)]
    exact ⟨h2, by omega, by omega⟩
  · simp only [aI_tI, aI_tL, aI_qI, aI_qL, aI_tN, aI_tE, aL_tI, aL_tL, aL_qI, aL_qL, aL_tN, aL_tE, an_tI, an_tL, an_qI, an_qL, an_tN, an_tE, ae_tI, ae_tL, ae_qI, ae_qL, ae_tN, ae_tE]
    simp only [e, and_false, ↓reduceIte]
    exact q
theorem qL_st (A : Ab) (r : Nat) (g : Nat → Int64) (c : Int32) : qL (st A c) r g = st (qL A r g) c := rfl
theorem tL_st (A : Ab) (r k : Nat) (v : Int64) (c : Int32) : tL (st A c) r k v = st (tL A r k v) c := rfl
theorem yA_st (A : Ab) (t : Nat) (p2 p3 c : Int32) : yA (st A c) t p2 p3 = st (yA A t p2 p3) c := by
  unfold yA
  rw [← tI_st _ _ _ _ _ (by omega), ← tI_st _ _ _ _ _ (by omega)]
  rfl
-- TRAY
theorem P_tray {u : Mm} (hI : Inv u) (p1 p2 p3 : Int32) : Pq (f_X7_tray 0 p1 p2 p3) (f_X8_tray 33 p1 p2 p3) u := by
  obtain ⟨A, hW, hC, hM⟩ := hI
  obtain ⟨hRC, hN, hS, hF, hT, hPc, hY, hLg, hSh⟩ := id hC
  obtain ⟨hRM, h60, h7, hMs, hMf, hMt, hMy, hMl⟩ := id hM
  have h80 : an A ≤ 80 := hW.1.1
  have hn := hN.1
  by_cases hp : 0 ≤ p1.toInt ∧ p1.toInt < 4
  · obtain ⟨t, ht, rfl⟩ := i_ex2 (n := 4) hp
    by_cases hq : 0 ≤ p2.toInt ∧ p2.toInt ≤ 3
    · by_cases hv : p3.toInt ≤ 40
      · by_cases hw : 0 ≤ p3.toInt
        · obtain ⟨m, hm, rfl⟩ := i_ex2 (n := 41) ⟨hw, by omega⟩
          have hM1 : MR (sI (rngL (sI (sI u (25 + 2 * t) 1 p2) (25 + 2 * t) 2 (nI m)) (26 + 2 * t) 0 40 0) 0 5 0) A := hM.keep ((((keepM.rf.sI (by omega)).sI (by omega)).rngL (by omega)).sI (by omega))
          refine leaf_ok 1 (C_trayS hC ht (by omega) hq) (M_trayS hM1 ht (by omega) hq) (Wf_tray hW (by omega) hq) (CR_tray hC ht (by omega) p2) ?_ (((((keepC.rf.sI (by omega)).sI (by omega)).sI (by omega)).sI (by omega)).rngL (by omega))
          rw [← yA_st]
          exact MR_tray (MR_m0 hM1) ht (by omega) p2
        · refine leaf_st (A := A) 0 6 0 hW hC hM ?_ ?_
          · simp (disch := omega) only [f_X7_tray, ta_some hC ht, wi_t (p := p2) (a := 0) (b := 3) u (by rw [li_0, li_3]; exact hq), f_X7_deny, gd_t, bb_e, bd_s, cs_n, cs_s, okO_sI, okO_sL, okO_sR, okO_rI, okO_rL, okA_sI, okA_sL, okA_sR, okA_rI, okA_rL, gI_sI, gI_sL, gI_sR, gI_rI, gI_rL, gL_sI, gL_sL, gL_sR, gL_rI, gL_rL, gR_sI, gR_sL, gR_sR, gR_rI, gR_rL, oT, oS, oY, oYn, i_lt, i_le, i_eq, nI_toInt, nI_clamp, ↓reduceIte, false_and, and_false, and_self, true_and, and_true, if_pos, if_neg, ite_self, isB_0, isB_1, ix6, ix40, li_0, li_1, li_2, li_3, li_4, li_5, li_6, li_7, li_8, li_9, li_10, li_11, li_12, li_15, li_16, li_20, li_39, li_40, li_80, li_200, li_400, li_999, li_9999, li_100000, li_200000, li_300000, li_65535, li_m1, oO0 h60, oO2 h60, oO6 h60, oO10 h60, oO11 h60, oO14 h60, oO21 h60, oA1 h60, oA3 h60, oA4 h60, oA5 h60, oA7 h60, oA8 h60, oA9 h60, oA12 h60, oA13 h60, oA15 h60, oA16 h60, oA17 h60, oA18 h60, oA19 h60, oA20 h60, oA22 h60, oA23 h60, oA24 h60, rc_0_0 hRC, rc_0_1 hRC, rc_0_2 hRC, rc_0_3 hRC, rc_0_4 hRC, rc_2_0 hRC, rc_2_2 hRC, rc_2_3 hRC, rc_6_0 hRC, rc_6_1 hRC, rc_6_2 hRC, rc_10_0 hRC, rc_10_1 hRC, rc_10_2 hRC, rc_10_3 hRC, rc_10_4 hRC, rc_10_5 hRC, rc_11_0 hRC, rc_11_1 hRC, rc_14_0 hRC, rc_14_1 hRC, rc_21_0 hRC, rc_21_1 hRC, rc_21_2 hRC]
          · simp (disch := omega) only [f_X8_tray, f_X8_no, gd_t, bb_e, bd_s, cs_n, cs_s, okO_sI, okO_sL, okO_sR, okO_rI, okO_rL, okA_sI, okA_sL, okA_sR, okA_rI, okA_rL, gI_sI, gI_sL, gI_sR, gI_rI, gI_rL, gL_sI, gL_sL, gL_sR, gL_rI, gL_rL, gR_sI, gR_sL, gR_sR, gR_rI, gR_rL, oT, oS, oY, oYn, i_lt, i_le, i_eq, nI_toInt, nI_clamp, ↓reduceIte, false_and, and_false, and_self, true_and, and_true, if_pos, if_neg, ite_self, isB_0, isB_1, ix6, ix40, li_0, li_1, li_2, li_3, li_4, li_5, li_6, li_7, li_8, li_9, li_10, li_11, li_12, li_15, li_16, li_20, li_39, li_40, li_80, li_200, li_400, li_999, li_9999, li_100000, li_200000, li_300000, li_65535, li_m1, oO33 h60, oA34 h60, oA35 h60, oA36 h60, oA37 h60, oA38 h60, oA39 h60, oA40 h60, oA41 h60, oA42 h60, oA43 h60, oA44 h60, oA45 h60, oA46 h60, oA47 h60, oA48 h60, oA49 h60, oA50 h60, oA51 h60, oA52 h60, oA53 h60, oA54 h60, oA55 h60, oA56 h60, oA57 h60, oA58 h60, oA59 h60, rm_4 hRM, rm_5 hRM, rm_6 hRM, rm_8 hRM, rm_9 hRM, rm_10 hRM, rm_11 hRM, rm_12 hRM, rm_13 hRM, rm_14 hRM, rm_15 hRM, rm_16 hRM, rm_17 hRM, rm_18 hRM, rm_19 hRM, rm_20 hRM, rm_21 hRM, rm_23 hRM, rm_24 hRM, rm_25 hRM, rm_26 hRM, rm_27 hRM, rm_28 hRM, rm_29 hRM, rm_30 hRM, rm_32 hRM]
      · refine leaf_st (A := A) 0 5 0 hW hC hM ?_ ?_
        · simp (disch := omega) only [f_X7_tray, ta_some hC ht, wi_t (p := p2) (a := 0) (b := 3) u (by rw [li_0, li_3]; exact hq), f_X7_deny, gd_t, bb_e, bd_s, cs_n, cs_s, okO_sI, okO_sL, okO_sR, okO_rI, okO_rL, okA_sI, okA_sL, okA_sR, okA_rI, okA_rL, gI_sI, gI_sL, gI_sR, gI_rI, gI_rL, gL_sI, gL_sL, gL_sR, gL_rI, gL_rL, gR_sI, gR_sL, gR_sR, gR_rI, gR_rL, oT, oS, oY, oYn, i_lt, i_le, i_eq, nI_toInt, nI_clamp, ↓reduceIte, false_and, and_false, and_self, true_and, and_true, if_pos, if_neg, ite_self, isB_0, isB_1, ix6, ix40, li_0, li_1, li_2, li_3, li_4, li_5, li_6, li_7, li_8, li_9, li_10, li_11, li_12, li_15, li_16, li_20, li_39, li_40, li_80, li_200, li_400, li_999, li_9999, li_100000, li_200000, li_300000, li_65535, li_m1, oO0 h60, oO2 h60, oO6 h60, oO10 h60, oO11 h60, oO14 h60, oO21 h60, oA1 h60, oA3 h60, oA4 h60, oA5 h60, oA7 h60, oA8 h60, oA9 h60, oA12 h60, oA13 h60, oA15 h60, oA16 h60, oA17 h60, oA18 h60, oA19 h60, oA20 h60, oA22 h60, oA23 h60, oA24 h60, rc_0_0 hRC, rc_0_1 hRC, rc_0_2 hRC, rc_0_3 hRC, rc_0_4 hRC, rc_2_0 hRC, rc_2_2 hRC, rc_2_3 hRC, rc_6_0 hRC, rc_6_1 hRC, rc_6_2 hRC, rc_10_0 hRC, rc_10_1 hRC, rc_10_2 hRC, rc_10_3 hRC, rc_10_4 hRC, rc_10_5 hRC, rc_11_0 hRC, rc_11_1 hRC, rc_14_0 hRC, rc_14_1 hRC, rc_21_0 hRC, rc_21_1 hRC, rc_21_2 hRC]
        · simp (disch := omega) only [f_X8_tray, f_X8_no, gd_t, bb_e, bd_s, cs_n, cs_s, okO_sI, okO_sL, okO_sR, okO_rI, okO_rL, okA_sI, okA_sL, okA_sR, okA_rI, okA_rL, gI_sI, gI_sL, gI_sR, gI_rI, gI_rL, gL_sI, gL_sL, gL_sR, gL_rI, gL_rL, gR_sI, gR_sL, gR_sR, gR_rI, gR_rL, oT, oS, oY, oYn, i_lt, i_le, i_eq, nI_toInt, nI_clamp, ↓reduceIte, false_and, and_false, and_self, true_and, and_true, if_pos, if_neg, ite_self, isB_0, isB_1, ix6, ix40, li_0, li_1, li_2, li_3, li_4, li_5, li_6, li_7, li_8, li_9, li_10, li_11, li_12, li_15, li_16, li_20, li_39, li_40, li_80, li_200, li_400, li_999, li_9999, li_100000, li_200000, li_300000, li_65535, li_m1, oO33 h60, oA34 h60, oA35 h60, oA36 h60, oA37 h60, oA38 h60, oA39 h60, oA40 h60, oA41 h60, oA42 h60, oA43 h60, oA44 h60, oA45 h60, oA46 h60, oA47 h60, oA48 h60, oA49 h60, oA50 h60, oA51 h60, oA52 h60, oA53 h60, oA54 h60, oA55 h60, oA56 h60, oA57 h60, oA58 h60, oA59 h60, rm_4 hRM, rm_5 hRM, rm_6 hRM, rm_8 hRM, rm_9 hRM, rm_10 hRM, rm_11 hRM, rm_12 hRM, rm_13 hRM, rm_14 hRM, rm_15 hRM, rm_16 hRM, rm_17 hRM, rm_18 hRM, rm_19 hRM, rm_20 hRM, rm_21 hRM, rm_23 hRM, rm_24 hRM, rm_25 hRM, rm_26 hRM, rm_27 hRM, rm_28 hRM, rm_29 hRM, rm_30 hRM, rm_32 hRM]
    · refine leaf_st (A := A) 0 1 0 hW hC hM ?_ ?_
      · simp (disch := omega) only [f_X7_tray, ta_some hC ht, wi_f (p := p2) (a := 0) (b := 3) u (by rw [li_0, li_3]; exact hq), f_X7_deny, gd_t, bb_e, bd_s, cs_n, cs_s, okO_sI, okO_sL, okO_sR, okO_rI, okO_rL, okA_sI, okA_sL, okA_sR, okA_rI, okA_rL, gI_sI, gI_sL, gI_sR, gI_rI, gI_rL, gL_sI, gL_sL, gL_sR, gL_rI, gL_rL, gR_sI, gR_sL, gR_sR, gR_rI, gR_rL, oT, oS, oY, oYn, i_lt, i_le, i_eq, nI_toInt, nI_clamp, ↓reduceIte, false_and, and_false, and_self, true_and, and_true, if_pos, if_neg, ite_self, isB_0, isB_1, ix6, ix40, li_0, li_1, li_2, li_3, li_4, li_5, li_6, li_7, li_8, li_9, li_10, li_11, li_12, li_15, li_16, li_20, li_39, li_40, li_80, li_200, li_400, li_999, li_9999, li_100000, li_200000, li_300000, li_65535, li_m1, oO0 h60, oO2 h60, oO6 h60, oO10 h60, oO11 h60, oO14 h60, oO21 h60, oA1 h60, oA3 h60, oA4 h60, oA5 h60, oA7 h60, oA8 h60, oA9 h60, oA12 h60, oA13 h60, oA15 h60, oA16 h60, oA17 h60, oA18 h60, oA19 h60, oA20 h60, oA22 h60, oA23 h60, oA24 h60, rc_0_0 hRC, rc_0_1 hRC, rc_0_2 hRC, rc_0_3 hRC, rc_0_4 hRC, rc_2_0 hRC, rc_2_2 hRC, rc_2_3 hRC, rc_6_0 hRC, rc_6_1 hRC, rc_6_2 hRC, rc_10_0 hRC, rc_10_1 hRC, rc_10_2 hRC, rc_10_3 hRC, rc_10_4 hRC, rc_10_5 hRC, rc_11_0 hRC, rc_11_1 hRC, rc_14_0 hRC, rc_14_1 hRC, rc_21_0 hRC, rc_21_1 hRC, rc_21_2 hRC]
      · by_cases ha : p2.toInt < 0 <;> simp (disch := omega) only [f_X8_tray, f_X8_no, gd_t, bb_e, bd_s, cs_n, cs_s, okO_sI, okO_sL, okO_sR, okO_rI, okO_rL, okA_sI, okA_sL, okA_sR, okA_rI, okA_rL, gI_sI, gI_sL, gI_sR, gI_rI, gI_rL, gL_sI, gL_sL, gL_sR, gL_rI, gL_rL, gR_sI, gR_sL, gR_sR, gR_rI, gR_rL, oT, oS, oY, oYn, i_lt, i_le, i_eq, nI_toInt, nI_clamp, ↓reduceIte, false_and, and_false, and_self, true_and, and_true, if_pos, if_neg, ite_self, isB_0, isB_1, ix6, ix40, li_0, li_1, li_2, li_3, li_4, li_5, li_6, li_7, li_8, li_9, li_10, li_11, li_12, li_15, li_16, li_20, li_39, li_40, li_80, li_200, li_400, li_999, li_9999, li_100000, li_200000, li_300000, li_65535, li_m1, oO33 h60, oA34 h60, oA35 h60, oA36 h60, oA37 h60, oA38 h60, oA39 h60, oA40 h60, oA41 h60, oA42 h60, oA43 h60, oA44 h60, oA45 h60, oA46 h60, oA47 h60, oA48 h60, oA49 h60, oA50 h60, oA51 h60, oA52 h60, oA53 h60, oA54 h60, oA55 h60, oA56 h60, oA57 h60, oA58 h60, oA59 h60, rm_4 hRM, rm_5 hRM, rm_6 hRM, rm_8 hRM, rm_9 hRM, rm_10 hRM, rm_11 hRM, rm_12 hRM, rm_13 hRM, rm_14 hRM, rm_15 hRM, rm_16 hRM, rm_17 hRM, rm_18 hRM, rm_19 hRM, rm_20 hRM, rm_21 hRM, rm_23 hRM, rm_24 hRM, rm_25 hRM, rm_26 hRM, rm_27 hRM, rm_28 hRM, rm_29 hRM, rm_30 hRM, rm_32 hRM]
  · refine leaf_st (A := A) 0 1 0 hW hC hM ?_ ?_
    · simp (disch := omega) only [f_X7_tray, ta_none hC hp, f_X7_deny, gd_t, bb_e, bd_s, cs_n, cs_s, okO_sI, okO_sL, okO_sR, okO_rI, okO_rL, okA_sI, okA_sL, okA_sR, okA_rI, okA_rL, gI_sI, gI_sL, gI_sR, gI_rI, gI_rL, gL_sI, gL_sL, gL_sR, gL_rI, gL_rL, gR_sI, gR_sL, gR_sR, gR_rI, gR_rL, oT, oS, oY, oYn, i_lt, i_le, i_eq, nI_toInt, nI_clamp, ↓reduceIte, false_and, and_false, and_self, true_and, and_true, if_pos, if_neg, ite_self, isB_0, isB_1, ix6, ix40, li_0, li_1, li_2, li_3, li_4, li_5, li_6, li_7, li_8, li_9, li_10, li_11, li_12, li_15, li_16, li_20, li_39, li_40, li_80, li_200, li_400, li_999, li_9999, li_100000, li_200000, li_300000, li_65535, li_m1, oO0 h60, oO2 h60, oO6 h60, oO10 h60, oO11 h60, oO14 h60, oO21 h60, oA1 h60, oA3 h60, oA4 h60, oA5 h60, oA7 h60, oA8 h60, oA9 h60, oA12 h60, oA13 h60, oA15 h60, oA16 h60, oA17 h60, oA18 h60, oA19 h60, oA20 h60, oA22 h60, oA23 h60, oA24 h60, rc_0_0 hRC, rc_0_1 hRC, rc_0_2 hRC, rc_0_3 hRC, rc_0_4 hRC, rc_2_0 hRC, rc_2_2 hRC, rc_2_3 hRC, rc_6_0 hRC, rc_6_1 hRC, rc_6_2 hRC, rc_10_0 hRC, rc_10_1 hRC, rc_10_2 hRC, rc_10_3 hRC, rc_10_4 hRC, rc_10_5 hRC, rc_11_0 hRC, rc_11_1 hRC, rc_14_0 hRC, rc_14_1 hRC, rc_21_0 hRC, rc_21_1 hRC, rc_21_2 hRC]
    · by_cases ha : p1.toInt < 0 <;> simp (disch := omega) only [f_X8_tray, f_X8_no, gd_t, bb_e, bd_s, cs_n, cs_s, okO_sI, okO_sL, okO_sR, okO_rI, okO_rL, okA_sI, okA_sL, okA_sR, okA_rI, okA_rL, gI_sI, gI_sL, gI_sR, gI_rI, gI_rL, gL_sI, gL_sL, gL_sR, gL_rI, gL_rL, gR_sI, gR_sL, gR_sR, gR_rI, gR_rL, oT, oS, oY, oYn, i_lt, i_le, i_eq, nI_toInt, nI_clamp, ↓reduceIte, false_and, and_false, and_self, true_and, and_true, if_pos, if_neg, ite_self, isB_0, isB_1, ix6, ix40, li_0, li_1, li_2, li_3, li_4, li_5, li_6, li_7, li_8, li_9, li_10, li_11, li_12, li_15, li_16, li_20, li_39, li_40, li_80, li_200, li_400, li_999, li_9999, li_100000, li_200000, li_300000, li_65535, li_m1, oO33 h60, oA34 h60, oA35 h60, oA36 h60, oA37 h60, oA38 h60, oA39 h60, oA40 h60, oA41 h60, oA42 h60, oA43 h60, oA44 h60, oA45 h60, oA46 h60, oA47 h60, oA48 h60, oA49 h60, oA50 h60, oA51 h60, oA52 h60, oA53 h60, oA54 h60, oA55 h60, oA56 h60, oA57 h60, oA58 h60, oA59 h60, rm_4 hRM, rm_5 hRM, rm_6 hRM, rm_8 hRM, rm_9 hRM, rm_10 hRM, rm_11 hRM, rm_12 hRM, rm_13 hRM, rm_14 hRM, rm_15 hRM, rm_16 hRM, rm_17 hRM, rm_18 hRM, rm_19 hRM, rm_20 hRM, rm_21 hRM, rm_23 hRM, rm_24 hRM, rm_25 hRM, rm_26 hRM, rm_27 hRM, rm_28 hRM, rm_29 hRM, rm_30 hRM, rm_32 hRM]
