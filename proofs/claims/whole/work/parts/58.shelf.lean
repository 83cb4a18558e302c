/-- nothing but two rows of ints changes -/
def only (u v : Mm) (a b : Nat) : Prop := v.1 = u.1 ∧ (∀ r k, gR v r k = gR u r k) ∧ (∀ r k, gL v r k = gL u r k) ∧ ∀ r k, r ≠ a → r ≠ b → gI v r k = gI u r k
theorem only.rf {u : Mm} {a b : Nat} : only u u a b := ⟨rfl, fun _ _ => rfl, fun _ _ => rfl, fun _ _ _ _ => rfl⟩
theorem only.sI {u v : Mm} {a b r k : Nat} {x : Int32} (h : only u v a b) (hr : r = a ∨ r = b) : only u (sI v r k x) a b := ⟨h.1, h.2.1, h.2.2.1, fun c j h1 h2 => by rw [gI_sI, if_neg (by omega)]; exact h.2.2.2 c j h1 h2⟩
theorem only.keepM {u v : Mm} {a b : Nat} (h : only u v a b) (h1 : a < 33) (h2 : b < 33) : keepM u v := ⟨Nat.le_of_eq h.1.symm, fun r h3 h4 => ⟨fun k => h.2.2.2 r k (by omega) (by omega), fun k => h.2.2.1 r k, fun k => h.2.1 r k⟩⟩

theorem put11 {u : Mm} (hRC : RC u) (h60 : 60 ≤ u.1) {f : Nat → Int32} (hL : Lay u 12 13 f) (hd : ∀ a b, a < 80 → b < 80 → a ≠ b → f a = f b → f a = -1) (hr : ∀ a, a < 80 → -1 ≤ (f a).toInt ∧ (f a).toInt < 40) {i : Nat} (hi : i < 80) {p : Int32} (hp : -1 ≤ p.toInt ∧ p.toInt < 40) :
    ∃ u', f_X1_put 11 (nI i) p u = some u' ∧ Lay u' 12 13 (fun k => if k = i then p else f k) ∧ only u u' 12 13 := by
  have e := hL.1 i hi
  have hri := hr i hi
  obtain ⟨hp1, hp2⟩ := hp
  -- where it stood
  obtain ⟨u1, hu1, h1a, h1b, h1o⟩ : ∃ u1, (u1 = (if (f i).toInt = -1 then u else sI u 13 (f i).toNatClampNeg (-1))) ∧ (∀ k, gI u1 12 k = gI u 12 k) ∧ (∀ q, q < 40 → gI u1 13 q = if f i = nI q then -1 else gI u 13 q) ∧ only u u1 12 13 := by
    refine ⟨_, rfl, ?_, ?_, ?_⟩
    · intro k; split
      · rfl
      · rw [gI_sI, if_neg (by omega)]
    · intro q hq
      split
      · rename_i h
        rw [if_neg (fun e2 => by rw [e2, nI_toInt (by omega)] at h; omega)]
      · rename_i h
        obtain ⟨o, ho, eo⟩ := i_ex2 (p := f i) (n := 40) ⟨by omega, by omega⟩
        rw [eo, nI_clamp (by omega), gI_sI]
        by_cases c : q = o
        · rw [if_pos ⟨rfl, c⟩, if_pos (by rw [c])]
        · rw [if_neg (by omega), if_neg (by rw [nI_eq (by omega) (by omega)]; omega)]
    · split
      · exact only.rf
      · exact only.rf.sI (by omega)
  have h1R := h1o.2.1
  obtain ⟨u3, hu3, h3a, h3b, h3o⟩ : ∃ u3, (u3 = (if p.toInt = -1 then sI u1 12 i p else sI (sI u1 12 i p) 13 p.toNatClampNeg (nI i))) ∧ (∀ k, gI u3 12 k = if k = i then p else gI u1 12 k) ∧ (∀ q, q < 40 → gI u3 13 q = if p = nI q then nI i else gI u1 13 q) ∧ only u u3 12 13 := by
    refine ⟨_, rfl, ?_, ?_, ?_⟩
    · intro k; split
      · rw [gI_sI]; by_cases c : k = i <;> simp [c]
      · rw [gI_sI, if_neg (by omega), gI_sI]; by_cases c : k = i <;> simp [c]
    · intro q hq
      split
      · rename_i h
        rw [if_neg (fun e2 => by rw [e2, nI_toInt (by omega)] at h; omega), gI_sI, if_neg (by omega)]
      · rename_i h
        obtain ⟨o, ho, eo⟩ := i_ex2 (p := p) (n := 40) ⟨by omega, by omega⟩
        rw [eo, nI_clamp (by omega), gI_sI]
        by_cases c : q = o
        · rw [if_pos ⟨rfl, c⟩, if_pos (by rw [c])]
        · rw [if_neg (by omega), if_neg (by rw [nI_eq (by omega) (by omega)]; omega), gI_sI, if_neg (by omega)]
    · split
      · exact h1o.sI (by omega)
      · exact (h1o.sI (by omega)).sI (by omega)
  refine ⟨u3, ?_, ⟨fun k hk => ?_, fun q hq => ?_⟩, h3o⟩
  · rw [hu3, hu1]
    clear hL hd hr h1a h1b h1o h1R h3a h3b h3o hu3 hu1
    by_cases c1 : (f i).toInt = -1
    · by_cases c2 : p.toInt = -1
      · simp (disch := omega) only [f_X1_put, e, gd_t, bb_e, bd_s, cs_n, cs_s, okO_sI, okO_sL, okO_sR, okO_rI, okO_rL, okA_sI, okA_sL, okA_sR, okA_rI, okA_rL, gI_sI, gI_sL, gI_sR, gI_rI, gI_rL, gL_sI, gL_sL, gL_sR, gL_rI, gL_rL, gR_sI, gR_sL, gR_sR, gR_rI, gR_rL, oT, oS, oY, oYn, i_lt, i_le, i_eq, nI_toInt, nI_clamp, ↓reduceIte, false_and, and_false, and_self, true_and, and_true, if_pos, if_neg, ite_self, isB_0, isB_1, ix6, ix40, li_0, li_1, li_2, li_3, li_4, li_5, li_6, li_7, li_8, li_9, li_10, li_11, li_12, li_15, li_16, li_20, li_39, li_40, li_80, li_200, li_400, li_999, li_9999, li_100000, li_200000, li_300000, li_65535, li_m1, oO0 h60, oO2 h60, oO6 h60, oO10 h60, oO11 h60, oO14 h60, oO21 h60, oA1 h60, oA3 h60, oA4 h60, oA5 h60, oA7 h60, oA8 h60, oA9 h60, oA12 h60, oA13 h60, oA15 h60, oA16 h60, oA17 h60, oA18 h60, oA19 h60, oA20 h60, oA22 h60, oA23 h60, oA24 h60, rc_0_0 hRC, rc_0_1 hRC, rc_0_2 hRC, rc_0_3 hRC, rc_0_4 hRC, rc_2_0 hRC, rc_2_2 hRC, rc_2_3 hRC, rc_6_0 hRC, rc_6_1 hRC, rc_6_2 hRC, rc_10_0 hRC, rc_10_1 hRC, rc_10_2 hRC, rc_10_3 hRC, rc_10_4 hRC, rc_10_5 hRC, rc_11_0 hRC, rc_11_1 hRC, rc_14_0 hRC, rc_14_1 hRC, rc_21_0 hRC, rc_21_1 hRC, rc_21_2 hRC]
      · obtain ⟨o, ho, eo⟩ := i_ex2 (p := p) (n := 40) ⟨by omega, by omega⟩
        subst eo
        simp (disch := omega) only [f_X1_put, e, gd_t, bb_e, bd_s, cs_n, cs_s, okO_sI, okO_sL, okO_sR, okO_rI, okO_rL, okA_sI, okA_sL, okA_sR, okA_rI, okA_rL, gI_sI, gI_sL, gI_sR, gI_rI, gI_rL, gL_sI, gL_sL, gL_sR, gL_rI, gL_rL, gR_sI, gR_sL, gR_sR, gR_rI, gR_rL, oT, oS, oY, oYn, i_lt, i_le, i_eq, nI_toInt, nI_clamp, ↓reduceIte, false_and, and_false, and_self, true_and, and_true, if_pos, if_neg, ite_self, isB_0, isB_1, ix6, ix40, li_0, li_1, li_2, li_3, li_4, li_5, li_6, li_7, li_8, li_9, li_10, li_11, li_12, li_15, li_16, li_20, li_39, li_40, li_80, li_200, li_400, li_999, li_9999, li_100000, li_200000, li_300000, li_65535, li_m1, oO0 h60, oO2 h60, oO6 h60, oO10 h60, oO11 h60, oO14 h60, oO21 h60, oA1 h60, oA3 h60, oA4 h60, oA5 h60, oA7 h60, oA8 h60, oA9 h60, oA12 h60, oA13 h60, oA15 h60, oA16 h60, oA17 h60, oA18 h60, oA19 h60, oA20 h60, oA22 h60, oA23 h60, oA24 h60, rc_0_0 hRC, rc_0_1 hRC, rc_0_2 hRC, rc_0_3 hRC, rc_0_4 hRC, rc_2_0 hRC, rc_2_2 hRC, rc_2_3 hRC, rc_6_0 hRC, rc_6_1 hRC, rc_6_2 hRC, rc_10_0 hRC, rc_10_1 hRC, rc_10_2 hRC, rc_10_3 hRC, rc_10_4 hRC, rc_10_5 hRC, rc_11_0 hRC, rc_11_1 hRC, rc_14_0 hRC, rc_14_1 hRC, rc_21_0 hRC, rc_21_1 hRC, rc_21_2 hRC]
    · obtain ⟨s, hs, es⟩ := i_ex2 (p := f i) (n := 40) ⟨by omega, by omega⟩
      rw [es] at c1 e ⊢
      by_cases c2 : p.toInt = -1
      · simp (disch := omega) only [f_X1_put, e, gd_t, bb_e, bd_s, cs_n, cs_s, okO_sI, okO_sL, okO_sR, okO_rI, okO_rL, okA_sI, okA_sL, okA_sR, okA_rI, okA_rL, gI_sI, gI_sL, gI_sR, gI_rI, gI_rL, gL_sI, gL_sL, gL_sR, gL_rI, gL_rL, gR_sI, gR_sL, gR_sR, gR_rI, gR_rL, oT, oS, oY, oYn, i_lt, i_le, i_eq, nI_toInt, nI_clamp, ↓reduceIte, false_and, and_false, and_self, true_and, and_true, if_pos, if_neg, ite_self, isB_0, isB_1, ix6, ix40, li_0, li_1, li_2, li_3, li_4, li_5, li_6, li_7, li_8, li_9, li_10, li_11, li_12, li_15, li_16, li_20, li_39, li_40, li_80, li_200, li_400, li_999, li_9999, li_100000, li_200000, li_300000, li_65535, li_m1, oO0 h60, oO2 h60, oO6 h60, oO10 h60, oO11 h60, oO14 h60, oO21 h60, oA1 h60, oA3 h60, oA4 h60, oA5 h60, oA7 h60, oA8 h60, oA9 h60, oA12 h60, oA13 h60, oA15 h60, oA16 h60, oA17 h60, oA18 h60, oA19 h60, oA20 h60, oA22 h60, oA23 h60, oA24 h60, rc_0_0 hRC, rc_0_1 hRC, rc_0_2 hRC, rc_0_3 hRC, rc_0_4 hRC, rc_2_0 hRC, rc_2_2 hRC, rc_2_3 hRC, rc_6_0 hRC, rc_6_1 hRC, rc_6_2 hRC, rc_10_0 hRC, rc_10_1 hRC, rc_10_2 hRC, rc_10_3 hRC, rc_10_4 hRC, rc_10_5 hRC, rc_11_0 hRC, rc_11_1 hRC, rc_14_0 hRC, rc_14_1 hRC, rc_21_0 hRC, rc_21_1 hRC, rc_21_2 hRC]
      · obtain ⟨o, ho, eo⟩ := i_ex2 (p := p) (n := 40) ⟨by omega, by omega⟩
        subst eo
        simp (disch := omega) only [f_X1_put, e, gd_t, bb_e, bd_s, cs_n, cs_s, okO_sI, okO_sL, okO_sR, okO_rI, okO_rL, okA_sI, okA_sL, okA_sR, okA_rI, okA_rL, gI_sI, gI_sL, gI_sR, gI_rI, gI_rL, gL_sI, gL_sL, gL_sR, gL_rI, gL_rL, gR_sI, gR_sL, gR_sR, gR_rI, gR_rL, oT, oS, oY, oYn, i_lt, i_le, i_eq, nI_toInt, nI_clamp, ↓reduceIte, false_and, and_false, and_self, true_and, and_true, if_pos, if_neg, ite_self, isB_0, isB_1, ix6, ix40, li_0, li_1, li_2, li_3, li_4, li_5, li_6, li_7, li_8, li_9, li_10, li_11, li_12, li_15, li_16, li_20, li_39, li_40, li_80, li_200, li_400, li_999, li_9999, li_100000, li_200000, li_300000, li_65535, li_m1, oO0 h60, oO2 h60, oO6 h60, oO10 h60, oO11 h60, oO14 h60, oO21 h60, oA1 h60, oA3 h60, oA4 h60, oA5 h60, oA7 h60, oA8 h60, oA9 h60, oA12 h60, oA13 h60, oA15 h60, oA16 h60, oA17 h60, oA18 h60, oA19 h60, oA20 h60, oA22 h60, oA23 h60, oA24 h60, rc_0_0 hRC, rc_0_1 hRC, rc_0_2 hRC, rc_0_3 hRC, rc_0_4 hRC, rc_2_0 hRC, rc_2_2 hRC, rc_2_3 hRC, rc_6_0 hRC, rc_6_1 hRC, rc_6_2 hRC, rc_10_0 hRC, rc_10_1 hRC, rc_10_2 hRC, rc_10_3 hRC, rc_10_4 hRC, rc_10_5 hRC, rc_11_0 hRC, rc_11_1 hRC, rc_14_0 hRC, rc_14_1 hRC, rc_21_0 hRC, rc_21_1 hRC, rc_21_2 hRC]
  · rw [h3a, h1a, hL.1 k hk]
  · rw [h3b q hq, h1b q hq]
    by_cases c1 : p = nI q
    · refine Or.inr ⟨i, hi, by rw [if_pos c1], by simp [c1]⟩
    · rw [if_neg c1]
      by_cases c2 : f i = nI q
      · refine Or.inl ⟨by rw [if_pos c2], fun k hk => ?_⟩
        by_cases c3 : k = i
        · simp only [c3, ↓reduceIte]; exact c1
        · simp only [c3, ↓reduceIte]
          intro e3
          have := hd k i hk hi c3 (by rw [e3, c2])
          rw [this] at e3
          rw [i_eq, li_m1, nI_toInt (by omega)] at e3
          omega
      · rw [if_neg c2]
        rcases hL.2 q hq with ⟨g1, g2⟩ | ⟨b, g1, g2, g3⟩
        · refine Or.inl ⟨g1, fun k hk => ?_⟩
          by_cases c3 : k = i
          · simp only [c3, ↓reduceIte]; exact c1
          · simp only [c3, ↓reduceIte]; exact g2 k hk
        · refine Or.inr ⟨b, g1, g2, ?_⟩
          have c3 : b ≠ i := fun e3 => c2 (by rw [← e3]; exact g3)
          simp only [c3, ↓reduceIte]
          exact g3

theorem put14 {u : Mm} (hRC : RC u) (h60 : 60 ≤ u.1) {f : Nat → Int32} (hL : Lay u 15 16 f) (hd : ∀ a b, a < 80 → b < 80 → a ≠ b → f a = f b → f a = -1) (hr : ∀ a, a < 80 → -1 ≤ (f a).toInt ∧ (f a).toInt < 40) {i : Nat} (hi : i < 80) {p : Int32} (hp : -1 ≤ p.toInt ∧ p.toInt < 40) :
    ∃ u', f_X1_put 14 (nI i) p u = some u' ∧ Lay u' 15 16 (fun k => if k = i then p else f k) ∧ only u u' 15 16 := by
  have e := hL.1 i hi
  have hri := hr i hi
  obtain ⟨hp1, hp2⟩ := hp
  -- where it stood
  obtain ⟨u1, hu1, h1a, h1b, h1o⟩ : ∃ u1, (u1 = (if (f i).toInt = -1 then u else sI u 16 (f i).toNatClampNeg (-1))) ∧ (∀ k, gI u1 15 k = gI u 15 k) ∧ (∀ q, q < 40 → gI u1 16 q = if f i = nI q then -1 else gI u 16 q) ∧ only u u1 15 16 := by
    refine ⟨_, rfl, ?_, ?_, ?_⟩
    · intro k; split
      · rfl
      · rw [gI_sI, if_neg (by omega)]
    · intro q hq
      split
      · rename_i h
        rw [if_neg (fun e2 => by rw [e2, nI_toInt (by omega)] at h; omega)]
      · rename_i h
        obtain ⟨o, ho, eo⟩ := i_ex2 (p := f i) (n := 40) ⟨by omega, by omega⟩
        rw [eo, nI_clamp (by omega), gI_sI]
        by_cases c : q = o
        · rw [if_pos ⟨rfl, c⟩, if_pos (by rw [c])]
        · rw [if_neg (by omega), if_neg (by rw [nI_eq (by omega) (by omega)]; omega)]
    · split
      · exact only.rf
      · exact only.rf.sI (by omega)
  have h1R := h1o.2.1
  obtain ⟨u3, hu3, h3a, h3b, h3o⟩ : ∃ u3, (u3 = (if p.toInt = -1 then sI u1 15 i p else sI (sI u1 15 i p) 16 p.toNatClampNeg (nI i))) ∧ (∀ k, gI u3 15 k = if k = i then p else gI u1 15 k) ∧ (∀ q, q < 40 → gI u3 16 q = if p = nI q then nI i else gI u1 16 q) ∧ only u u3 15 16 := by
    refine ⟨_, rfl, ?_, ?_, ?_⟩
    · intro k; split
      · rw [gI_sI]; by_cases c : k = i <;> simp [c]
      · rw [gI_sI, if_neg (by omega), gI_sI]; by_cases c : k = i <;> simp [c]
    · intro q hq
      split
      · rename_i h
        rw [if_neg (fun e2 => by rw [e2, nI_toInt (by omega)] at h; omega), gI_sI, if_neg (by omega)]
      · rename_i h
        obtain ⟨o, ho, eo⟩ := i_ex2 (p := p) (n := 40) ⟨by omega, by omega⟩
        rw [eo, nI_clamp (by omega), gI_sI]
        by_cases c : q = o
        · rw [if_pos ⟨rfl, c⟩, if_pos (by rw [c])]
        · rw [if_neg (by omega), if_neg (by rw [nI_eq (by omega) (by omega)]; omega), gI_sI, if_neg (by omega)]
    · split
      · exact h1o.sI (by omega)
      · exact (h1o.sI (by omega)).sI (by omega)
  refine ⟨u3, ?_, ⟨fun k hk => ?_, fun q hq => ?_⟩, h3o⟩
  · rw [hu3, hu1]
    clear hL hd hr h1a h1b h1o h1R h3a h3b h3o hu3 hu1
    by_cases c1 : (f i).toInt = -1
    · by_cases c2 : p.toInt = -1
      · simp (disch := omega) only [f_X1_put, e, gd_t, bb_e, bd_s, cs_n, cs_s, okO_sI, okO_sL, okO_sR, okO_rI, okO_rL, okA_sI, okA_sL, okA_sR, okA_rI, okA_rL, gI_sI, gI_sL, gI_sR, gI_rI, gI_rL, gL_sI, gL_sL, gL_sR, gL_rI, gL_rL, gR_sI, gR_sL, gR_sR, gR_rI, gR_rL, oT, oS, oY, oYn, i_lt, i_le, i_eq, nI_toInt, nI_clamp, ↓reduceIte, false_and, and_false, and_self, true_and, and_true, if_pos, if_neg, ite_self, isB_0, isB_1, ix6, ix40, li_0, li_1, li_2, li_3, li_4, li_5, li_6, li_7, li_8, li_9, li_10, li_11, li_12, li_15, li_16, li_20, li_39, li_40, li_80, li_200, li_400, li_999, li_9999, li_100000, li_200000, li_300000, li_65535, li_m1, oO0 h60, oO2 h60, oO6 h60, oO10 h60, oO11 h60, oO14 h60, oO21 h60, oA1 h60, oA3 h60, oA4 h60, oA5 h60, oA7 h60, oA8 h60, oA9 h60, oA12 h60, oA13 h60, oA15 h60, oA16 h60, oA17 h60, oA18 h60, oA19 h60, oA20 h60, oA22 h60, oA23 h60, oA24 h60, rc_0_0 hRC, rc_0_1 hRC, rc_0_2 hRC, rc_0_3 hRC, rc_0_4 hRC, rc_2_0 hRC, rc_2_2 hRC, rc_2_3 hRC, rc_6_0 hRC, rc_6_1 hRC, rc_6_2 hRC, rc_10_0 hRC, rc_10_1 hRC, rc_10_2 hRC, rc_10_3 hRC, rc_10_4 hRC, rc_10_5 hRC, rc_11_0 hRC, rc_11_1 hRC, rc_14_0 hRC, rc_14_1 hRC, rc_21_0 hRC, rc_21_1 hRC, rc_21_2 hRC]
      · obtain ⟨o, ho, eo⟩ := i_ex2 (p := p) (n := 40) ⟨by omega, by omega⟩
        subst eo
        simp (disch := omega) only [f_X1_put, e, gd_t, bb_e, bd_s, cs_n, cs_s, okO_sI, okO_sL, okO_sR, okO_rI, okO_rL, okA_sI, okA_sL, okA_sR, okA_rI, okA_rL, gI_sI, gI_sL, gI_sR, gI_rI, gI_rL, gL_sI, gL_sL, gL_sR, gL_rI, gL_rL, gR_sI, gR_sL, gR_sR, gR_rI, gR_rL, oT, oS, oY, oYn, i_lt, i_le, i_eq, nI_toInt, nI_clamp, ↓reduceIte, false_and, and_false, and_self, true_and, and_true, if_pos, if_neg, ite_self, isB_0, isB_1, ix6, ix40, li_0, li_1, li_2, li_3, li_4, li_5, li_6, li_7, li_8, li_9, li_10, li_11, li_12, li_15, li_16, li_20, li_39, li_40, li_80, li_200, li_400, li_999, li_9999, li_100000, li_200000, li_300000, li_65535, li_m1, oO0 h60, oO2 h60, oO6 h60, oO10 h60, oO11 h60, oO14 h60, oO21 h60, oA1 h60, oA3 h60, oA4 h60, oA5 h60, oA7 h60, oA8 h60, oA9 h60, oA12 h60, oA13 h60, oA15 h60, oA16 h60, oA17 h60, oA18 h60, oA19 h60, oA20 h60, oA22 h60, oA23 h60, oA24 h60, rc_0_0 hRC, rc_0_1 hRC, rc_0_2 hRC, rc_0_3 hRC, rc_0_4 hRC, rc_2_0 hRC, rc_2_2 hRC, rc_2_3 hRC, rc_6_0 hRC, rc_6_1 hRC, rc_6_2 hRC, rc_10_0 hRC, rc_10_1 hRC, rc_10_2 hRC, rc_10_3 hRC, rc_10_4 hRC, rc_10_5 hRC, rc_11_0 hRC, rc_11_1 hRC, rc_14_0 hRC, rc_14_1 hRC, rc_21_0 hRC, rc_21_1 hRC, rc_21_2 hRC]
    · obtain ⟨s, hs, es⟩ := i_ex2 (p := f i) (n := 40) ⟨by omega, by omega⟩
      rw [es] at c1 e ⊢
      by_cases c2 : p.toInt = -1
      · simp (disch := omega) only [f_X1_put, e, gd_t, bb_e, bd_s, cs_n, cs_s, okO_sI, okO_sL, okO_sR, okO_rI, okO_rL, okA_sI, okA_sL, okA_sR, okA_rI, okA_rL, gI_sI, gI_sL, gI_sR, gI_rI, gI_rL, gL_sI, gL_sL, gL_sR, gL_rI, gL_rL, gR_sI, gR_sL, gR_sR, gR_rI, gR_rL, oT, oS, oY, oYn, i_lt, i_le, i_eq, nI_toInt, nI_clamp, ↓reduceIte, false_and, and_false, and_self, true_and, and_true, if_pos, if_neg, ite_self, isB_0, isB_1, ix6, ix40, li_0, li_1, li_2, li_3, li_4, li_5, li_6, li_7, li_8, li_9, li_10, li_11, li_12, li_15, li_16, li_20, li_39, li_40, li_80, li_200, li_400, li_999, li_9999, li_100000, li_200000, li_300000, li_65535, li_m1, oO0 h60, oO2 h60, oO6 h60, oO10 h60, oO11 h60, oO14 h60, oO21 h60, oA1 h60, oA3 h60, oA4 h60, oA5 h60, oA7 h60, oA8 h60, oA9 h60, oA12 h60, oA13 h60, oA15 h60, oA16 h60, oA17 h60, oA18 h60, oA19 h60, oA20 h60, oA22 h60, oA23 h60, oA24 h60, rc_0_0 hRC, rc_0_1 hRC, rc_0_2 hRC, rc_0_3 hRC, rc_0_4 hRC, rc_2_0 hRC, rc_2_2 hRC, rc_2_3 hRC, rc_6_0 hRC, rc_6_1 hRC, rc_6_2 hRC, rc_10_0 hRC, rc_10_1 hRC, rc_10_2 hRC, rc_10_3 hRC, rc_10_4 hRC, rc_10_5 hRC, rc_11_0 hRC, rc_11_1 hRC, rc_14_0 hRC, rc_14_1 hRC, rc_21_0 hRC, rc_21_1 hRC, rc_21_2 hRC]
      · obtain ⟨o, ho, eo⟩ := i_ex2 (p := p) (n := 40) ⟨by omega, by omega⟩
        subst eo
        simp (disch := omega) only [f_X1_put, e, gd_t, bb_e, bd_s, cs_n, cs_s, okO_sI, okO_sL, okO_sR, okO_rI, okO_rL, okA_sI, okA_sL, okA_sR, okA_rI, okA_rL, gI_sI, gI_sL, gI_sR, gI_rI, gI_rL, gL_sI, gL_sL, gL_sR, gL_rI, gL_rL, gR_sI, gR_sL, gR_sR, gR_rI, gR_rL, oT, oS, oY, oYn, i_lt, i_le, i_eq, nI_toInt, nI_clamp, ↓reduceIte, false_and, and_false, and_self, true_and, and_true, if_pos, if_neg, ite_self, isB_0, isB_1, ix6, ix40, li_0, li_1, li_2, li_3, li_4, li_5, li_6, li_7, li_8, li_9, li_10, li_11, li_12, li_15, li_16, li_20, li_39, li_40, li_80, li_200, li_400, li_999, li_9999, li_100000, li_200000, li_300000, li_65535, li_m1, oO0 h60, oO2 h60, oO6 h60, oO10 h60, oO11 h60, oO14 h60, oO21 h60, oA1 h60, oA3 h60, oA4 h60, oA5 h60, oA7 h60, oA8 h60, oA9 h60, oA12 h60, oA13 h60, oA15 h60, oA16 h60, oA17 h60, oA18 h60, oA19 h60, oA20 h60, oA22 h60, oA23 h60, oA24 h60, rc_0_0 hRC, rc_0_1 hRC, rc_0_2 hRC, rc_0_3 hRC, rc_0_4 hRC, rc_2_0 hRC, rc_2_2 hRC, rc_2_3 hRC, rc_6_0 hRC, rc_6_1 hRC, rc_6_2 hRC, rc_10_0 hRC, rc_10_1 hRC, rc_10_2 hRC, rc_10_3 hRC, rc_10_4 hRC, rc_10_5 hRC, rc_11_0 hRC, rc_11_1 hRC, rc_14_0 hRC, rc_14_1 hRC, rc_21_0 hRC, rc_21_1 hRC, rc_21_2 hRC]
  · rw [h3a, h1a, hL.1 k hk]
  · rw [h3b q hq, h1b q hq]
    by_cases c1 : p = nI q
    · refine Or.inr ⟨i, hi, by rw [if_pos c1], by simp [c1]⟩
    · rw [if_neg c1]
      by_cases c2 : f i = nI q
      · refine Or.inl ⟨by rw [if_pos c2], fun k hk => ?_⟩
        by_cases c3 : k = i
        · simp only [c3, ↓reduceIte]; exact c1
        · simp only [c3, ↓reduceIte]
          intro e3
          have := hd k i hk hi c3 (by rw [e3, c2])
          rw [this] at e3
          rw [i_eq, li_m1, nI_toInt (by omega)] at e3
          omega
      · rw [if_neg c2]
        rcases hL.2 q hq with ⟨g1, g2⟩ | ⟨b, g1, g2, g3⟩
        · refine Or.inl ⟨g1, fun k hk => ?_⟩
          by_cases c3 : k = i
          · simp only [c3, ↓reduceIte]; exact c1
          · simp only [c3, ↓reduceIte]; exact g2 k hk
        · refine Or.inr ⟨b, g1, g2, ?_⟩
          have c3 : b ≠ i := fun e3 => c2 (by rw [← e3]; exact g3)
          simp only [c3, ↓reduceIte]
          exact g3

theorem plc_range {A : Ab} (hW : Wf A) (a : Nat) : -1 ≤ (plc A a).toInt ∧ (plc A a).toInt < 40 := by
  unfold plc
  split
  · rename_i h
    exact (hW.1.2 a h).2.2.2.2.2.2.2.2.1
  · decide
theorem gol_range {A : Ab} (hW : Wf A) (a : Nat) : -1 ≤ (gol A a).toInt ∧ (gol A a).toInt < 40 := by
  unfold gol
  split
  · rename_i h
    exact (hW.1.2 a h).2.2.2.2.2.2.2.2.2.1
  · decide
theorem plc_dist {A : Ab} (hW : Wf A) (a b : Nat) (hab : a ≠ b) (h : plc A a = plc A b) : plc A a = -1 := by
  unfold plc at h ⊢
  by_cases ha : a < an A
  · rw [if_pos ha] at h ⊢
    by_cases hb : b < an A
    · rw [if_pos hb] at h
      exact hW.2.2.1 a b ha hb hab h
    · rw [if_neg hb] at h
      exact h
  · rw [if_neg ha]
theorem gol_dist {A : Ab} (hW : Wf A) (a b : Nat) (hab : a ≠ b) (h : gol A a = gol A b) : gol A a = -1 := by
  unfold gol at h ⊢
  by_cases ha : a < an A
  · rw [if_pos ha] at h ⊢
    by_cases hb : b < an A
    · rw [if_pos hb] at h
      exact hW.2.2.2.1 a b ha hb hab h
    · rw [if_neg hb] at h
      exact h
  · rw [if_neg ha]
/-- what stands against a box and a place -/
theorem shelf {u : Mm} {A : Ab} (hW : Wf A) (hC : CR u A) (p1 p2 : Int32) : ∃ c : Int32, f_X7_whyNotOnShelf 0 p1 p2 u = some c ∧ (∀ v, MR v A → f_X8_boxed 33 p1 p2 v = some c) ∧ ((c = 0 ∧ ∃ i, i < an A ∧ p1 = nI i ∧ -1 ≤ p2.toInt ∧ p2.toInt < 40) ∨ 0 < c.toInt) := by
  obtain ⟨hRC, hN, -, -, hT, -⟩ := id hC
  have hn := hN.1
  have h60 : 60 ≤ u.1 := by omega
  have h80 := hW.1.1
  by_cases hp : isT A p1
  · obtain ⟨i, hi, rfl⟩ := isT_ex hp
    have ha := at_some hC hW hi
    obtain ⟨-, -, t3, -⟩ := hT i hi
    by_cases hv : -1 ≤ p2.toInt ∧ p2.toInt < 40
    · have hwi := wi_t (p := p2) (a := -1) (b := 39) u (by rw [li_m1, li_39]; omega)
      obtain ⟨hv1, hv2⟩ := hv
      by_cases hl : (aI A 37 i).toInt = 1
      · refine ⟨0, ?_, fun v hM => ?_, Or.inl ⟨rfl, i, hi, rfl, hv1, hv2⟩⟩
        · simp (disch := omega) only [f_X7_whyNotOnShelf, ha, hwi, t3, gd_t, bb_e, bd_s, cs_n, cs_s, okO_sI, okO_sL, okO_sR, okO_rI, okO_rL, okA_sI, okA_sL, okA_sR, okA_rI, okA_rL, gI_sI, gI_sL, gI_sR, gI_rI, gI_rL, gL_sI, gL_sL, gL_sR, gL_rI, gL_rL, gR_sI, gR_sL, gR_sR, gR_rI, gR_rL, oT, oS, oY, oYn, i_lt, i_le, i_eq, nI_toInt, nI_clamp, ↓reduceIte, false_and, and_false, and_self, true_and, and_true, if_pos, if_neg, ite_self, isB_0, isB_1, ix6, ix40, li_0, li_1, li_2, li_3, li_4, li_5, li_6, li_7, li_8, li_9, li_10, li_11, li_12, li_15, li_16, li_20, li_39, li_40, li_80, li_200, li_400, li_999, li_9999, li_100000, li_200000, li_300000, li_65535, li_m1, oO0 h60, oO2 h60, oO6 h60, oO10 h60, oO11 h60, oO14 h60, oO21 h60, oA1 h60, oA3 h60, oA4 h60, oA5 h60, oA7 h60, oA8 h60, oA9 h60, oA12 h60, oA13 h60, oA15 h60, oA16 h60, oA17 h60, oA18 h60, oA19 h60, oA20 h60, oA22 h60, oA23 h60, oA24 h60, rc_0_0 hRC, rc_0_1 hRC, rc_0_2 hRC, rc_0_3 hRC, rc_0_4 hRC, rc_2_0 hRC, rc_2_2 hRC, rc_2_3 hRC, rc_6_0 hRC, rc_6_1 hRC, rc_6_2 hRC, rc_10_0 hRC, rc_10_1 hRC, rc_10_2 hRC, rc_10_3 hRC, rc_10_4 hRC, rc_10_5 hRC, rc_11_0 hRC, rc_11_1 hRC, rc_14_0 hRC, rc_14_1 hRC, rc_21_0 hRC, rc_21_1 hRC, rc_21_2 hRC]
        · obtain ⟨hRM, h60, -, -, -, hMt, -⟩ := id hM
          obtain ⟨k1, -⟩ := hMt.1 i hi
          have hb := mt_some hM hW hi
          clear hMt
          simp (disch := omega) only [f_X8_boxed, hb, k1, gd_t, bb_e, bd_s, cs_n, cs_s, okO_sI, okO_sL, okO_sR, okO_rI, okO_rL, okA_sI, okA_sL, okA_sR, okA_rI, okA_rL, gI_sI, gI_sL, gI_sR, gI_rI, gI_rL, gL_sI, gL_sL, gL_sR, gL_rI, gL_rL, gR_sI, gR_sL, gR_sR, gR_rI, gR_rL, oT, oS, oY, oYn, i_lt, i_le, i_eq, nI_toInt, nI_clamp, ↓reduceIte, false_and, and_false, and_self, true_and, and_true, if_pos, if_neg, ite_self, isB_0, isB_1, ix6, ix40, li_0, li_1, li_2, li_3, li_4, li_5, li_6, li_7, li_8, li_9, li_10, li_11, li_12, li_15, li_16, li_20, li_39, li_40, li_80, li_200, li_400, li_999, li_9999, li_100000, li_200000, li_300000, li_65535, li_m1, oO33 h60, oA34 h60, oA35 h60, oA36 h60, oA37 h60, oA38 h60, oA39 h60, oA40 h60, oA41 h60, oA42 h60, oA43 h60, oA44 h60, oA45 h60, oA46 h60, oA47 h60, oA48 h60, oA49 h60, oA50 h60, oA51 h60, oA52 h60, oA53 h60, oA54 h60, oA55 h60, oA56 h60, oA57 h60, oA58 h60, oA59 h60, rm_4 hRM, rm_5 hRM, rm_6 hRM, rm_8 hRM, rm_9 hRM, rm_10 hRM, rm_11 hRM, rm_12 hRM, rm_13 hRM, rm_14 hRM, rm_15 hRM, rm_16 hRM, rm_17 hRM, rm_18 hRM, rm_19 hRM, rm_20 hRM, rm_21 hRM, rm_23 hRM, rm_24 hRM, rm_25 hRM, rm_26 hRM, rm_27 hRM, rm_28 hRM, rm_29 hRM, rm_30 hRM, rm_32 hRM]
      · refine ⟨8, ?_, fun v hM => ?_, Or.inr (by decide)⟩
        · simp (disch := omega) only [f_X7_whyNotOnShelf, ha, hwi, t3, gd_t, bb_e, bd_s, cs_n, cs_s, okO_sI, okO_sL, okO_sR, okO_rI, okO_rL, okA_sI, okA_sL, okA_sR, okA_rI, okA_rL, gI_sI, gI_sL, gI_sR, gI_rI, gI_rL, gL_sI, gL_sL, gL_sR, gL_rI, gL_rL, gR_sI, gR_sL, gR_sR, gR_rI, gR_rL, oT, oS, oY, oYn, i_lt, i_le, i_eq, nI_toInt, nI_clamp, ↓reduceIte, false_and, and_false, and_self, true_and, and_true, if_pos, if_neg, ite_self, isB_0, isB_1, ix6, ix40, li_0, li_1, li_2, li_3, li_4, li_5, li_6, li_7, li_8, li_9, li_10, li_11, li_12, li_15, li_16, li_20, li_39, li_40, li_80, li_200, li_400, li_999, li_9999, li_100000, li_200000, li_300000, li_65535, li_m1, oO0 h60, oO2 h60, oO6 h60, oO10 h60, oO11 h60, oO14 h60, oO21 h60, oA1 h60, oA3 h60, oA4 h60, oA5 h60, oA7 h60, oA8 h60, oA9 h60, oA12 h60, oA13 h60, oA15 h60, oA16 h60, oA17 h60, oA18 h60, oA19 h60, oA20 h60, oA22 h60, oA23 h60, oA24 h60, rc_0_0 hRC, rc_0_1 hRC, rc_0_2 hRC, rc_0_3 hRC, rc_0_4 hRC, rc_2_0 hRC, rc_2_2 hRC, rc_2_3 hRC, rc_6_0 hRC, rc_6_1 hRC, rc_6_2 hRC, rc_10_0 hRC, rc_10_1 hRC, rc_10_2 hRC, rc_10_3 hRC, rc_10_4 hRC, rc_10_5 hRC, rc_11_0 hRC, rc_11_1 hRC, rc_14_0 hRC, rc_14_1 hRC, rc_21_0 hRC, rc_21_1 hRC, rc_21_2 hRC]
        · obtain ⟨hRM, h60, -, -, -, hMt, -⟩ := id hM
          obtain ⟨k1, -⟩ := hMt.1 i hi
          have hb := mt_some hM hW hi
          clear hMt
          simp (disch := omega) only [f_X8_boxed, hb, k1, gd_t, bb_e, bd_s, cs_n, cs_s, okO_sI, okO_sL, okO_sR, okO_rI, okO_rL, okA_sI, okA_sL, okA_sR, okA_rI, okA_rL, gI_sI, gI_sL, gI_sR, gI_rI, gI_rL, gL_sI, gL_sL, gL_sR, gL_rI, gL_rL, gR_sI, gR_sL, gR_sR, gR_rI, gR_rL, oT, oS, oY, oYn, i_lt, i_le, i_eq, nI_toInt, nI_clamp, ↓reduceIte, false_and, and_false, and_self, true_and, and_true, if_pos, if_neg, ite_self, isB_0, isB_1, ix6, ix40, li_0, li_1, li_2, li_3, li_4, li_5, li_6, li_7, li_8, li_9, li_10, li_11, li_12, li_15, li_16, li_20, li_39, li_40, li_80, li_200, li_400, li_999, li_9999, li_100000, li_200000, li_300000, li_65535, li_m1, oO33 h60, oA34 h60, oA35 h60, oA36 h60, oA37 h60, oA38 h60, oA39 h60, oA40 h60, oA41 h60, oA42 h60, oA43 h60, oA44 h60, oA45 h60, oA46 h60, oA47 h60, oA48 h60, oA49 h60, oA50 h60, oA51 h60, oA52 h60, oA53 h60, oA54 h60, oA55 h60, oA56 h60, oA57 h60, oA58 h60, oA59 h60, rm_4 hRM, rm_5 hRM, rm_6 hRM, rm_8 hRM, rm_9 hRM, rm_10 hRM, rm_11 hRM, rm_12 hRM, rm_13 hRM, rm_14 hRM, rm_15 hRM, rm_16 hRM, rm_17 hRM, rm_18 hRM, rm_19 hRM, rm_20 hRM, rm_21 hRM, rm_23 hRM, rm_24 hRM, rm_25 hRM, rm_26 hRM, rm_27 hRM, rm_28 hRM, rm_29 hRM, rm_30 hRM, rm_32 hRM]
    · have hwi := wi_f (p := p2) (a := -1) (b := 39) u (by rw [li_m1, li_39]; omega)
      refine ⟨2, ?_, fun v hM => ?_, Or.inr (by decide)⟩
      · simp (disch := omega) only [f_X7_whyNotOnShelf, ha, hwi, gd_t, bb_e, bd_s, cs_n, cs_s, okO_sI, okO_sL, okO_sR, okO_rI, okO_rL, okA_sI, okA_sL, okA_sR, okA_rI, okA_rL, gI_sI, gI_sL, gI_sR, gI_rI, gI_rL, gL_sI, gL_sL, gL_sR, gL_rI, gL_rL, gR_sI, gR_sL, gR_sR, gR_rI, gR_rL, oT, oS, oY, oYn, i_lt, i_le, i_eq, nI_toInt, nI_clamp, ↓reduceIte, false_and, and_false, and_self, true_and, and_true, if_pos, if_neg, ite_self, isB_0, isB_1, ix6, ix40, li_0, li_1, li_2, li_3, li_4, li_5, li_6, li_7, li_8, li_9, li_10, li_11, li_12, li_15, li_16, li_20, li_39, li_40, li_80, li_200, li_400, li_999, li_9999, li_100000, li_200000, li_300000, li_65535, li_m1, oO0 h60, oO2 h60, oO6 h60, oO10 h60, oO11 h60, oO14 h60, oO21 h60, oA1 h60, oA3 h60, oA4 h60, oA5 h60, oA7 h60, oA8 h60, oA9 h60, oA12 h60, oA13 h60, oA15 h60, oA16 h60, oA17 h60, oA18 h60, oA19 h60, oA20 h60, oA22 h60, oA23 h60, oA24 h60, rc_0_0 hRC, rc_0_1 hRC, rc_0_2 hRC, rc_0_3 hRC, rc_0_4 hRC, rc_2_0 hRC, rc_2_2 hRC, rc_2_3 hRC, rc_6_0 hRC, rc_6_1 hRC, rc_6_2 hRC, rc_10_0 hRC, rc_10_1 hRC, rc_10_2 hRC, rc_10_3 hRC, rc_10_4 hRC, rc_10_5 hRC, rc_11_0 hRC, rc_11_1 hRC, rc_14_0 hRC, rc_14_1 hRC, rc_21_0 hRC, rc_21_1 hRC, rc_21_2 hRC]
      · obtain ⟨hRM, h60, -⟩ := id hM
        have hb := mt_some hM hW hi
        by_cases h0 : p2.toInt < -1 <;> simp (disch := omega) only [f_X8_boxed, hb, gd_t, bb_e, bd_s, cs_n, cs_s, okO_sI, okO_sL, okO_sR, okO_rI, okO_rL, okA_sI, okA_sL, okA_sR, okA_rI, okA_rL, gI_sI, gI_sL, gI_sR, gI_rI, gI_rL, gL_sI, gL_sL, gL_sR, gL_rI, gL_rL, gR_sI, gR_sL, gR_sR, gR_rI, gR_rL, oT, oS, oY, oYn, i_lt, i_le, i_eq, nI_toInt, nI_clamp, ↓reduceIte, false_and, and_false, and_self, true_and, and_true, if_pos, if_neg, ite_self, isB_0, isB_1, ix6, ix40, li_0, li_1, li_2, li_3, li_4, li_5, li_6, li_7, li_8, li_9, li_10, li_11, li_12, li_15, li_16, li_20, li_39, li_40, li_80, li_200, li_400, li_999, li_9999, li_100000, li_200000, li_300000, li_65535, li_m1, oO33 h60, oA34 h60, oA35 h60, oA36 h60, oA37 h60, oA38 h60, oA39 h60, oA40 h60, oA41 h60, oA42 h60, oA43 h60, oA44 h60, oA45 h60, oA46 h60, oA47 h60, oA48 h60, oA49 h60, oA50 h60, oA51 h60, oA52 h60, oA53 h60, oA54 h60, oA55 h60, oA56 h60, oA57 h60, oA58 h60, oA59 h60, rm_4 hRM, rm_5 hRM, rm_6 hRM, rm_8 hRM, rm_9 hRM, rm_10 hRM, rm_11 hRM, rm_12 hRM, rm_13 hRM, rm_14 hRM, rm_15 hRM, rm_16 hRM, rm_17 hRM, rm_18 hRM, rm_19 hRM, rm_20 hRM, rm_21 hRM, rm_23 hRM, rm_24 hRM, rm_25 hRM, rm_26 hRM, rm_27 hRM, rm_28 hRM, rm_29 hRM, rm_30 hRM, rm_32 hRM]
  · refine ⟨2, ?_, fun v hM => ?_, Or.inr (by decide)⟩
    · simp (disch := omega) only [f_X7_whyNotOnShelf, at_none hC hW hp, gd_t, bb_e, bd_s, cs_n, cs_s, okO_sI, okO_sL, okO_sR, okO_rI, okO_rL, okA_sI, okA_sL, okA_sR, okA_rI, okA_rL, gI_sI, gI_sL, gI_sR, gI_rI, gI_rL, gL_sI, gL_sL, gL_sR, gL_rI, gL_rL, gR_sI, gR_sL, gR_sR, gR_rI, gR_rL, oT, oS, oY, oYn, i_lt, i_le, i_eq, nI_toInt, nI_clamp, ↓reduceIte, false_and, and_false, and_self, true_and, and_true, if_pos, if_neg, ite_self, isB_0, isB_1, ix6, ix40, li_0, li_1, li_2, li_3, li_4, li_5, li_6, li_7, li_8, li_9, li_10, li_11, li_12, li_15, li_16, li_20, li_39, li_40, li_80, li_200, li_400, li_999, li_9999, li_100000, li_200000, li_300000, li_65535, li_m1, oO0 h60, oO2 h60, oO6 h60, oO10 h60, oO11 h60, oO14 h60, oO21 h60, oA1 h60, oA3 h60, oA4 h60, oA5 h60, oA7 h60, oA8 h60, oA9 h60, oA12 h60, oA13 h60, oA15 h60, oA16 h60, oA17 h60, oA18 h60, oA19 h60, oA20 h60, oA22 h60, oA23 h60, oA24 h60, rc_0_0 hRC, rc_0_1 hRC, rc_0_2 hRC, rc_0_3 hRC, rc_0_4 hRC, rc_2_0 hRC, rc_2_2 hRC, rc_2_3 hRC, rc_6_0 hRC, rc_6_1 hRC, rc_6_2 hRC, rc_10_0 hRC, rc_10_1 hRC, rc_10_2 hRC, rc_10_3 hRC, rc_10_4 hRC, rc_10_5 hRC, rc_11_0 hRC, rc_11_1 hRC, rc_14_0 hRC, rc_14_1 hRC, rc_21_0 hRC, rc_21_1 hRC, rc_21_2 hRC]
    · obtain ⟨hRM, h60, -⟩ := id hM
      simp (disch := omega) only [f_X8_boxed, mt_none hM hW hp, gd_t, bb_e, bd_s, cs_n, cs_s, okO_sI, okO_sL, okO_sR, okO_rI, okO_rL, okA_sI, okA_sL, okA_sR, okA_rI, okA_rL, gI_sI, gI_sL, gI_sR, gI_rI, gI_rL, gL_sI, gL_sL, gL_sR, gL_rI, gL_rL, gR_sI, gR_sL, gR_sR, gR_rI, gR_rL, oT, oS, oY, oYn, i_lt, i_le, i_eq, nI_toInt, nI_clamp, ↓reduceIte, false_and, and_false, and_self, true_and, and_true, if_pos, if_neg, ite_self, isB_0, isB_1, ix6, ix40, li_0, li_1, li_2, li_3, li_4, li_5, li_6, li_7, li_8, li_9, li_10, li_11, li_12, li_15, li_16, li_20, li_39, li_40, li_80, li_200, li_400, li_999, li_9999, li_100000, li_200000, li_300000, li_65535, li_m1, oO33 h60, oA34 h60, oA35 h60, oA36 h60, oA37 h60, oA38 h60, oA39 h60, oA40 h60, oA41 h60, oA42 h60, oA43 h60, oA44 h60, oA45 h60, oA46 h60, oA47 h60, oA48 h60, oA49 h60, oA50 h60, oA51 h60, oA52 h60, oA53 h60, oA54 h60, oA55 h60, oA56 h60, oA57 h60, oA58 h60, oA59 h60, rm_4 hRM, rm_5 hRM, rm_6 hRM, rm_8 hRM, rm_9 hRM, rm_10 hRM, rm_11 hRM, rm_12 hRM, rm_13 hRM, rm_14 hRM, rm_15 hRM, rm_16 hRM, rm_17 hRM, rm_18 hRM, rm_19 hRM, rm_20 hRM, rm_21 hRM, rm_23 hRM, rm_24 hRM, rm_25 hRM, rm_26 hRM, rm_27 hRM, rm_28 hRM, rm_29 hRM, rm_30 hRM, rm_32 hRM]

theorem CR_stand {u v : Mm} {A : Ab} (hC : CR u A) {i : Nat} (hi : i < an A) {p : Int32} (hL : Lay v 12 13 (fun k => if k = i then p else plc A k)) (ho : only u v 12 13) : CR v (tI A 47 i p) := by
  obtain ⟨c1, c2, c3, c4, c5, c6, c7, c8, c9⟩ := hC
  obtain ⟨o1, o2, o3, o4⟩ := ho
  refine ⟨RC_cong c1 (fun r k _ _ _ => o2 r k), ⟨by rw [o1]; exact c2.1, by rw [o4 2 1 (by omega) (by omega)]; exact c2.2⟩, by rw [o4 0 5 (by omega) (by omega)]; exact c3, ⟨by rw [o3]; exact c4.1, by rw [o3]; exact c4.2⟩, ?_, ?_, ?_, ?_, ?_⟩
  · exact GT_cong c5 rfl (fun r k _ => o4 r k (by omega) (by omega)) (fun r k _ => o2 r k) (fun k => o2 3 k) (by intros; first | with_reducible rfl | (simp only [gI_sI, gI_sL, gI_sR, gI_rI, gI_rL, gL_sI, gL_sL, gL_sR, gL_rI, gL_rL, gR_sI, gR_sL, gR_sR, gR_rI, gR_rL, aI_tI, aI_tL, aI_qI, aI_qL, aI_tN, aI_tE, aL_tI, aL_tL, aL_qI, aL_qL, aL_tN, aL_tE, an_tI, an_tL, an_qI, an_qL, an_tN, an_tE, ae_tI, ae_tL, ae_qI, ae_qL, ae_tN, ae_tE] <;> repeat (first | rw [if_neg (by omega)] | rw [if_pos (by omega)])))
  · exact GP_cong c6 rfl (fun i => o4 _ _ (by omega) (by omega)) (by intros; first | with_reducible rfl | (simp only [gI_sI, gI_sL, gI_sR, gI_rI, gI_rL, gL_sI, gL_sL, gL_sR, gL_rI, gL_rL, gR_sI, gR_sL, gR_sR, gR_rI, gR_rL, aI_tI, aI_tL, aI_qI, aI_qL, aI_tN, aI_tE, aL_tI, aL_tL, aL_qI, aL_qL, aL_tN, aL_tE, an_tI, an_tL, an_qI, an_qL, an_tN, an_tE, ae_tI, ae_tL, ae_qI, ae_qL, ae_tN, ae_tE] <;> repeat (first | rw [if_neg (by omega)] | rw [if_pos (by omega)])))
  · exact GY_cong c7 (fun r k _ _ => o4 r k (by omega) (by omega)) (fun r k _ _ => o3 r k) (by intros; first | with_reducible rfl | (simp only [gI_sI, gI_sL, gI_sR, gI_rI, gI_rL, gL_sI, gL_sL, gL_sR, gL_rI, gL_rL, gR_sI, gR_sL, gR_sR, gR_rI, gR_rL, aI_tI, aI_tL, aI_qI, aI_qL, aI_tN, aI_tE, aL_tI, aL_tL, aL_qI, aL_qL, aL_tN, aL_tE, an_tI, an_tL, an_qI, an_qL, an_tN, an_tE, ae_tI, ae_tL, ae_qI, ae_qL, ae_tN, ae_tE] <;> repeat (first | rw [if_neg (by omega)] | rw [if_pos (by omega)]))) (fun _ => rfl)
  · exact GL_cong c8 rfl (fun r k _ _ => o4 r k (by omega) (by omega)) (by intros; first | with_reducible rfl | (simp only [gI_sI, gI_sL, gI_sR, gI_rI, gI_rL, gL_sI, gL_sL, gL_sR, gL_rI, gL_rL, gR_sI, gR_sL, gR_sR, gR_rI, gR_rL, aI_tI, aI_tL, aI_qI, aI_qL, aI_tN, aI_tE, aL_tI, aL_tL, aL_qI, aL_qL, aL_tN, aL_tE, an_tI, an_tL, an_qI, an_qL, an_tN, an_tE, ae_tI, ae_tL, ae_qI, ae_qL, ae_tN, ae_tE] <;> repeat (first | rw [if_neg (by omega)] | rw [if_pos (by omega)])))
  · have e1 : plc (tI A 47 i p) = fun k => if k = i then p else plc A k := by
      funext k
      simp only [plc, an_tI, aI_tI]
      by_cases e : k = i
      · simp [e, hi]
      · simp [e]
    have e2 : gol (tI A 47 i p) = gol A := by
      funext k
      simp only [gol, an_tI, aI_tI]
      simp
    unfold GS
    rw [e1, e2]
    exact ⟨hL, fun k hk => by rw [o4 17 k (by omega) (by omega)]; exact c9.2 k hk⟩
theorem Wf_place {A : Ab} (hW : Wf A) {i : Nat} {v : Int32} (hr : -1 ≤ v.toInt ∧ v.toInt < 40) (hv : v = -1 ∨ ∀ k, k < an A → k ≠ i → aI A 47 k ≠ v) : Wf (tI A 47 i v) := by
  obtain ⟨hr1, hr2⟩ := hr
  exact Wf_upd (i := i) hW rfl rfl (by intros; first | with_reducible rfl | (simp only [gI_sI, gI_sL, gI_sR, gI_rI, gI_rL, gL_sI, gL_sL, gL_sR, gL_rI, gL_rL, gR_sI, gR_sL, gR_sR, gR_rI, gR_rL, aI_tI, aI_tL, aI_qI, aI_qL, aI_tN, aI_tE, aL_tI, aL_tL, aL_qI, aL_qL, aL_tN, aL_tE, an_tI, an_tL, an_qI, an_qL, an_tN, an_tE, ae_tI, ae_tL, ae_qI, ae_qL, ae_tN, ae_tE] <;> repeat (first | rw [if_neg (by omega)] | rw [if_pos (by omega)]))) (by intros; first | with_reducible rfl | (simp only [gI_sI, gI_sL, gI_sR, gI_rI, gI_rL, gL_sI, gL_sL, gL_sR, gL_rI, gL_rL, gR_sI, gR_sL, gR_sR, gR_rI, gR_rL, aI_tI, aI_tL, aI_qI, aI_qL, aI_tN, aI_tE, aL_tI, aL_tL, aL_qI, aL_qL, aL_tN, aL_tE, an_tI, an_tL, an_qI, an_qL, an_tN, an_tE, ae_tI, ae_tL, ae_qI, ae_qL, ae_tN, ae_tE] <;> repeat (first | rw [if_neg (by omega)] | rw [if_pos (by omega)]))) (by intros; first | with_reducible rfl | (simp only [gI_sI, gI_sL, gI_sR, gI_rI, gI_rL, gL_sI, gL_sL, gL_sR, gL_rI, gL_rL, gR_sI, gR_sL, gR_sR, gR_rI, gR_rL, aI_tI, aI_tL, aI_qI, aI_qL, aI_tN, aI_tE, aL_tI, aL_tL, aL_qI, aL_qL, aL_tN, aL_tE, an_tI, an_tL, an_qI, an_qL, an_tN, an_tE, ae_tI, ae_tL, ae_qI, ae_qL, ae_tN, ae_tE] <;> repeat (first | rw [if_neg (by omega)] | rw [if_pos (by omega)]))) (by
            intro q; unfold WT1 at q ⊢; obtain ⟨q1, q2, q3, q4, q5, q6, q7, q8, q9, q10, q12⟩ := q
            simp (disch := omega) only [aI_tI, aI_tL, aI_qI, aI_qL, aI_tN, aI_tE, aL_tI, aL_tL, aL_qI, aL_qL, aL_tN, aL_tE, an_tI, an_tL, an_qI, an_qL, an_tN, an_tE, ae_tI, ae_tL, ae_qI, ae_qL, ae_tN, ae_tE, if_pos, if_neg, ↓reduceIte, false_and, and_false, and_self, st, li_m1]
            refine ⟨?_, ?_, ?_, ?_, ?_, ?_, ?_, ?_, ?_, ?_, ?_⟩ <;> first | assumption | trivial | omega | (intro g hg; exact q12 g hg) | (intro h; first | omega | exact q6 h)) (WD_cong hW.2.1 rfl (by intros; first | with_reducible rfl | (simp only [gI_sI, gI_sL, gI_sR, gI_rI, gI_rL, gL_sI, gL_sL, gL_sR, gL_rI, gL_rL, gR_sI, gR_sL, gR_sR, gR_rI, gR_rL, aI_tI, aI_tL, aI_qI, aI_qL, aI_tN, aI_tE, aL_tI, aL_tL, aL_qI, aL_qL, aL_tN, aL_tE, an_tI, an_tL, an_qI, an_qL, an_tN, an_tE, ae_tI, ae_tL, ae_qI, ae_qL, ae_tN, ae_tE] <;> repeat (first | rw [if_neg (by omega)] | rw [if_pos (by omega)])))) (WD_row hW.2.2.1 hv) (WD_cong hW.2.2.2.1 rfl (by intros; first | with_reducible rfl | (simp only [gI_sI, gI_sL, gI_sR, gI_rI, gI_rL, gL_sI, gL_sL, gL_sR, gL_rI, gL_rL, gR_sI, gR_sL, gR_sR, gR_rI, gR_rL, aI_tI, aI_tL, aI_qI, aI_qL, aI_tN, aI_tE, aL_tI, aL_tL, aL_qI, aL_qL, aL_tN, aL_tE, an_tI, an_tL, an_qI, an_qL, an_tN, an_tE, ae_tI, ae_tL, ae_qI, ae_qL, ae_tN, ae_tE] <;> repeat (first | rw [if_neg (by omega)] | rw [if_pos (by omega)]))))
theorem Wf_goal {A : Ab} (hW : Wf A) {i : Nat} {v : Int32} (hr : -1 ≤ v.toInt ∧ v.toInt < 40) (hv : v = -1 ∨ ∀ k, k < an A → k ≠ i → aI A 48 k ≠ v) : Wf (tI A 48 i v) := by
  obtain ⟨hr1, hr2⟩ := hr
  exact Wf_upd (i := i) hW rfl rfl (by intros; first | with_reducible rfl | (simp only [gI_sI, gI_sL, gI_sR, gI_rI, gI_rL, gL_sI, gL_sL, gL_sR, gL_rI, gL_rL, gR_sI, gR_sL, gR_sR, gR_rI, gR_rL, aI_tI, aI_tL, aI_qI, aI_qL, aI_tN, aI_tE, aL_tI, aL_tL, aL_qI, aL_qL, aL_tN, aL_tE, an_tI, an_tL, an_qI, an_qL, an_tN, an_tE, ae_tI, ae_tL, ae_qI, ae_qL, ae_tN, ae_tE] <;> repeat (first | rw [if_neg (by omega)] | rw [if_pos (by omega)]))) (by intros; first | with_reducible rfl | (simp only [gI_sI, gI_sL, gI_sR, gI_rI, gI_rL, gL_sI, gL_sL, gL_sR, gL_rI, gL_rL, gR_sI, gR_sL, gR_sR, gR_rI, gR_rL, aI_tI, aI_tL, aI_qI, aI_qL, aI_tN, aI_tE, aL_tI, aL_tL, aL_qI, aL_qL, aL_tN, aL_tE, an_tI, an_tL, an_qI, an_qL, an_tN, an_tE, ae_tI, ae_tL, ae_qI, ae_qL, ae_tN, ae_tE] <;> repeat (first | rw [if_neg (by omega)] | rw [if_pos (by omega)]))) (by intros; first | with_reducible rfl | (simp only [gI_sI, gI_sL, gI_sR, gI_rI, gI_rL, gL_sI, gL_sL, gL_sR, gL_rI, gL_rL, gR_sI, gR_sL, gR_sR, gR_rI, gR_rL, aI_tI, aI_tL, aI_qI, aI_qL, aI_tN, aI_tE, aL_tI, aL_tL, aL_qI, aL_qL, aL_tN, aL_tE, an_tI, an_tL, an_qI, an_qL, an_tN, an_tE, ae_tI, ae_tL, ae_qI, ae_qL, ae_tN, ae_tE] <;> repeat (first | rw [if_neg (by omega)] | rw [if_pos (by omega)]))) (by
            intro q; unfold WT1 at q ⊢; obtain ⟨q1, q2, q3, q4, q5, q6, q7, q8, q9, q10, q12⟩ := q
            simp (disch := omega) only [aI_tI, aI_tL, aI_qI, aI_qL, aI_tN, aI_tE, aL_tI, aL_tL, aL_qI, aL_qL, aL_tN, aL_tE, an_tI, an_tL, an_qI, an_qL, an_tN, an_tE, ae_tI, ae_tL, ae_qI, ae_qL, ae_tN, ae_tE, if_pos, if_neg, ↓reduceIte, false_and, and_false, and_self, st, li_m1]
            refine ⟨?_, ?_, ?_, ?_, ?_, ?_, ?_, ?_, ?_, ?_, ?_⟩ <;> first | assumption | trivial | omega | (intro g hg; exact q12 g hg) | (intro h; first | omega | exact q6 h)) (WD_cong hW.2.1 rfl (by intros; first | with_reducible rfl | (simp only [gI_sI, gI_sL, gI_sR, gI_rI, gI_rL, gL_sI, gL_sL, gL_sR, gL_rI, gL_rL, gR_sI, gR_sL, gR_sR, gR_rI, gR_rL, aI_tI, aI_tL, aI_qI, aI_qL, aI_tN, aI_tE, aL_tI, aL_tL, aL_qI, aL_qL, aL_tN, aL_tE, an_tI, an_tL, an_qI, an_qL, an_tN, an_tE, ae_tI, ae_tL, ae_qI, ae_qL, ae_tN, ae_tE] <;> repeat (first | rw [if_neg (by omega)] | rw [if_pos (by omega)])))) (WD_cong hW.2.2.1 rfl (by intros; first | with_reducible rfl | (simp only [gI_sI, gI_sL, gI_sR, gI_rI, gI_rL, gL_sI, gL_sL, gL_sR, gL_rI, gL_rL, gR_sI, gR_sL, gR_sR, gR_rI, gR_rL, aI_tI, aI_tL, aI_qI, aI_qL, aI_tN, aI_tE, aL_tI, aL_tL, aL_qI, aL_qL, aL_tN, aL_tE, an_tI, an_tL, an_qI, an_qL, an_tN, an_tE, ae_tI, ae_tL, ae_qI, ae_qL, ae_tN, ae_tE] <;> repeat (first | rw [if_neg (by omega)] | rw [if_pos (by omega)])))) (WD_row hW.2.2.2.1 hv)
/-- who stands in a place, as the class asks it -/
theorem free_t {u : Mm} {A : Ab} (hW : Wf A) (hC : CR u A) {i q : Nat} (hi : i < an A) (hq : q < 40) : f_X1_isFreeFor 11 (nI i) (nI q) u = some (b2i (!ex (fun k => !decide (k = i) && decide (aI A 47 k = nI q)) 0 (an A))) := by
  obtain ⟨hRC, hN, -, -, -, -, -, -, hS⟩ := id hC
  have hn := hN.1
  have h60 : 60 ≤ u.1 := by omega
  have h80 := hW.1.1
  have hpl : ∀ b, plc A b = nI q → b < an A ∧ aI A 47 b = nI q := by
    intro b hb
    unfold plc at hb
    split at hb
    · rename_i h; exact ⟨h, hb⟩
    · rw [i_eq, li_m1, nI_toInt (by omega)] at hb; omega
  rcases hS.1.2 q hq with ⟨g1, g2⟩ | ⟨b, g1, g2, g3⟩
  · have he : ex (fun k => !decide (k = i) && decide (aI A 47 k = nI q)) 0 (an A) = false := by
      cases he : ex (fun k => !decide (k = i) && decide (aI A 47 k = nI q)) 0 (an A) with
      | false => rfl
      | true =>
        obtain ⟨k, -, h2, h3⟩ := ex_yes he
        simp only [Bool.and_eq_true, decide_eq_true_eq] at h3
        exact absurd (by rw [plc, if_pos (by omega)]; exact h3.2) (g2 k (by omega))
    rw [he]
    simp (disch := omega) only [f_X1_isFreeFor, g1, gd_t, bb_e, bd_s, cs_n, cs_s, okO_sI, okO_sL, okO_sR, okO_rI, okO_rL, okA_sI, okA_sL, okA_sR, okA_rI, okA_rL, gI_sI, gI_sL, gI_sR, gI_rI, gI_rL, gL_sI, gL_sL, gL_sR, gL_rI, gL_rL, gR_sI, gR_sL, gR_sR, gR_rI, gR_rL, oT, oS, oY, oYn, i_lt, i_le, i_eq, nI_toInt, nI_clamp, ↓reduceIte, false_and, and_false, and_self, true_and, and_true, if_pos, if_neg, ite_self, isB_0, isB_1, ix6, ix40, li_0, li_1, li_2, li_3, li_4, li_5, li_6, li_7, li_8, li_9, li_10, li_11, li_12, li_15, li_16, li_20, li_39, li_40, li_80, li_200, li_400, li_999, li_9999, li_100000, li_200000, li_300000, li_65535, li_m1, oO0 h60, oO2 h60, oO6 h60, oO10 h60, oO11 h60, oO14 h60, oO21 h60, oA1 h60, oA3 h60, oA4 h60, oA5 h60, oA7 h60, oA8 h60, oA9 h60, oA12 h60, oA13 h60, oA15 h60, oA16 h60, oA17 h60, oA18 h60, oA19 h60, oA20 h60, oA22 h60, oA23 h60, oA24 h60, rc_0_0 hRC, rc_0_1 hRC, rc_0_2 hRC, rc_0_3 hRC, rc_0_4 hRC, rc_2_0 hRC, rc_2_2 hRC, rc_2_3 hRC, rc_6_0 hRC, rc_6_1 hRC, rc_6_2 hRC, rc_10_0 hRC, rc_10_1 hRC, rc_10_2 hRC, rc_10_3 hRC, rc_10_4 hRC, rc_10_5 hRC, rc_11_0 hRC, rc_11_1 hRC, rc_14_0 hRC, rc_14_1 hRC, rc_21_0 hRC, rc_21_1 hRC, rc_21_2 hRC]
    rfl
  · obtain ⟨q1, q2⟩ := hpl b g3
    by_cases e : b = i
    · have he : ex (fun k => !decide (k = i) && decide (aI A 47 k = nI q)) 0 (an A) = false := by
        cases he : ex (fun k => !decide (k = i) && decide (aI A 47 k = nI q)) 0 (an A) with
        | false => rfl
        | true =>
          obtain ⟨k, -, h2, h3⟩ := ex_yes he
          simp only [Bool.and_eq_true, Bool.not_eq_true', decide_eq_true_eq, decide_eq_false_iff_not] at h3
          have := hW.2.2.1 k b (by omega) q1 (by omega) (by rw [h3.2, q2])
          rw [h3.2, i_eq, li_m1, nI_toInt (by omega)] at this
          omega
      rw [he]
      subst e
      simp (disch := omega) only [f_X1_isFreeFor, g2, gd_t, bb_e, bd_s, cs_n, cs_s, okO_sI, okO_sL, okO_sR, okO_rI, okO_rL, okA_sI, okA_sL, okA_sR, okA_rI, okA_rL, gI_sI, gI_sL, gI_sR, gI_rI, gI_rL, gL_sI, gL_sL, gL_sR, gL_rI, gL_rL, gR_sI, gR_sL, gR_sR, gR_rI, gR_rL, oT, oS, oY, oYn, i_lt, i_le, i_eq, nI_toInt, nI_clamp, ↓reduceIte, false_and, and_false, and_self, true_and, and_true, if_pos, if_neg, ite_self, isB_0, isB_1, ix6, ix40, li_0, li_1, li_2, li_3, li_4, li_5, li_6, li_7, li_8, li_9, li_10, li_11, li_12, li_15, li_16, li_20, li_39, li_40, li_80, li_200, li_400, li_999, li_9999, li_100000, li_200000, li_300000, li_65535, li_m1, oO0 h60, oO2 h60, oO6 h60, oO10 h60, oO11 h60, oO14 h60, oO21 h60, oA1 h60, oA3 h60, oA4 h60, oA5 h60, oA7 h60, oA8 h60, oA9 h60, oA12 h60, oA13 h60, oA15 h60, oA16 h60, oA17 h60, oA18 h60, oA19 h60, oA20 h60, oA22 h60, oA23 h60, oA24 h60, rc_0_0 hRC, rc_0_1 hRC, rc_0_2 hRC, rc_0_3 hRC, rc_0_4 hRC, rc_2_0 hRC, rc_2_2 hRC, rc_2_3 hRC, rc_6_0 hRC, rc_6_1 hRC, rc_6_2 hRC, rc_10_0 hRC, rc_10_1 hRC, rc_10_2 hRC, rc_10_3 hRC, rc_10_4 hRC, rc_10_5 hRC, rc_11_0 hRC, rc_11_1 hRC, rc_14_0 hRC, rc_14_1 hRC, rc_21_0 hRC, rc_21_1 hRC, rc_21_2 hRC]
      rfl
    · have he : ex (fun k => !decide (k = i) && decide (aI A 47 k = nI q)) 0 (an A) = true := by
        cases he : ex (fun k => !decide (k = i) && decide (aI A 47 k = nI q)) 0 (an A) with
        | true => rfl
        | false =>
          have := ex_no he b (by omega) (by omega)
          simp [e, q2] at this
      rw [he]
      simp (disch := omega) only [f_X1_isFreeFor, g2, gd_t, bb_e, bd_s, cs_n, cs_s, okO_sI, okO_sL, okO_sR, okO_rI, okO_rL, okA_sI, okA_sL, okA_sR, okA_rI, okA_rL, gI_sI, gI_sL, gI_sR, gI_rI, gI_rL, gL_sI, gL_sL, gL_sR, gL_rI, gL_rL, gR_sI, gR_sL, gR_sR, gR_rI, gR_rL, oT, oS, oY, oYn, i_lt, i_le, i_eq, nI_toInt, nI_clamp, ↓reduceIte, false_and, and_false, and_self, true_and, and_true, if_pos, if_neg, ite_self, isB_0, isB_1, ix6, ix40, li_0, li_1, li_2, li_3, li_4, li_5, li_6, li_7, li_8, li_9, li_10, li_11, li_12, li_15, li_16, li_20, li_39, li_40, li_80, li_200, li_400, li_999, li_9999, li_100000, li_200000, li_300000, li_65535, li_m1, oO0 h60, oO2 h60, oO6 h60, oO10 h60, oO11 h60, oO14 h60, oO21 h60, oA1 h60, oA3 h60, oA4 h60, oA5 h60, oA7 h60, oA8 h60, oA9 h60, oA12 h60, oA13 h60, oA15 h60, oA16 h60, oA17 h60, oA18 h60, oA19 h60, oA20 h60, oA22 h60, oA23 h60, oA24 h60, rc_0_0 hRC, rc_0_1 hRC, rc_0_2 hRC, rc_0_3 hRC, rc_0_4 hRC, rc_2_0 hRC, rc_2_2 hRC, rc_2_3 hRC, rc_6_0 hRC, rc_6_1 hRC, rc_6_2 hRC, rc_10_0 hRC, rc_10_1 hRC, rc_10_2 hRC, rc_10_3 hRC, rc_10_4 hRC, rc_10_5 hRC, rc_11_0 hRC, rc_11_1 hRC, rc_14_0 hRC, rc_14_1 hRC, rc_21_0 hRC, rc_21_1 hRC, rc_21_2 hRC]
      rfl
