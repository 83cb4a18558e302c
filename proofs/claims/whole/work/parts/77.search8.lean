/-! SEARCH: the reference -/
def SM (v : Mm) (t K : Nat) (N : Nat → Int64) : Prop := RM v ∧ 60 ≤ v.1 ∧ ∀ j, j < K → gL v 36 (40 * t + j) = N j
theorem SM.only {v w : Mm} {t K : Nat} {N : Nat → Int64} (h : SM v t K N) (h2 : only v w 59 59) : SM w t K N := ⟨RM_cong h.1 (fun j => h2.2.1 33 j), by rw [h2.1]; exact h.2.1, fun j hj => by rw [h2.2.2.1]; exact h.2.2 j hj⟩
theorem ck_l {w : Mm} {t K m : Nat} {N : Nat → Int64} (h : SM w t K N) (ht : t < 4) (hK : K ≤ 40) (hm : 2 * m ≤ K) {p3 : Int32} {k : Int32 → Option (Int32 × Mm)} : ∀ (d n j : Nat), j + d = 2 * m → d < n → ((∀ i, i < 2 * m → fit (N i)) → L_X8_search_61 33 (nI t) (nI m) p3 w k n (nI j) = k (nI (2 * m))) ∧ ((∃ i, j ≤ i ∧ i < 2 * m ∧ ¬ fit (N i)) → L_X8_search_61 33 (nI t) (nI m) p3 w k n (nI j) = some (-1, sI w 33 0 5)) := by
  obtain ⟨hRM, h60, hN⟩ := h
  intro d
  induction d with
  | zero =>
    intro n j h1 h2
    obtain ⟨n, rfl⟩ : ∃ b, n = b + 1 := ⟨n - 1, by omega⟩
    have e : j = 2 * m := by omega
    subst e
    refine ⟨fun _ => ?_, fun ⟨i, a1, a2, _⟩ => by omega⟩
    rw [L_X8_search_61, ix2, if_pos (nI_le (Nat.le_refl _) (by omega))]
  | succ d ih =>
    intro n j h1 h2
    obtain ⟨n, rfl⟩ : ∃ b, n = b + 1 := ⟨n - 1, by omega⟩
    have hnl : ¬ nI (2 * m) ≤ nI j := nI_ge (by omega) (by omega)
    have e1 := hN j (by omega)
    have ih := ih n (j + 1) (by omega) (by omega)
    rcases fit_d (N j) with f | f
    · have f' := f
      unfold fit at f'
      have c1 : ¬ lg_cmp (N j) 1 < 0 := by rw [lg_cmp_lt, Int64.lt_iff_toInt_lt, l1]; omega
      have c2 : lg_cmp (N j) 999 ≤ 0 := by rw [lg_cmp_le, Int64.le_iff_toInt_le, l999]; omega
      have key : L_X8_search_61 33 (nI t) (nI m) p3 w k (n + 1) (nI j) = L_X8_search_61 33 (nI t) (nI m) p3 w k n (nI (j + 1)) := by
        simp (disch := first | exact h60 | omega | with_unfolding_all exact h60) only [L_X8_search_61, ix2, eq_false hnl, ix40, e1, eq_false c1, eq_true c2, ↓bb_e, ↓c_sI, ↓o_sI, ↓a_sI, ↓c_sL, ↓o_sL, ↓a_sL, ↓c_rI, ↓o_rI, ↓a_rI, ↓c_rL, ↓o_rL, ↓a_rL, ↓c_rngI, ↓o_rngI, ↓a_rngI, ↓c_rngL, ↓o_rngL, ↓a_rngL, ↓bd_s, ↓cs_s, ↓cs_n, ↓gd_t, ↓gB0, ↓gB1, ↓gOT, ↓gAS, ↓gOY, ↓gAY, ↓reduceIte, d10, nI_clamp, nI_1', i0eq, ↓gO33 h60, ↓gA34 h60, ↓gA35 h60, ↓gA36 h60, ↓gA37 h60, ↓gA38 h60, ↓gA39 h60, ↓gA40 h60, ↓gA41 h60, ↓gA42 h60, ↓gA43 h60, ↓gA44 h60, ↓gA45 h60, ↓gA46 h60, ↓gA47 h60, ↓gA48 h60, ↓gA49 h60, ↓gA50 h60, ↓gA51 h60, ↓gA52 h60, ↓gA53 h60, ↓gA54 h60, ↓gA55 h60, ↓gA56 h60, ↓gA57 h60, ↓gA58 h60, ↓gA59 h60, ↓cM_4 hRM, ↓cM_5 hRM, ↓cM_6 hRM, ↓cM_8 hRM, ↓cM_9 hRM, ↓cM_10 hRM, ↓cM_11 hRM, ↓cM_12 hRM, ↓cM_13 hRM, ↓cM_14 hRM, ↓cM_15 hRM, ↓cM_16 hRM, ↓cM_17 hRM, ↓cM_18 hRM, ↓cM_19 hRM, ↓cM_20 hRM, ↓cM_21 hRM, ↓cM_23 hRM, ↓cM_24 hRM, ↓cM_25 hRM, ↓cM_26 hRM, ↓cM_27 hRM, ↓cM_28 hRM, ↓cM_29 hRM, ↓cM_30 hRM, ↓cM_32 hRM, ↓bno8, ↓brf8]
      rw [key]
      refine ⟨ih.1, fun ⟨i, a1, a2, a3⟩ => ih.2 ⟨i, ?_, a2, a3⟩⟩
      have : i ≠ j := fun e => by subst e; exact a3 f
      omega
    · refine ⟨fun q => absurd (q j (by omega)) f, fun _ => ?_⟩
      have f' := f
      unfold fit at f'
      by_cases c1 : lg_cmp (N j) 1 < 0
      · simp (disch := first | exact h60 | omega | with_unfolding_all exact h60) only [L_X8_search_61, ix2, eq_false hnl, ix40, e1, eq_true c1, ↓bb_e, ↓c_sI, ↓o_sI, ↓a_sI, ↓c_sL, ↓o_sL, ↓a_sL, ↓c_rI, ↓o_rI, ↓a_rI, ↓c_rL, ↓o_rL, ↓a_rL, ↓c_rngI, ↓o_rngI, ↓a_rngI, ↓c_rngL, ↓o_rngL, ↓a_rngL, ↓bd_s, ↓cs_s, ↓cs_n, ↓gd_t, ↓gB0, ↓gB1, ↓gOT, ↓gAS, ↓gOY, ↓gAY, ↓reduceIte, d10, nI_clamp, nI_1', i0eq, ↓gO33 h60, ↓gA34 h60, ↓gA35 h60, ↓gA36 h60, ↓gA37 h60, ↓gA38 h60, ↓gA39 h60, ↓gA40 h60, ↓gA41 h60, ↓gA42 h60, ↓gA43 h60, ↓gA44 h60, ↓gA45 h60, ↓gA46 h60, ↓gA47 h60, ↓gA48 h60, ↓gA49 h60, ↓gA50 h60, ↓gA51 h60, ↓gA52 h60, ↓gA53 h60, ↓gA54 h60, ↓gA55 h60, ↓gA56 h60, ↓gA57 h60, ↓gA58 h60, ↓gA59 h60, ↓cM_4 hRM, ↓cM_5 hRM, ↓cM_6 hRM, ↓cM_8 hRM, ↓cM_9 hRM, ↓cM_10 hRM, ↓cM_11 hRM, ↓cM_12 hRM, ↓cM_13 hRM, ↓cM_14 hRM, ↓cM_15 hRM, ↓cM_16 hRM, ↓cM_17 hRM, ↓cM_18 hRM, ↓cM_19 hRM, ↓cM_20 hRM, ↓cM_21 hRM, ↓cM_23 hRM, ↓cM_24 hRM, ↓cM_25 hRM, ↓cM_26 hRM, ↓cM_27 hRM, ↓cM_28 hRM, ↓cM_29 hRM, ↓cM_30 hRM, ↓cM_32 hRM, ↓bno8, ↓brf8]
      · have c2 : ¬ lg_cmp (N j) 999 ≤ 0 := by rw [lg_cmp_le, Int64.le_iff_toInt_le, l999]; rw [lg_cmp_lt, Int64.lt_iff_toInt_lt, l1] at c1; omega
        simp (disch := first | exact h60 | omega | with_unfolding_all exact h60) only [L_X8_search_61, ix2, eq_false hnl, ix40, e1, eq_false c1, eq_false c2, ↓bb_e, ↓c_sI, ↓o_sI, ↓a_sI, ↓c_sL, ↓o_sL, ↓a_sL, ↓c_rI, ↓o_rI, ↓a_rI, ↓c_rL, ↓o_rL, ↓a_rL, ↓c_rngI, ↓o_rngI, ↓a_rngI, ↓c_rngL, ↓o_rngL, ↓a_rngL, ↓bd_s, ↓cs_s, ↓cs_n, ↓gd_t, ↓gB0, ↓gB1, ↓gOT, ↓gAS, ↓gOY, ↓gAY, ↓reduceIte, d10, nI_clamp, nI_1', i0eq, ↓gO33 h60, ↓gA34 h60, ↓gA35 h60, ↓gA36 h60, ↓gA37 h60, ↓gA38 h60, ↓gA39 h60, ↓gA40 h60, ↓gA41 h60, ↓gA42 h60, ↓gA43 h60, ↓gA44 h60, ↓gA45 h60, ↓gA46 h60, ↓gA47 h60, ↓gA48 h60, ↓gA49 h60, ↓gA50 h60, ↓gA51 h60, ↓gA52 h60, ↓gA53 h60, ↓gA54 h60, ↓gA55 h60, ↓gA56 h60, ↓gA57 h60, ↓gA58 h60, ↓gA59 h60, ↓cM_4 hRM, ↓cM_5 hRM, ↓cM_6 hRM, ↓cM_8 hRM, ↓cM_9 hRM, ↓cM_10 hRM, ↓cM_11 hRM, ↓cM_12 hRM, ↓cM_13 hRM, ↓cM_14 hRM, ↓cM_15 hRM, ↓cM_16 hRM, ↓cM_17 hRM, ↓cM_18 hRM, ↓cM_19 hRM, ↓cM_20 hRM, ↓cM_21 hRM, ↓cM_23 hRM, ↓cM_24 hRM, ↓cM_25 hRM, ↓cM_26 hRM, ↓cM_27 hRM, ↓cM_28 hRM, ↓cM_29 hRM, ↓cM_30 hRM, ↓cM_32 hRM, ↓bno8, ↓brf8]
theorem wo_t {w : Mm} {t K i : Nat} {N : Nat → Int64} (h : SM w t K N) (ht : t < 4) (hK : K ≤ 40) (hi : 2 * i + 1 < K) : f_X8_weightOf 33 (nI t) (nI i) w = some (N (2 * i)) := by
  obtain ⟨hRM, h60, hN⟩ := h
  have e1 := hN (2 * i) (by omega)
  simp (disch := first | exact h60 | omega | with_unfolding_all exact h60) only [f_X8_weightOf, ix2, ix40, e1, ↓bb_e, ↓c_sI, ↓o_sI, ↓a_sI, ↓c_sL, ↓o_sL, ↓a_sL, ↓c_rI, ↓o_rI, ↓a_rI, ↓c_rL, ↓o_rL, ↓a_rL, ↓c_rngI, ↓o_rngI, ↓a_rngI, ↓c_rngL, ↓o_rngL, ↓a_rngL, ↓bd_s, ↓cs_s, ↓cs_n, ↓gd_t, ↓gB0, ↓gB1, ↓gOT, ↓gAS, ↓gOY, ↓gAY, ↓reduceIte, d10, nI_clamp, nI_1', i0eq, ↓gO33 h60, ↓gA34 h60, ↓gA35 h60, ↓gA36 h60, ↓gA37 h60, ↓gA38 h60, ↓gA39 h60, ↓gA40 h60, ↓gA41 h60, ↓gA42 h60, ↓gA43 h60, ↓gA44 h60, ↓gA45 h60, ↓gA46 h60, ↓gA47 h60, ↓gA48 h60, ↓gA49 h60, ↓gA50 h60, ↓gA51 h60, ↓gA52 h60, ↓gA53 h60, ↓gA54 h60, ↓gA55 h60, ↓gA56 h60, ↓gA57 h60, ↓gA58 h60, ↓gA59 h60, ↓cM_4 hRM, ↓cM_5 hRM, ↓cM_6 hRM, ↓cM_8 hRM, ↓cM_9 hRM, ↓cM_10 hRM, ↓cM_11 hRM, ↓cM_12 hRM, ↓cM_13 hRM, ↓cM_14 hRM, ↓cM_15 hRM, ↓cM_16 hRM, ↓cM_17 hRM, ↓cM_18 hRM, ↓cM_19 hRM, ↓cM_20 hRM, ↓cM_21 hRM, ↓cM_23 hRM, ↓cM_24 hRM, ↓cM_25 hRM, ↓cM_26 hRM, ↓cM_27 hRM, ↓cM_28 hRM, ↓cM_29 hRM, ↓cM_30 hRM, ↓cM_32 hRM, ↓bno8, ↓brf8]
theorem co_t {w : Mm} {t K i : Nat} {N : Nat → Int64} (h : SM w t K N) (ht : t < 4) (hK : K ≤ 40) (hi : 2 * i + 1 < K) : f_X8_costOf 33 (nI t) (nI i) w = some (N (2 * i + 1)) := by
  obtain ⟨hRM, h60, hN⟩ := h
  have e1 : gL w 36 (40 * t + 2 * i + 1) = N (2 * i + 1) := hN (2 * i + 1) (by omega)
  simp (disch := first | exact h60 | omega | with_unfolding_all exact h60) only [f_X8_costOf, ix2, ix40, nI_1, e1, ↓bb_e, ↓c_sI, ↓o_sI, ↓a_sI, ↓c_sL, ↓o_sL, ↓a_sL, ↓c_rI, ↓o_rI, ↓a_rI, ↓c_rL, ↓o_rL, ↓a_rL, ↓c_rngI, ↓o_rngI, ↓a_rngI, ↓c_rngL, ↓o_rngL, ↓a_rngL, ↓bd_s, ↓cs_s, ↓cs_n, ↓gd_t, ↓gB0, ↓gB1, ↓gOT, ↓gAS, ↓gOY, ↓gAY, ↓reduceIte, d10, nI_clamp, nI_1', i0eq, ↓gO33 h60, ↓gA34 h60, ↓gA35 h60, ↓gA36 h60, ↓gA37 h60, ↓gA38 h60, ↓gA39 h60, ↓gA40 h60, ↓gA41 h60, ↓gA42 h60, ↓gA43 h60, ↓gA44 h60, ↓gA45 h60, ↓gA46 h60, ↓gA47 h60, ↓gA48 h60, ↓gA49 h60, ↓gA50 h60, ↓gA51 h60, ↓gA52 h60, ↓gA53 h60, ↓gA54 h60, ↓gA55 h60, ↓gA56 h60, ↓gA57 h60, ↓gA58 h60, ↓gA59 h60, ↓cM_4 hRM, ↓cM_5 hRM, ↓cM_6 hRM, ↓cM_8 hRM, ↓cM_9 hRM, ↓cM_10 hRM, ↓cM_11 hRM, ↓cM_12 hRM, ↓cM_13 hRM, ↓cM_14 hRM, ↓cM_15 hRM, ↓cM_16 hRM, ↓cM_17 hRM, ↓cM_18 hRM, ↓cM_19 hRM, ↓cM_20 hRM, ↓cM_21 hRM, ↓cM_23 hRM, ↓cM_24 hRM, ↓cM_25 hRM, ↓cM_26 hRM, ↓cM_27 hRM, ↓cM_28 hRM, ↓cM_29 hRM, ↓cM_30 hRM, ↓cM_32 hRM, ↓bno8, ↓brf8]
theorem as1_l {w : Mm} {t K M : Nat} {N wt ct : Nat → Int64} (h : SM w t K N) (ht : t < 4) (hK : K ≤ 40) (hM : 2 * M ≤ K) (hwt : wt = fun i => N (2 * i)) (hct : ct = fun i => N (2 * i + 1)) {m : Nat} {g : Nat → Nat} (hm : m < M) (hg : ∀ i, i < m → g i < m) {p2 p3 : Int32} {k : Int32 → Mm → Option (Int32 × Mm)} : ∀ (a n : Nat) (v : Mm), a ≤ m → a < n → only w v 59 59 → (∀ i, i < a → gI v 59 i = nI (g i)) → (∀ i, a ≤ i → i < m → gI v 59 (i + 1) = nI (g i)) →
    ∃ v', only w v' 59 59 ∧ (∀ i, i < pos (chp wt ct m) g a → gI v' 59 i = nI (g i)) ∧ (∀ i, pos (chp wt ct m) g a ≤ i → i < m → gI v' 59 (i + 1) = nI (g i)) ∧ L_X8_search_146 33 (nI t) p2 p3 (nI m) k n (nI a) v = k (nI (pos (chp wt ct m) g a)) v' := by
  intro a
  induction a with
  | zero =>
    intro n v h1 h2 ho r1 r2
    obtain ⟨n, rfl⟩ : ∃ b, n = b + 1 := ⟨n - 1, by omega⟩
    refine ⟨v, ho, r1, r2, ?_⟩
    rw [L_X8_search_146, nI_0, if_pos (by decide)]
    rfl
  | succ a ih =>
    intro n v h1 h2 ho r1 r2
    obtain ⟨n, rfl⟩ : ∃ b, n = b + 1 := ⟨n - 1, by omega⟩
    have hS := h.only ho
    obtain ⟨hRM, h60, -⟩ := id hS
    have n0 : ¬ nI (a + 1) ≤ 0 := nI_nle (by omega) (by omega)
    have ga := hg a (by omega)
    have e1 := r1 a (by omega)
    have w1 := wo_t hS ht hK (i := m) (by omega)
    have w2 := co_t hS ht hK (i := m) (by omega)
    have w3 := wo_t hS ht hK (i := g a) (by omega)
    have w4 := co_t hS ht hK (i := g a) (by omega)
    have hc : (chp wt ct m (g a) = true) ↔ ¬ lg_cmp (N (2 * g a + 1) * N (2 * m)) (N (2 * m + 1) * N (2 * g a)) ≤ 0 := by
      rw [lg_cmp_le, Int64.le_iff_toInt_le]
      unfold chp
      rw [decide_eq_true_eq, Int64.lt_iff_toInt_lt, hwt, hct]
      simp only
      omega
    cases c : chp wt ct m (g a) with
    | true =>
      have c' := hc.mp c
      have e : pos (chp wt ct m) g (a + 1) = pos (chp wt ct m) g a := if_pos c
      rw [e]
      obtain ⟨v', q1, q2, q3, q4⟩ := ih n (sI v 59 (a + 1) (nI (g a))) (by omega) (by omega) (ho.sI (by omega)) (fun i hi => by rw [gI_n (by omega)]; exact r1 i (by omega)) (fun i a1 a2 => by
        by_cases c : i = a
        · subst c; exact gI_e
        · rw [gI_n (by omega)]; exact r2 i (by omega) a2)
      refine ⟨v', q1, q2, q3, ?_⟩
      rw [← q4]
      simp (disch := first | exact h60 | omega | with_unfolding_all exact h60) only [L_X8_search_146, eq_false n0, nI_pred, sub1, e1, ↓bd_of w1, ↓bd_of w2, ↓bd_of w3, ↓bd_of w4, eq_false c', ↓bb_e, ↓c_sI, ↓o_sI, ↓a_sI, ↓c_sL, ↓o_sL, ↓a_sL, ↓c_rI, ↓o_rI, ↓a_rI, ↓c_rL, ↓o_rL, ↓a_rL, ↓c_rngI, ↓o_rngI, ↓a_rngI, ↓c_rngL, ↓o_rngL, ↓a_rngL, ↓bd_s, ↓cs_s, ↓cs_n, ↓gd_t, ↓gB0, ↓gB1, ↓gOT, ↓gAS, ↓gOY, ↓gAY, ↓reduceIte, d10, nI_clamp, nI_1', i0eq, ↓gO33 h60, ↓gA34 h60, ↓gA35 h60, ↓gA36 h60, ↓gA37 h60, ↓gA38 h60, ↓gA39 h60, ↓gA40 h60, ↓gA41 h60, ↓gA42 h60, ↓gA43 h60, ↓gA44 h60, ↓gA45 h60, ↓gA46 h60, ↓gA47 h60, ↓gA48 h60, ↓gA49 h60, ↓gA50 h60, ↓gA51 h60, ↓gA52 h60, ↓gA53 h60, ↓gA54 h60, ↓gA55 h60, ↓gA56 h60, ↓gA57 h60, ↓gA58 h60, ↓gA59 h60, ↓cM_4 hRM, ↓cM_5 hRM, ↓cM_6 hRM, ↓cM_8 hRM, ↓cM_9 hRM, ↓cM_10 hRM, ↓cM_11 hRM, ↓cM_12 hRM, ↓cM_13 hRM, ↓cM_14 hRM, ↓cM_15 hRM, ↓cM_16 hRM, ↓cM_17 hRM, ↓cM_18 hRM, ↓cM_19 hRM, ↓cM_20 hRM, ↓cM_21 hRM, ↓cM_23 hRM, ↓cM_24 hRM, ↓cM_25 hRM, ↓cM_26 hRM, ↓cM_27 hRM, ↓cM_28 hRM, ↓cM_29 hRM, ↓cM_30 hRM, ↓cM_32 hRM, ↓bno8, ↓brf8]
    | false =>
      have c' : lg_cmp (N (2 * g a + 1) * N (2 * m)) (N (2 * m + 1) * N (2 * g a)) ≤ 0 := Decidable.byContradiction (fun q => by rw [hc.mpr q] at c; cases c)
      have e : pos (chp wt ct m) g (a + 1) = a + 1 := if_neg (by rw [c]; decide)
      rw [e]
      refine ⟨v, ho, r1, r2, ?_⟩
      simp (disch := first | exact h60 | omega | with_unfolding_all exact h60) only [L_X8_search_146, eq_false n0, nI_pred, sub1, e1, ↓bd_of w1, ↓bd_of w2, ↓bd_of w3, ↓bd_of w4, eq_true c', ↓bb_e, ↓c_sI, ↓o_sI, ↓a_sI, ↓c_sL, ↓o_sL, ↓a_sL, ↓c_rI, ↓o_rI, ↓a_rI, ↓c_rL, ↓o_rL, ↓a_rL, ↓c_rngI, ↓o_rngI, ↓a_rngI, ↓c_rngL, ↓o_rngL, ↓a_rngL, ↓bd_s, ↓cs_s, ↓cs_n, ↓gd_t, ↓gB0, ↓gB1, ↓gOT, ↓gAS, ↓gOY, ↓gAY, ↓reduceIte, d10, nI_clamp, nI_1', i0eq, ↓gO33 h60, ↓gA34 h60, ↓gA35 h60, ↓gA36 h60, ↓gA37 h60, ↓gA38 h60, ↓gA39 h60, ↓gA40 h60, ↓gA41 h60, ↓gA42 h60, ↓gA43 h60, ↓gA44 h60, ↓gA45 h60, ↓gA46 h60, ↓gA47 h60, ↓gA48 h60, ↓gA49 h60, ↓gA50 h60, ↓gA51 h60, ↓gA52 h60, ↓gA53 h60, ↓gA54 h60, ↓gA55 h60, ↓gA56 h60, ↓gA57 h60, ↓gA58 h60, ↓gA59 h60, ↓cM_4 hRM, ↓cM_5 hRM, ↓cM_6 hRM, ↓cM_8 hRM, ↓cM_9 hRM, ↓cM_10 hRM, ↓cM_11 hRM, ↓cM_12 hRM, ↓cM_13 hRM, ↓cM_14 hRM, ↓cM_15 hRM, ↓cM_16 hRM, ↓cM_17 hRM, ↓cM_18 hRM, ↓cM_19 hRM, ↓cM_20 hRM, ↓cM_21 hRM, ↓cM_23 hRM, ↓cM_24 hRM, ↓cM_25 hRM, ↓cM_26 hRM, ↓cM_27 hRM, ↓cM_28 hRM, ↓cM_29 hRM, ↓cM_30 hRM, ↓cM_32 hRM, ↓bno8, ↓brf8]
theorem as2_l {w : Mm} {t K M : Nat} {N wt ct : Nat → Int64} (h : SM w t K N) (ht : t < 4) (hK : K ≤ 40) (hM : 2 * M ≤ K) (hwt : wt = fun i => N (2 * i)) (hct : ct = fun i => N (2 * i + 1)) {p3 : Int32} {k : Int32 → Mm → Option (Int32 × Mm)} : ∀ (d n m : Nat) (v : Mm), m + d = M → d < n → only w v 59 59 → (∀ i, i < m → gI v 59 i = nI (ord wt ct m i)) → ∃ v', only w v' 59 59 ∧ (∀ i, i < M → gI v' 59 i = nI (ord wt ct M i)) ∧ L_X8_search_136 33 (nI t) (nI M) p3 k n (nI m) v = k (nI M) v' := by
  intro d
  induction d with
  | zero =>
    intro n m v h1 h2 ho r1
    obtain ⟨n, rfl⟩ : ∃ b, n = b + 1 := ⟨n - 1, by omega⟩
    have e : m = M := by omega
    subst e
    refine ⟨v, ho, r1, ?_⟩
    rw [L_X8_search_136, if_pos (nI_le (Nat.le_refl _) (by omega))]
  | succ d ih =>
    intro n m v h1 h2 ho r1
    obtain ⟨n, rfl⟩ : ∃ b, n = b + 1 := ⟨n - 1, by omega⟩
    have hnl : ¬ nI M ≤ nI m := nI_ge (by omega) (by omega)
    obtain ⟨v1, q1, q2, q3, q4⟩ := as1_l h ht hK hM hwt hct (m := m) (g := ord wt ct m) (by omega) (fun i hi => ord_lt wt ct m i hi) (p2 := nI M) (p3 := p3) (k := fun a49 u50 => gd (okO u50 33 8) (bb (gR u50 33 32) (fun x52 => cs x52 none (fun k53 => gd (okA u50 k53 9 a49) (bb (nI m + (1)) (fun v55 => L_X8_search_136 33 (nI t) (nI M) p3 k n v55 (sI u50 k53 (Int32.toNatClampNeg a49) (nI m)))))))) m 1000 v (Nat.le_refl _) (by omega) ho r1 (fun i a1 a2 => by omega)
    have hp := pos_le (chp wt ct m) (ord wt ct m) m
    obtain ⟨hRM, h60, -⟩ := h.only q1
    obtain ⟨v', p1, p2, p3⟩ := ih n (m + 1) (sI v1 59 (pos (chp wt ct m) (ord wt ct m) m) (nI m)) (by omega) (by omega) (q1.sI (by omega)) (ins_row hp q2 q3)
    refine ⟨v', p1, p2, ?_⟩
    rw [← p3, L_X8_search_136, if_neg hnl, q4]
    simp (disch := first | exact h60 | omega | with_unfolding_all exact h60) only [↓bb_e, ↓c_sI, ↓o_sI, ↓a_sI, ↓c_sL, ↓o_sL, ↓a_sL, ↓c_rI, ↓o_rI, ↓a_rI, ↓c_rL, ↓o_rL, ↓a_rL, ↓c_rngI, ↓o_rngI, ↓a_rngI, ↓c_rngL, ↓o_rngL, ↓a_rngL, ↓bd_s, ↓cs_s, ↓cs_n, ↓gd_t, ↓gB0, ↓gB1, ↓gOT, ↓gAS, ↓gOY, ↓gAY, ↓reduceIte, d10, nI_clamp, nI_1', i0eq, ↓gO33 h60, ↓gA34 h60, ↓gA35 h60, ↓gA36 h60, ↓gA37 h60, ↓gA38 h60, ↓gA39 h60, ↓gA40 h60, ↓gA41 h60, ↓gA42 h60, ↓gA43 h60, ↓gA44 h60, ↓gA45 h60, ↓gA46 h60, ↓gA47 h60, ↓gA48 h60, ↓gA49 h60, ↓gA50 h60, ↓gA51 h60, ↓gA52 h60, ↓gA53 h60, ↓gA54 h60, ↓gA55 h60, ↓gA56 h60, ↓gA57 h60, ↓gA58 h60, ↓gA59 h60, ↓cM_4 hRM, ↓cM_5 hRM, ↓cM_6 hRM, ↓cM_8 hRM, ↓cM_9 hRM, ↓cM_10 hRM, ↓cM_11 hRM, ↓cM_12 hRM, ↓cM_13 hRM, ↓cM_14 hRM, ↓cM_15 hRM, ↓cM_16 hRM, ↓cM_17 hRM, ↓cM_18 hRM, ↓cM_19 hRM, ↓cM_20 hRM, ↓cM_21 hRM, ↓cM_23 hRM, ↓cM_24 hRM, ↓cM_25 hRM, ↓cM_26 hRM, ↓cM_27 hRM, ↓cM_28 hRM, ↓cM_29 hRM, ↓cM_30 hRM, ↓cM_32 hRM, ↓bno8, ↓brf8]
theorem sm_l {v : Mm} {t K M : Nat} {N wt ct : Nat → Int64} {g : Nat → Nat} (h : SM v t K N) (ht : t < 4) (hK : K ≤ 40) (hM : 2 * M ≤ K) (hwt : wt = fun i => N (2 * i)) (hct : ct = fun i => N (2 * i + 1)) (hg : ∀ i, i < M → g i < M) (hr : ∀ i, i < M → gI v 59 i = nI (g i)) {p3 : Int32} {k : Int64 → Int64 → Int64 → Int32 → Option (Int32 × Mm)} : ∀ (d n i : Nat), i + d = M → d < n → L_X8_search_248 33 (nI t) (nI M) p3 v k n (cc ct g i) (wc wt ct g i) (cc wt g i) (nI i) = k (cc ct g M) (wc wt ct g M) (cc wt g M) (nI M) := by
  obtain ⟨hRM, h60, -⟩ := id h
  intro d
  induction d with
  | zero =>
    intro n i h1 h2
    obtain ⟨n, rfl⟩ : ∃ b, n = b + 1 := ⟨n - 1, by omega⟩
    have e : i = M := by omega
    subst e
    rw [L_X8_search_248, if_pos (nI_le (Nat.le_refl _) (by omega))]
  | succ d ih =>
    intro n i h1 h2
    obtain ⟨n, rfl⟩ : ∃ b, n = b + 1 := ⟨n - 1, by omega⟩
    have hnl : ¬ nI M ≤ nI i := nI_ge (by omega) (by omega)
    have gi := hg i (by omega)
    have e1 := hr i (by omega)
    have w3 := wo_t h ht hK (i := g i) (by omega)
    have w4 := co_t h ht hK (i := g i) (by omega)
    have ih := ih n (i + 1) (by omega) (by omega)
    rw [← ih]
    simp (disch := first | exact h60 | omega | with_unfolding_all exact h60) only [L_X8_search_248, eq_false hnl, e1, ↓bd_of w3, ↓bd_of w4, ↓bb_e, ↓c_sI, ↓o_sI, ↓a_sI, ↓c_sL, ↓o_sL, ↓a_sL, ↓c_rI, ↓o_rI, ↓a_rI, ↓c_rL, ↓o_rL, ↓a_rL, ↓c_rngI, ↓o_rngI, ↓a_rngI, ↓c_rngL, ↓o_rngL, ↓a_rngL, ↓bd_s, ↓cs_s, ↓cs_n, ↓gd_t, ↓gB0, ↓gB1, ↓gOT, ↓gAS, ↓gOY, ↓gAY, ↓reduceIte, d10, nI_clamp, nI_1', i0eq, ↓gO33 h60, ↓gA34 h60, ↓gA35 h60, ↓gA36 h60, ↓gA37 h60, ↓gA38 h60, ↓gA39 h60, ↓gA40 h60, ↓gA41 h60, ↓gA42 h60, ↓gA43 h60, ↓gA44 h60, ↓gA45 h60, ↓gA46 h60, ↓gA47 h60, ↓gA48 h60, ↓gA49 h60, ↓gA50 h60, ↓gA51 h60, ↓gA52 h60, ↓gA53 h60, ↓gA54 h60, ↓gA55 h60, ↓gA56 h60, ↓gA57 h60, ↓gA58 h60, ↓gA59 h60, ↓cM_4 hRM, ↓cM_5 hRM, ↓cM_6 hRM, ↓cM_8 hRM, ↓cM_9 hRM, ↓cM_10 hRM, ↓cM_11 hRM, ↓cM_12 hRM, ↓cM_13 hRM, ↓cM_14 hRM, ↓cM_15 hRM, ↓cM_16 hRM, ↓cM_17 hRM, ↓cM_18 hRM, ↓cM_19 hRM, ↓cM_20 hRM, ↓cM_21 hRM, ↓cM_23 hRM, ↓cM_24 hRM, ↓cM_25 hRM, ↓cM_26 hRM, ↓cM_27 hRM, ↓cM_28 hRM, ↓cM_29 hRM, ↓cM_30 hRM, ↓cM_32 hRM, ↓bno8, ↓brf8]
    rw [hwt, hct]
    rfl
theorem only.scrM {u v : Mm} (h : only u v 59 59) : scrM u v := ⟨h.1, h.2.1, h.2.2.1, fun r k hr => h.2.2.2 r k (by omega) (by omega)⟩
theorem CR_fr {v : Mm} {A : Ab} (x y : Int64) (h : CR v A) : CR (sL (sL v 0 6 x) 0 7 y) (tL (tL A 33 2 x) 33 3 y) := by
  obtain ⟨c1, c2, c3, c4, c5, c6, c7, c8, c9⟩ := h
  refine ⟨c1, c2, c3, ⟨?_, ?_⟩, c5, c6, ?_, c8, c9⟩
  · rw [gL_n (by omega), gL_e, aL_tL, if_neg (by omega), aL_tL, if_pos (by omega)]
  · rw [gL_e, aL_tL, if_pos (by omega)]
  · exact GY_cong c7 (fun r k _ _ => rfl) (fun r k _ _ => by rw [gL_n (by omega), gL_n (by omega)]) (fun _ _ _ _ => rfl) (fun k => by rw [aL_tL, if_neg (by omega), aL_tL, if_neg (by omega)])
theorem MR_fr {v : Mm} {A : Ab} (x y : Int64) (h : MR v A) : MR (sL (sL v 33 2 x) 33 3 y) (tL (tL A 33 2 x) 33 3 y) := by
  obtain ⟨c1, c2, c3, c4, c5, c6, c7, c8⟩ := h
  refine ⟨c1, c2, c3, c4, ⟨?_, ?_⟩, c6, ?_, c8⟩
  · rw [gL_n (by omega), gL_e, aL_tL, if_neg (by omega), aL_tL, if_pos (by omega)]
  · rw [gL_e, aL_tL, if_pos (by omega)]
  · exact HY_cong c7 (fun r k _ _ => rfl) (fun k => by rw [gL_n (by omega), gL_n (by omega)]) (fun _ _ _ _ => rfl) (fun k => by rw [aL_tL, if_neg (by omega), aL_tL, if_neg (by omega)])
theorem leaf_scL {α : Type} {F7 F8 : Mm → Option (α × Mm)} {u v : Mm} {A : Ab} (r : α) (c : Int32) (hW : Wf A) (hC : CR u A) (hM : MR u A) (hs : scrL u v) (h7 : F7 u = some (r, sI v 0 5 c)) (h8 : F8 (sI v 0 5 c) = some (r, sI (m0 (sI v 0 5 c)) 33 0 c)) : Pq F7 F8 u := by
  refine leaf r _ _ (st A c) h7 h8 (Wf_st c hW) (CR_st c (hC.scrL hs)) ?_ (((keepC.rf.sI (by omega)).sI (by omega)).sI (by omega))
  have := MR_st c (MR_m0 (hM.keep (hs.keepM.sI (r := 0) (k := 5) (x := c) (by omega))))
  rw [st_st] at this
  exact this
