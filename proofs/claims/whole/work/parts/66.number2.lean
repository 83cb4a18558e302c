theorem fst_l {w : Mm} {A : Ab} (hW : Wf A) (hM : MR w A) {t j : Nat} (ht : t < 2 ^ 31) (hj : j < an A) {p d' : Int32} {k : Int32 → Option Int32} : ∀ (d n i : Nat), i + d = j → d < n → L_X8_isFirst_3 33 (nI j) (nI t) p d' w k n (nI i) = if ex (fun i => VL A t p d' 3 i && decide (aI A 40 i = aI A 40 j)) i d = true then some 0 else k (nI j) := by
  have h80 := hW.1.1
  obtain ⟨hRM, h60, -, -, -, hT, -⟩ := id hM
  have k4j := (hT.1 j hj).2.2.2.1
  intro d
  induction d with
  | zero =>
    intro n i h1 h2
    obtain ⟨n, rfl⟩ : ∃ m, n = m + 1 := ⟨n - 1, by omega⟩
    have e : i = j := by omega
    subst e
    rw [L_X8_isFirst_3, if_pos (nI_le (Nat.le_refl _) (by omega))]
    rfl
  | succ d ih =>
    intro n i h1 h2
    obtain ⟨n, rfl⟩ : ∃ m, n = m + 1 := ⟨n - 1, by omega⟩
    have hi : i < an A := by omega
    have hnl : ¬ nI j ≤ nI i := nI_ge (by omega) (by omega)
    have ih := ih n (i + 1) (by omega) (by omega)
    obtain ⟨k1, -, -, k4, -⟩ := hT.1 i hi
    have hp := part8_t hW hM hi ht
    have hv := seesOf_t hW hM hi p d'
    have skip : (VL A t p d' 3 i && decide (aI A 40 i = aI A 40 j)) = false → L_X8_isFirst_3 33 (nI j) (nI t) p d' w k n (nI (i + 1)) = if ex (fun i => VL A t p d' 3 i && decide (aI A 40 i = aI A 40 j)) i (d + 1) = true then some 0 else k (nI j) := fun h => by
      rw [ih, ex]
      simp only [h, Bool.false_or]
    by_cases a1 : aI A 37 i = 3
    · by_cases a2 : aI A 40 i = aI A 40 j
      · cases a3 : decide (t ∈ line A i) with
        | true =>
          rw [a3, b2i_t] at hp
          cases a4 : seen A p d' (line A i) with
          | true =>
            rw [a4, b2i_t] at hv
            simp (disch := first | exact h60 | omega | with_unfolding_all exact h60) only [L_X8_isFirst_3, eq_false hnl, k1, eq_true a1, k4, k4j, eq_true a2, ↓bd_of hp, ↓bd_of hv, ↓bb_e, ↓c_sI, ↓o_sI, ↓a_sI, ↓c_sL, ↓o_sL, ↓a_sL, ↓c_rI, ↓o_rI, ↓a_rI, ↓c_rL, ↓o_rL, ↓a_rL, ↓c_rngI, ↓o_rngI, ↓a_rngI, ↓c_rngL, ↓o_rngL, ↓a_rngL, ↓bd_s, ↓cs_s, ↓cs_n, ↓gd_t, ↓gB0, ↓gB1, ↓gOT, ↓gAS, ↓gOY, ↓gAY, ↓reduceIte, d10, nI_clamp, nI_1', i0eq, ↓gO33 h60, ↓gA34 h60, ↓gA35 h60, ↓gA36 h60, ↓gA37 h60, ↓gA38 h60, ↓gA39 h60, ↓gA40 h60, ↓gA41 h60, ↓gA42 h60, ↓gA43 h60, ↓gA44 h60, ↓gA45 h60, ↓gA46 h60, ↓gA47 h60, ↓gA48 h60, ↓gA49 h60, ↓gA50 h60, ↓gA51 h60, ↓gA52 h60, ↓gA53 h60, ↓gA54 h60, ↓gA55 h60, ↓gA56 h60, ↓gA57 h60, ↓gA58 h60, ↓gA59 h60, ↓cM_4 hRM, ↓cM_5 hRM, ↓cM_6 hRM, ↓cM_8 hRM, ↓cM_9 hRM, ↓cM_10 hRM, ↓cM_11 hRM, ↓cM_12 hRM, ↓cM_13 hRM, ↓cM_14 hRM, ↓cM_15 hRM, ↓cM_16 hRM, ↓cM_17 hRM, ↓cM_18 hRM, ↓cM_19 hRM, ↓cM_20 hRM, ↓cM_21 hRM, ↓cM_23 hRM, ↓cM_24 hRM, ↓cM_25 hRM, ↓cM_26 hRM, ↓cM_27 hRM, ↓cM_28 hRM, ↓cM_29 hRM, ↓cM_30 hRM, ↓cM_32 hRM, ↓bno8, ↓brf8]
            rw [ex, if_pos (by simp [VL, V, a1, a2, a3, a4])]
          | false =>
            rw [a4, b2i_f] at hv
            simp (disch := first | exact h60 | omega | with_unfolding_all exact h60) only [L_X8_isFirst_3, eq_false hnl, k1, eq_true a1, k4, k4j, eq_true a2, ↓bd_of hp, ↓bd_of hv, ↓bb_e, ↓c_sI, ↓o_sI, ↓a_sI, ↓c_sL, ↓o_sL, ↓a_sL, ↓c_rI, ↓o_rI, ↓a_rI, ↓c_rL, ↓o_rL, ↓a_rL, ↓c_rngI, ↓o_rngI, ↓a_rngI, ↓c_rngL, ↓o_rngL, ↓a_rngL, ↓bd_s, ↓cs_s, ↓cs_n, ↓gd_t, ↓gB0, ↓gB1, ↓gOT, ↓gAS, ↓gOY, ↓gAY, ↓reduceIte, d10, nI_clamp, nI_1', i0eq, ↓gO33 h60, ↓gA34 h60, ↓gA35 h60, ↓gA36 h60, ↓gA37 h60, ↓gA38 h60, ↓gA39 h60, ↓gA40 h60, ↓gA41 h60, ↓gA42 h60, ↓gA43 h60, ↓gA44 h60, ↓gA45 h60, ↓gA46 h60, ↓gA47 h60, ↓gA48 h60, ↓gA49 h60, ↓gA50 h60, ↓gA51 h60, ↓gA52 h60, ↓gA53 h60, ↓gA54 h60, ↓gA55 h60, ↓gA56 h60, ↓gA57 h60, ↓gA58 h60, ↓gA59 h60, ↓cM_4 hRM, ↓cM_5 hRM, ↓cM_6 hRM, ↓cM_8 hRM, ↓cM_9 hRM, ↓cM_10 hRM, ↓cM_11 hRM, ↓cM_12 hRM, ↓cM_13 hRM, ↓cM_14 hRM, ↓cM_15 hRM, ↓cM_16 hRM, ↓cM_17 hRM, ↓cM_18 hRM, ↓cM_19 hRM, ↓cM_20 hRM, ↓cM_21 hRM, ↓cM_23 hRM, ↓cM_24 hRM, ↓cM_25 hRM, ↓cM_26 hRM, ↓cM_27 hRM, ↓cM_28 hRM, ↓cM_29 hRM, ↓cM_30 hRM, ↓cM_32 hRM, ↓bno8, ↓brf8]
            exact skip (by simp [VL, V, a4])
        | false =>
          rw [a3, b2i_f] at hp
          simp (disch := first | exact h60 | omega | with_unfolding_all exact h60) only [L_X8_isFirst_3, eq_false hnl, k1, eq_true a1, k4, k4j, eq_true a2, ↓bd_of hp, ↓bb_e, ↓c_sI, ↓o_sI, ↓a_sI, ↓c_sL, ↓o_sL, ↓a_sL, ↓c_rI, ↓o_rI, ↓a_rI, ↓c_rL, ↓o_rL, ↓a_rL, ↓c_rngI, ↓o_rngI, ↓a_rngI, ↓c_rngL, ↓o_rngL, ↓a_rngL, ↓bd_s, ↓cs_s, ↓cs_n, ↓gd_t, ↓gB0, ↓gB1, ↓gOT, ↓gAS, ↓gOY, ↓gAY, ↓reduceIte, d10, nI_clamp, nI_1', i0eq, ↓gO33 h60, ↓gA34 h60, ↓gA35 h60, ↓gA36 h60, ↓gA37 h60, ↓gA38 h60, ↓gA39 h60, ↓gA40 h60, ↓gA41 h60, ↓gA42 h60, ↓gA43 h60, ↓gA44 h60, ↓gA45 h60, ↓gA46 h60, ↓gA47 h60, ↓gA48 h60, ↓gA49 h60, ↓gA50 h60, ↓gA51 h60, ↓gA52 h60, ↓gA53 h60, ↓gA54 h60, ↓gA55 h60, ↓gA56 h60, ↓gA57 h60, ↓gA58 h60, ↓gA59 h60, ↓cM_4 hRM, ↓cM_5 hRM, ↓cM_6 hRM, ↓cM_8 hRM, ↓cM_9 hRM, ↓cM_10 hRM, ↓cM_11 hRM, ↓cM_12 hRM, ↓cM_13 hRM, ↓cM_14 hRM, ↓cM_15 hRM, ↓cM_16 hRM, ↓cM_17 hRM, ↓cM_18 hRM, ↓cM_19 hRM, ↓cM_20 hRM, ↓cM_21 hRM, ↓cM_23 hRM, ↓cM_24 hRM, ↓cM_25 hRM, ↓cM_26 hRM, ↓cM_27 hRM, ↓cM_28 hRM, ↓cM_29 hRM, ↓cM_30 hRM, ↓cM_32 hRM, ↓bno8, ↓brf8]
          exact skip (by simp [VL, V, a3])
      · simp (disch := first | exact h60 | omega | with_unfolding_all exact h60) only [L_X8_isFirst_3, eq_false hnl, k1, eq_true a1, k4, k4j, eq_false a2, ↓bb_e, ↓c_sI, ↓o_sI, ↓a_sI, ↓c_sL, ↓o_sL, ↓a_sL, ↓c_rI, ↓o_rI, ↓a_rI, ↓c_rL, ↓o_rL, ↓a_rL, ↓c_rngI, ↓o_rngI, ↓a_rngI, ↓c_rngL, ↓o_rngL, ↓a_rngL, ↓bd_s, ↓cs_s, ↓cs_n, ↓gd_t, ↓gB0, ↓gB1, ↓gOT, ↓gAS, ↓gOY, ↓gAY, ↓reduceIte, d10, nI_clamp, nI_1', i0eq, ↓gO33 h60, ↓gA34 h60, ↓gA35 h60, ↓gA36 h60, ↓gA37 h60, ↓gA38 h60, ↓gA39 h60, ↓gA40 h60, ↓gA41 h60, ↓gA42 h60, ↓gA43 h60, ↓gA44 h60, ↓gA45 h60, ↓gA46 h60, ↓gA47 h60, ↓gA48 h60, ↓gA49 h60, ↓gA50 h60, ↓gA51 h60, ↓gA52 h60, ↓gA53 h60, ↓gA54 h60, ↓gA55 h60, ↓gA56 h60, ↓gA57 h60, ↓gA58 h60, ↓gA59 h60, ↓cM_4 hRM, ↓cM_5 hRM, ↓cM_6 hRM, ↓cM_8 hRM, ↓cM_9 hRM, ↓cM_10 hRM, ↓cM_11 hRM, ↓cM_12 hRM, ↓cM_13 hRM, ↓cM_14 hRM, ↓cM_15 hRM, ↓cM_16 hRM, ↓cM_17 hRM, ↓cM_18 hRM, ↓cM_19 hRM, ↓cM_20 hRM, ↓cM_21 hRM, ↓cM_23 hRM, ↓cM_24 hRM, ↓cM_25 hRM, ↓cM_26 hRM, ↓cM_27 hRM, ↓cM_28 hRM, ↓cM_29 hRM, ↓cM_30 hRM, ↓cM_32 hRM, ↓bno8, ↓brf8]
        exact skip (by simp [a2])
    · simp (disch := first | exact h60 | omega | with_unfolding_all exact h60) only [L_X8_isFirst_3, eq_false hnl, k1, eq_false a1, ↓bb_e, ↓c_sI, ↓o_sI, ↓a_sI, ↓c_sL, ↓o_sL, ↓a_sL, ↓c_rI, ↓o_rI, ↓a_rI, ↓c_rL, ↓o_rL, ↓a_rL, ↓c_rngI, ↓o_rngI, ↓a_rngI, ↓c_rngL, ↓o_rngL, ↓a_rngL, ↓bd_s, ↓cs_s, ↓cs_n, ↓gd_t, ↓gB0, ↓gB1, ↓gOT, ↓gAS, ↓gOY, ↓gAY, ↓reduceIte, d10, nI_clamp, nI_1', i0eq, ↓gO33 h60, ↓gA34 h60, ↓gA35 h60, ↓gA36 h60, ↓gA37 h60, ↓gA38 h60, ↓gA39 h60, ↓gA40 h60, ↓gA41 h60, ↓gA42 h60, ↓gA43 h60, ↓gA44 h60, ↓gA45 h60, ↓gA46 h60, ↓gA47 h60, ↓gA48 h60, ↓gA49 h60, ↓gA50 h60, ↓gA51 h60, ↓gA52 h60, ↓gA53 h60, ↓gA54 h60, ↓gA55 h60, ↓gA56 h60, ↓gA57 h60, ↓gA58 h60, ↓gA59 h60, ↓cM_4 hRM, ↓cM_5 hRM, ↓cM_6 hRM, ↓cM_8 hRM, ↓cM_9 hRM, ↓cM_10 hRM, ↓cM_11 hRM, ↓cM_12 hRM, ↓cM_13 hRM, ↓cM_14 hRM, ↓cM_15 hRM, ↓cM_16 hRM, ↓cM_17 hRM, ↓cM_18 hRM, ↓cM_19 hRM, ↓cM_20 hRM, ↓cM_21 hRM, ↓cM_23 hRM, ↓cM_24 hRM, ↓cM_25 hRM, ↓cM_26 hRM, ↓cM_27 hRM, ↓cM_28 hRM, ↓cM_29 hRM, ↓cM_30 hRM, ↓cM_32 hRM, ↓bno8, ↓brf8]
      exact skip (by simp [VL, a1])
theorem fst_t {w : Mm} {A : Ab} (hW : Wf A) (hM : MR w A) {t j : Nat} (ht : t < 2 ^ 31) (hj : j < an A) (p d' : Int32) : f_X8_isFirst 33 (nI j) (nI t) p d' w = some (b2i (isFst A t p d' j)) := by
  have h80 := hW.1.1
  have := fst_l hW hM ht hj (p := p) (d' := d') (k := fun _ => some 1) j 1000 0 (by omega) (by omega)
  rw [f_X8_isFirst, ← nI_0]
  refine this.trans ?_
  unfold isFst
  cases ex (fun i => VL A t p d' 3 i && decide (aI A 40 i = aI A 40 j)) 0 j <;> rfl
def nS (A : Ab) (t : Nat) (p2 p d : Int32) (j : Nat) : Nat := if V A t p d j = true then (if 3 ≤ p2 then (if aI A 37 j = 2 then m39 A j else if aI A 37 j = 3 then (if isFst A t p d j = true then 1 else 0) else 0) else if aI A 37 j = p2 then 1 else 0) else 0
theorem num_l {w : Mm} {A : Ab} (hW : Wf A) (hM : MR w A) {t : Nat} (ht : t < 2 ^ 31) {p2 p d' : Int32} {k : Int32 → Int32 → Option (Int32 × Mm)} : ∀ (d n j c : Nat), j + d = an A → d < n → L_X8_number_60 33 (nI t) p2 p d' w k n (nI c) (nI j) = k (nI (c + sm (nS A t p2 p d') j d)) (nI (an A)) := by
  have h80 := hW.1.1
  obtain ⟨hRM, h60, h7, -, -, hT, -⟩ := id hM
  intro d
  induction d with
  | zero =>
    intro n j c h1 h2
    obtain ⟨n, rfl⟩ : ∃ m, n = m + 1 := ⟨n - 1, by omega⟩
    have e : j = an A := by omega
    subst e
    rw [L_X8_number_60, oO33 h60, gd_t, h7, if_pos (nI_le (Nat.le_refl _) (by omega))]
    rfl
  | succ d ih =>
    intro n j c h1 h2
    obtain ⟨n, rfl⟩ : ∃ m, n = m + 1 := ⟨n - 1, by omega⟩
    have hj : j < an A := by omega
    have hnl : ¬ nI (an A) ≤ nI j := nI_ge (by omega) (by omega)
    obtain ⟨k1, -, k3, -⟩ := hT.1 j hj
    have hp := part8_t hW hM hj ht
    have hv := seesOf_t hW hM hj p d'
    have hr := (hW.1.2 j hj).2.2.1
    have step : ∀ m, nS A t p2 p d' j = m → L_X8_number_60 33 (nI t) p2 p d' w k n (nI (c + m)) (nI (j + 1)) = k (nI (c + sm (nS A t p2 p d') j (d + 1))) (nI (an A)) := fun m hm => by
      rw [ih n (j + 1) (c + m) (by omega) (by omega), sm, hm, Nat.add_assoc]
    have a0 : nI c + 0 = nI (c + 0) := by rw [Int32.add_zero]; rfl
    cases a3 : decide (t ∈ line A j) with
    | true =>
      rw [a3, b2i_t] at hp
      cases a4 : seen A p d' (line A j) with
      | true =>
        rw [a4, b2i_t] at hv
        have hV : V A t p d' j = true := by simp only [V, a3, a4, Bool.and_self]
        by_cases b1 : 3 ≤ p2
        · by_cases b2 : aI A 37 j = 2
          · have hm : (if 0 < aI A 39 j then aI A 39 j else 0) = nI (m39 A j) := by
              unfold m39
              by_cases c1 : 0 < aI A 39 j
              · rw [if_pos c1]
                rw [i_lt, li_0] at c1
                exact i_nI (by omega)
              · rw [if_neg c1]
                rw [i_lt, li_0] at c1
                rw [show (aI A 39 j).toInt.toNat = 0 by omega]
                rfl
            simp (disch := first | exact h60 | omega | with_unfolding_all exact h60) only [L_X8_number_60, h7, eq_false hnl, ↓bd_of hp, ↓bd_of hv, eq_true b1, k1, eq_true b2, k3, ↓bb_e, ↓c_sI, ↓o_sI, ↓a_sI, ↓c_sL, ↓o_sL, ↓a_sL, ↓c_rI, ↓o_rI, ↓a_rI, ↓c_rL, ↓o_rL, ↓a_rL, ↓c_rngI, ↓o_rngI, ↓a_rngI, ↓c_rngL, ↓o_rngL, ↓a_rngL, ↓bd_s, ↓cs_s, ↓cs_n, ↓gd_t, ↓gB0, ↓gB1, ↓gOT, ↓gAS, ↓gOY, ↓gAY, ↓reduceIte, d10, nI_clamp, nI_1', i0eq, ↓gO33 h60, ↓gA34 h60, ↓gA35 h60, ↓gA36 h60, ↓gA37 h60, ↓gA38 h60, ↓gA39 h60, ↓gA40 h60, ↓gA41 h60, ↓gA42 h60, ↓gA43 h60, ↓gA44 h60, ↓gA45 h60, ↓gA46 h60, ↓gA47 h60, ↓gA48 h60, ↓gA49 h60, ↓gA50 h60, ↓gA51 h60, ↓gA52 h60, ↓gA53 h60, ↓gA54 h60, ↓gA55 h60, ↓gA56 h60, ↓gA57 h60, ↓gA58 h60, ↓gA59 h60, ↓cM_4 hRM, ↓cM_5 hRM, ↓cM_6 hRM, ↓cM_8 hRM, ↓cM_9 hRM, ↓cM_10 hRM, ↓cM_11 hRM, ↓cM_12 hRM, ↓cM_13 hRM, ↓cM_14 hRM, ↓cM_15 hRM, ↓cM_16 hRM, ↓cM_17 hRM, ↓cM_18 hRM, ↓cM_19 hRM, ↓cM_20 hRM, ↓cM_21 hRM, ↓cM_23 hRM, ↓cM_24 hRM, ↓cM_25 hRM, ↓cM_26 hRM, ↓cM_27 hRM, ↓cM_28 hRM, ↓cM_29 hRM, ↓cM_30 hRM, ↓cM_32 hRM, ↓bno8, ↓brf8]
            rw [hm, nI_add]
            exact step _ (by unfold nS; rw [if_pos hV, if_pos b1, if_pos b2])
          · by_cases b3 : aI A 37 j = 3
            · have hf := fst_t hW hM ht hj p d'
              cases b4 : isFst A t p d' j with
              | true =>
                rw [b4, b2i_t] at hf
                simp (disch := first | exact h60 | omega | with_unfolding_all exact h60) only [L_X8_number_60, h7, eq_false hnl, ↓bd_of hp, ↓bd_of hv, eq_true b1, k1, eq_false b2, eq_true b3, ↓bd_of hf, ↓bb_e, ↓c_sI, ↓o_sI, ↓a_sI, ↓c_sL, ↓o_sL, ↓a_sL, ↓c_rI, ↓o_rI, ↓a_rI, ↓c_rL, ↓o_rL, ↓a_rL, ↓c_rngI, ↓o_rngI, ↓a_rngI, ↓c_rngL, ↓o_rngL, ↓a_rngL, ↓bd_s, ↓cs_s, ↓cs_n, ↓gd_t, ↓gB0, ↓gB1, ↓gOT, ↓gAS, ↓gOY, ↓gAY, ↓reduceIte, d10, nI_clamp, nI_1', i0eq, ↓gO33 h60, ↓gA34 h60, ↓gA35 h60, ↓gA36 h60, ↓gA37 h60, ↓gA38 h60, ↓gA39 h60, ↓gA40 h60, ↓gA41 h60, ↓gA42 h60, ↓gA43 h60, ↓gA44 h60, ↓gA45 h60, ↓gA46 h60, ↓gA47 h60, ↓gA48 h60, ↓gA49 h60, ↓gA50 h60, ↓gA51 h60, ↓gA52 h60, ↓gA53 h60, ↓gA54 h60, ↓gA55 h60, ↓gA56 h60, ↓gA57 h60, ↓gA58 h60, ↓gA59 h60, ↓cM_4 hRM, ↓cM_5 hRM, ↓cM_6 hRM, ↓cM_8 hRM, ↓cM_9 hRM, ↓cM_10 hRM, ↓cM_11 hRM, ↓cM_12 hRM, ↓cM_13 hRM, ↓cM_14 hRM, ↓cM_15 hRM, ↓cM_16 hRM, ↓cM_17 hRM, ↓cM_18 hRM, ↓cM_19 hRM, ↓cM_20 hRM, ↓cM_21 hRM, ↓cM_23 hRM, ↓cM_24 hRM, ↓cM_25 hRM, ↓cM_26 hRM, ↓cM_27 hRM, ↓cM_28 hRM, ↓cM_29 hRM, ↓cM_30 hRM, ↓cM_32 hRM, ↓bno8, ↓brf8]
                exact step _ (by unfold nS; rw [if_pos hV, if_pos b1, if_neg b2, if_pos b3, if_pos b4])
              | false =>
                rw [b4, b2i_f] at hf
                simp (disch := first | exact h60 | omega | with_unfolding_all exact h60) only [L_X8_number_60, h7, eq_false hnl, ↓bd_of hp, ↓bd_of hv, eq_true b1, k1, eq_false b2, eq_true b3, ↓bd_of hf, ↓bb_e, ↓c_sI, ↓o_sI, ↓a_sI, ↓c_sL, ↓o_sL, ↓a_sL, ↓c_rI, ↓o_rI, ↓a_rI, ↓c_rL, ↓o_rL, ↓a_rL, ↓c_rngI, ↓o_rngI, ↓a_rngI, ↓c_rngL, ↓o_rngL, ↓a_rngL, ↓bd_s, ↓cs_s, ↓cs_n, ↓gd_t, ↓gB0, ↓gB1, ↓gOT, ↓gAS, ↓gOY, ↓gAY, ↓reduceIte, d10, nI_clamp, nI_1', i0eq, ↓gO33 h60, ↓gA34 h60, ↓gA35 h60, ↓gA36 h60, ↓gA37 h60, ↓gA38 h60, ↓gA39 h60, ↓gA40 h60, ↓gA41 h60, ↓gA42 h60, ↓gA43 h60, ↓gA44 h60, ↓gA45 h60, ↓gA46 h60, ↓gA47 h60, ↓gA48 h60, ↓gA49 h60, ↓gA50 h60, ↓gA51 h60, ↓gA52 h60, ↓gA53 h60, ↓gA54 h60, ↓gA55 h60, ↓gA56 h60, ↓gA57 h60, ↓gA58 h60, ↓gA59 h60, ↓cM_4 hRM, ↓cM_5 hRM, ↓cM_6 hRM, ↓cM_8 hRM, ↓cM_9 hRM, ↓cM_10 hRM, ↓cM_11 hRM, ↓cM_12 hRM, ↓cM_13 hRM, ↓cM_14 hRM, ↓cM_15 hRM, ↓cM_16 hRM, ↓cM_17 hRM, ↓cM_18 hRM, ↓cM_19 hRM, ↓cM_20 hRM, ↓cM_21 hRM, ↓cM_23 hRM, ↓cM_24 hRM, ↓cM_25 hRM, ↓cM_26 hRM, ↓cM_27 hRM, ↓cM_28 hRM, ↓cM_29 hRM, ↓cM_30 hRM, ↓cM_32 hRM, ↓bno8, ↓brf8]
                rw [a0]
                exact step _ (by unfold nS; rw [if_pos hV, if_pos b1, if_neg b2, if_pos b3, b4, if_neg (by decide)])
            · simp (disch := first | exact h60 | omega | with_unfolding_all exact h60) only [L_X8_number_60, h7, eq_false hnl, ↓bd_of hp, ↓bd_of hv, eq_true b1, k1, eq_false b2, eq_false b3, ↓bb_e, ↓c_sI, ↓o_sI, ↓a_sI, ↓c_sL, ↓o_sL, ↓a_sL, ↓c_rI, ↓o_rI, ↓a_rI, ↓c_rL, ↓o_rL, ↓a_rL, ↓c_rngI, ↓o_rngI, ↓a_rngI, ↓c_rngL, ↓o_rngL, ↓a_rngL, ↓bd_s, ↓cs_s, ↓cs_n, ↓gd_t, ↓gB0, ↓gB1, ↓gOT, ↓gAS, ↓gOY, ↓gAY, ↓reduceIte, d10, nI_clamp, nI_1', i0eq, ↓gO33 h60, ↓gA34 h60, ↓gA35 h60, ↓gA36 h60, ↓gA37 h60, ↓gA38 h60, ↓gA39 h60, ↓gA40 h60, ↓gA41 h60, ↓gA42 h60, ↓gA43 h60, ↓gA44 h60, ↓gA45 h60, ↓gA46 h60, ↓gA47 h60, ↓gA48 h60, ↓gA49 h60, ↓gA50 h60, ↓gA51 h60, ↓gA52 h60, ↓gA53 h60, ↓gA54 h60, ↓gA55 h60, ↓gA56 h60, ↓gA57 h60, ↓gA58 h60, ↓gA59 h60, ↓cM_4 hRM, ↓cM_5 hRM, ↓cM_6 hRM, ↓cM_8 hRM, ↓cM_9 hRM, ↓cM_10 hRM, ↓cM_11 hRM, ↓cM_12 hRM, ↓cM_13 hRM, ↓cM_14 hRM, ↓cM_15 hRM, ↓cM_16 hRM, ↓cM_17 hRM, ↓cM_18 hRM, ↓cM_19 hRM, ↓cM_20 hRM, ↓cM_21 hRM, ↓cM_23 hRM, ↓cM_24 hRM, ↓cM_25 hRM, ↓cM_26 hRM, ↓cM_27 hRM, ↓cM_28 hRM, ↓cM_29 hRM, ↓cM_30 hRM, ↓cM_32 hRM, ↓bno8, ↓brf8]
              exact step 0 (by unfold nS; rw [if_pos hV, if_pos b1, if_neg b2, if_neg b3])
        · by_cases b2 : aI A 37 j = p2
          · simp (disch := first | exact h60 | omega | with_unfolding_all exact h60) only [L_X8_number_60, h7, eq_false hnl, ↓bd_of hp, ↓bd_of hv, eq_false b1, k1, eq_true b2, ↓bb_e, ↓c_sI, ↓o_sI, ↓a_sI, ↓c_sL, ↓o_sL, ↓a_sL, ↓c_rI, ↓o_rI, ↓a_rI, ↓c_rL, ↓o_rL, ↓a_rL, ↓c_rngI, ↓o_rngI, ↓a_rngI, ↓c_rngL, ↓o_rngL, ↓a_rngL, ↓bd_s, ↓cs_s, ↓cs_n, ↓gd_t, ↓gB0, ↓gB1, ↓gOT, ↓gAS, ↓gOY, ↓gAY, ↓reduceIte, d10, nI_clamp, nI_1', i0eq, ↓gO33 h60, ↓gA34 h60, ↓gA35 h60, ↓gA36 h60, ↓gA37 h60, ↓gA38 h60, ↓gA39 h60, ↓gA40 h60, ↓gA41 h60, ↓gA42 h60, ↓gA43 h60, ↓gA44 h60, ↓gA45 h60, ↓gA46 h60, ↓gA47 h60, ↓gA48 h60, ↓gA49 h60, ↓gA50 h60, ↓gA51 h60, ↓gA52 h60, ↓gA53 h60, ↓gA54 h60, ↓gA55 h60, ↓gA56 h60, ↓gA57 h60, ↓gA58 h60, ↓gA59 h60, ↓cM_4 hRM, ↓cM_5 hRM, ↓cM_6 hRM, ↓cM_8 hRM, ↓cM_9 hRM, ↓cM_10 hRM, ↓cM_11 hRM, ↓cM_12 hRM, ↓cM_13 hRM, ↓cM_14 hRM, ↓cM_15 hRM, ↓cM_16 hRM, ↓cM_17 hRM, ↓cM_18 hRM, ↓cM_19 hRM, ↓cM_20 hRM, ↓cM_21 hRM, ↓cM_23 hRM, ↓cM_24 hRM, ↓cM_25 hRM, ↓cM_26 hRM, ↓cM_27 hRM, ↓cM_28 hRM, ↓cM_29 hRM, ↓cM_30 hRM, ↓cM_32 hRM, ↓bno8, ↓brf8]
            exact step _ (by unfold nS; rw [if_pos hV, if_neg b1, if_pos b2])
          · simp (disch := first | exact h60 | omega | with_unfolding_all exact h60) only [L_X8_number_60, h7, eq_false hnl, ↓bd_of hp, ↓bd_of hv, eq_false b1, k1, eq_false b2, ↓bb_e, ↓c_sI, ↓o_sI, ↓a_sI, ↓c_sL, ↓o_sL, ↓a_sL, ↓c_rI, ↓o_rI, ↓a_rI, ↓c_rL, ↓o_rL, ↓a_rL, ↓c_rngI, ↓o_rngI, ↓a_rngI, ↓c_rngL, ↓o_rngL, ↓a_rngL, ↓bd_s, ↓cs_s, ↓cs_n, ↓gd_t, ↓gB0, ↓gB1, ↓gOT, ↓gAS, ↓gOY, ↓gAY, ↓reduceIte, d10, nI_clamp, nI_1', i0eq, ↓gO33 h60, ↓gA34 h60, ↓gA35 h60, ↓gA36 h60, ↓gA37 h60, ↓gA38 h60, ↓gA39 h60, ↓gA40 h60, ↓gA41 h60, ↓gA42 h60, ↓gA43 h60, ↓gA44 h60, ↓gA45 h60, ↓gA46 h60, ↓gA47 h60, ↓gA48 h60, ↓gA49 h60, ↓gA50 h60, ↓gA51 h60, ↓gA52 h60, ↓gA53 h60, ↓gA54 h60, ↓gA55 h60, ↓gA56 h60, ↓gA57 h60, ↓gA58 h60, ↓gA59 h60, ↓cM_4 hRM, ↓cM_5 hRM, ↓cM_6 hRM, ↓cM_8 hRM, ↓cM_9 hRM, ↓cM_10 hRM, ↓cM_11 hRM, ↓cM_12 hRM, ↓cM_13 hRM, ↓cM_14 hRM, ↓cM_15 hRM, ↓cM_16 hRM, ↓cM_17 hRM, ↓cM_18 hRM, ↓cM_19 hRM, ↓cM_20 hRM, ↓cM_21 hRM, ↓cM_23 hRM, ↓cM_24 hRM, ↓cM_25 hRM, ↓cM_26 hRM, ↓cM_27 hRM, ↓cM_28 hRM, ↓cM_29 hRM, ↓cM_30 hRM, ↓cM_32 hRM, ↓bno8, ↓brf8]
            rw [a0]
            exact step _ (by unfold nS; rw [if_pos hV, if_neg b1, if_neg b2])
      | false =>
        rw [a4, b2i_f] at hv
        simp (disch := first | exact h60 | omega | with_unfolding_all exact h60) only [L_X8_number_60, h7, eq_false hnl, ↓bd_of hp, ↓bd_of hv, ↓bb_e, ↓c_sI, ↓o_sI, ↓a_sI, ↓c_sL, ↓o_sL, ↓a_sL, ↓c_rI, ↓o_rI, ↓a_rI, ↓c_rL, ↓o_rL, ↓a_rL, ↓c_rngI, ↓o_rngI, ↓a_rngI, ↓c_rngL, ↓o_rngL, ↓a_rngL, ↓bd_s, ↓cs_s, ↓cs_n, ↓gd_t, ↓gB0, ↓gB1, ↓gOT, ↓gAS, ↓gOY, ↓gAY, ↓reduceIte, d10, nI_clamp, nI_1', i0eq, ↓gO33 h60, ↓gA34 h60, ↓gA35 h60, ↓gA36 h60, ↓gA37 h60, ↓gA38 h60, ↓gA39 h60, ↓gA40 h60, ↓gA41 h60, ↓gA42 h60, ↓gA43 h60, ↓gA44 h60, ↓gA45 h60, ↓gA46 h60, ↓gA47 h60, ↓gA48 h60, ↓gA49 h60, ↓gA50 h60, ↓gA51 h60, ↓gA52 h60, ↓gA53 h60, ↓gA54 h60, ↓gA55 h60, ↓gA56 h60, ↓gA57 h60, ↓gA58 h60, ↓gA59 h60, ↓cM_4 hRM, ↓cM_5 hRM, ↓cM_6 hRM, ↓cM_8 hRM, ↓cM_9 hRM, ↓cM_10 hRM, ↓cM_11 hRM, ↓cM_12 hRM, ↓cM_13 hRM, ↓cM_14 hRM, ↓cM_15 hRM, ↓cM_16 hRM, ↓cM_17 hRM, ↓cM_18 hRM, ↓cM_19 hRM, ↓cM_20 hRM, ↓cM_21 hRM, ↓cM_23 hRM, ↓cM_24 hRM, ↓cM_25 hRM, ↓cM_26 hRM, ↓cM_27 hRM, ↓cM_28 hRM, ↓cM_29 hRM, ↓cM_30 hRM, ↓cM_32 hRM, ↓bno8, ↓brf8]
        exact step 0 (by unfold nS; rw [show V A t p d' j = false from by simp only [V, a4, Bool.and_false], if_neg (by decide)])
    | false =>
      rw [a3, b2i_f] at hp
      simp (disch := first | exact h60 | omega | with_unfolding_all exact h60) only [L_X8_number_60, h7, eq_false hnl, ↓bd_of hp, ↓bb_e, ↓c_sI, ↓o_sI, ↓a_sI, ↓c_sL, ↓o_sL, ↓a_sL, ↓c_rI, ↓o_rI, ↓a_rI, ↓c_rL, ↓o_rL, ↓a_rL, ↓c_rngI, ↓o_rngI, ↓a_rngI, ↓c_rngL, ↓o_rngL, ↓a_rngL, ↓bd_s, ↓cs_s, ↓cs_n, ↓gd_t, ↓gB0, ↓gB1, ↓gOT, ↓gAS, ↓gOY, ↓gAY, ↓reduceIte, d10, nI_clamp, nI_1', i0eq, ↓gO33 h60, ↓gA34 h60, ↓gA35 h60, ↓gA36 h60, ↓gA37 h60, ↓gA38 h60, ↓gA39 h60, ↓gA40 h60, ↓gA41 h60, ↓gA42 h60, ↓gA43 h60, ↓gA44 h60, ↓gA45 h60, ↓gA46 h60, ↓gA47 h60, ↓gA48 h60, ↓gA49 h60, ↓gA50 h60, ↓gA51 h60, ↓gA52 h60, ↓gA53 h60, ↓gA54 h60, ↓gA55 h60, ↓gA56 h60, ↓gA57 h60, ↓gA58 h60, ↓gA59 h60, ↓cM_4 hRM, ↓cM_5 hRM, ↓cM_6 hRM, ↓cM_8 hRM, ↓cM_9 hRM, ↓cM_10 hRM, ↓cM_11 hRM, ↓cM_12 hRM, ↓cM_13 hRM, ↓cM_14 hRM, ↓cM_15 hRM, ↓cM_16 hRM, ↓cM_17 hRM, ↓cM_18 hRM, ↓cM_19 hRM, ↓cM_20 hRM, ↓cM_21 hRM, ↓cM_23 hRM, ↓cM_24 hRM, ↓cM_25 hRM, ↓cM_26 hRM, ↓cM_27 hRM, ↓cM_28 hRM, ↓cM_29 hRM, ↓cM_30 hRM, ↓cM_32 hRM, ↓bno8, ↓brf8]
      exact step 0 (by unfold nS; rw [show V A t p d' j = false from by simp only [V, a3, Bool.false_and], if_neg (by decide)])
theorem sm_cf {g : Nat → Nat} {P : Nat → Bool} (h : ∀ j, g j = if P j = true then 1 else 0) : ∀ (d j : Nat), sm g j d = cf P j d
  | 0, _ => rfl
  | d + 1, j => by rw [sm, cf, sm_cf h d (j + 1), h]
theorem sm_add {g : Nat → Nat} {P : Nat → Bool} {f : Nat → Nat} (h : ∀ j, g j = (if P j = true then 1 else 0) + f j) : ∀ (d j : Nat), sm g j d = cf P j d + sm f j d
  | 0, _ => rfl
  | d + 1, j => by rw [sm, cf, sm, sm_add h d (j + 1), h]; omega
theorem V_st (A : Ab) (c : Int32) (t : Nat) (p d : Int32) : V (st A c) t p d = V A t p d := by
  funext j
  unfold V
  rw [line_st, seen_st]
theorem VL_st (A : Ab) (c : Int32) (t : Nat) (p d l : Int32) : VL (st A c) t p d l = VL A t p d l := by
  funext j
  unfold VL
  rw [V_st, aI_st (by omega)]
theorem nS_st (A : Ab) (c : Int32) (t : Nat) (p2 p d : Int32) : nS (st A c) t p2 p d = nS A t p2 p d := by
  funext j
  unfold nS m39 isFst
  simp only [V_st, VL_st, aI_st (show 37 ≠ 33 by omega), aI_st (show 39 ≠ 33 by omega), aI_st (show 40 ≠ 33 by omega)]
theorem M_numberR {v : Mm} {A : Ab} (hW : Wf A) (h60 : 60 ≤ v.1) (hM : MR (m0 v) A) {p1 p2 p3 p4 c : Int32} (h : (¬ isT A p1 ∧ c = 2) ∨ (isT A p1 ∧ ¬ (0 ≤ p3.toInt ∧ p3.toInt < 16) ∧ c = 2) ∨ (isT A p1 ∧ (0 ≤ p3.toInt ∧ p3.toInt < 16) ∧ ¬ ((0 ≤ p2.toInt ∧ p2.toInt ≤ 3) ∧ 0 ≤ p4.toInt ∧ p4.toInt ≤ 300000) ∧ c = 5)) : f_X8_number 33 p1 p2 p3 p4 v = some (-1, sI (m0 v) 33 0 c) := by
  rw [f_X8_number, oO33 h60, gd_t]
  unfold m0 at hM ⊢
  generalize sI (sI v 33 1 0) 33 0 0 = w at *
  clear h60
  obtain ⟨hRM, h60, -⟩ := id hM
  rcases h with ⟨a1, rfl⟩ | ⟨a1, a2, rfl⟩ | ⟨a1, a2, a3, rfl⟩
  · simp (disch := first | exact h60 | omega | with_unfolding_all exact h60) only [↓bd_of (mt_none hM hW a1), ↓bb_e, ↓c_sI, ↓o_sI, ↓a_sI, ↓c_sL, ↓o_sL, ↓a_sL, ↓c_rI, ↓o_rI, ↓a_rI, ↓c_rL, ↓o_rL, ↓a_rL, ↓c_rngI, ↓o_rngI, ↓a_rngI, ↓c_rngL, ↓o_rngL, ↓a_rngL, ↓bd_s, ↓cs_s, ↓cs_n, ↓gd_t, ↓gB0, ↓gB1, ↓gOT, ↓gAS, ↓gOY, ↓gAY, ↓reduceIte, d10, nI_clamp, nI_1', i0eq, ↓gO33 h60, ↓gA34 h60, ↓gA35 h60, ↓gA36 h60, ↓gA37 h60, ↓gA38 h60, ↓gA39 h60, ↓gA40 h60, ↓gA41 h60, ↓gA42 h60, ↓gA43 h60, ↓gA44 h60, ↓gA45 h60, ↓gA46 h60, ↓gA47 h60, ↓gA48 h60, ↓gA49 h60, ↓gA50 h60, ↓gA51 h60, ↓gA52 h60, ↓gA53 h60, ↓gA54 h60, ↓gA55 h60, ↓gA56 h60, ↓gA57 h60, ↓gA58 h60, ↓gA59 h60, ↓cM_4 hRM, ↓cM_5 hRM, ↓cM_6 hRM, ↓cM_8 hRM, ↓cM_9 hRM, ↓cM_10 hRM, ↓cM_11 hRM, ↓cM_12 hRM, ↓cM_13 hRM, ↓cM_14 hRM, ↓cM_15 hRM, ↓cM_16 hRM, ↓cM_17 hRM, ↓cM_18 hRM, ↓cM_19 hRM, ↓cM_20 hRM, ↓cM_21 hRM, ↓cM_23 hRM, ↓cM_24 hRM, ↓cM_25 hRM, ↓cM_26 hRM, ↓cM_27 hRM, ↓cM_28 hRM, ↓cM_29 hRM, ↓cM_30 hRM, ↓cM_32 hRM, ↓bno8, ↓brf8]
  · obtain ⟨i, hi, rfl⟩ := isT_ex a1
    simp (disch := first | exact h60 | omega | with_unfolding_all exact h60) only [↓bd_of (mt_some hM hW hi), ↓bd_of (mP_f w a2), ↓bb_e, ↓c_sI, ↓o_sI, ↓a_sI, ↓c_sL, ↓o_sL, ↓a_sL, ↓c_rI, ↓o_rI, ↓a_rI, ↓c_rL, ↓o_rL, ↓a_rL, ↓c_rngI, ↓o_rngI, ↓a_rngI, ↓c_rngL, ↓o_rngL, ↓a_rngL, ↓bd_s, ↓cs_s, ↓cs_n, ↓gd_t, ↓gB0, ↓gB1, ↓gOT, ↓gAS, ↓gOY, ↓gAY, ↓reduceIte, d10, nI_clamp, nI_1', i0eq, ↓gO33 h60, ↓gA34 h60, ↓gA35 h60, ↓gA36 h60, ↓gA37 h60, ↓gA38 h60, ↓gA39 h60, ↓gA40 h60, ↓gA41 h60, ↓gA42 h60, ↓gA43 h60, ↓gA44 h60, ↓gA45 h60, ↓gA46 h60, ↓gA47 h60, ↓gA48 h60, ↓gA49 h60, ↓gA50 h60, ↓gA51 h60, ↓gA52 h60, ↓gA53 h60, ↓gA54 h60, ↓gA55 h60, ↓gA56 h60, ↓gA57 h60, ↓gA58 h60, ↓gA59 h60, ↓cM_4 hRM, ↓cM_5 hRM, ↓cM_6 hRM, ↓cM_8 hRM, ↓cM_9 hRM, ↓cM_10 hRM, ↓cM_11 hRM, ↓cM_12 hRM, ↓cM_13 hRM, ↓cM_14 hRM, ↓cM_15 hRM, ↓cM_16 hRM, ↓cM_17 hRM, ↓cM_18 hRM, ↓cM_19 hRM, ↓cM_20 hRM, ↓cM_21 hRM, ↓cM_23 hRM, ↓cM_24 hRM, ↓cM_25 hRM, ↓cM_26 hRM, ↓cM_27 hRM, ↓cM_28 hRM, ↓cM_29 hRM, ↓cM_30 hRM, ↓cM_32 hRM, ↓bno8, ↓brf8]
  · obtain ⟨i, hi, rfl⟩ := isT_ex a1
    by_cases d1 : p2 < 0
    · simp (disch := first | exact h60 | omega | with_unfolding_all exact h60) only [↓bd_of (mt_some hM hW hi), ↓bd_of (mP_t w a2), eq_true d1, ↓bb_e, ↓c_sI, ↓o_sI, ↓a_sI, ↓c_sL, ↓o_sL, ↓a_sL, ↓c_rI, ↓o_rI, ↓a_rI, ↓c_rL, ↓o_rL, ↓a_rL, ↓c_rngI, ↓o_rngI, ↓a_rngI, ↓c_rngL, ↓o_rngL, ↓a_rngL, ↓bd_s, ↓cs_s, ↓cs_n, ↓gd_t, ↓gB0, ↓gB1, ↓gOT, ↓gAS, ↓gOY, ↓gAY, ↓reduceIte, d10, nI_clamp, nI_1', i0eq, ↓gO33 h60, ↓gA34 h60, ↓gA35 h60, ↓gA36 h60, ↓gA37 h60, ↓gA38 h60, ↓gA39 h60, ↓gA40 h60, ↓gA41 h60, ↓gA42 h60, ↓gA43 h60, ↓gA44 h60, ↓gA45 h60, ↓gA46 h60, ↓gA47 h60, ↓gA48 h60, ↓gA49 h60, ↓gA50 h60, ↓gA51 h60, ↓gA52 h60, ↓gA53 h60, ↓gA54 h60, ↓gA55 h60, ↓gA56 h60, ↓gA57 h60, ↓gA58 h60, ↓gA59 h60, ↓cM_4 hRM, ↓cM_5 hRM, ↓cM_6 hRM, ↓cM_8 hRM, ↓cM_9 hRM, ↓cM_10 hRM, ↓cM_11 hRM, ↓cM_12 hRM, ↓cM_13 hRM, ↓cM_14 hRM, ↓cM_15 hRM, ↓cM_16 hRM, ↓cM_17 hRM, ↓cM_18 hRM, ↓cM_19 hRM, ↓cM_20 hRM, ↓cM_21 hRM, ↓cM_23 hRM, ↓cM_24 hRM, ↓cM_25 hRM, ↓cM_26 hRM, ↓cM_27 hRM, ↓cM_28 hRM, ↓cM_29 hRM, ↓cM_30 hRM, ↓cM_32 hRM, ↓bno8, ↓brf8]
    · by_cases d2 : 3 < p2
      · simp (disch := first | exact h60 | omega | with_unfolding_all exact h60) only [↓bd_of (mt_some hM hW hi), ↓bd_of (mP_t w a2), eq_false d1, eq_true d2, ↓bb_e, ↓c_sI, ↓o_sI, ↓a_sI, ↓c_sL, ↓o_sL, ↓a_sL, ↓c_rI, ↓o_rI, ↓a_rI, ↓c_rL, ↓o_rL, ↓a_rL, ↓c_rngI, ↓o_rngI, ↓a_rngI, ↓c_rngL, ↓o_rngL, ↓a_rngL, ↓bd_s, ↓cs_s, ↓cs_n, ↓gd_t, ↓gB0, ↓gB1, ↓gOT, ↓gAS, ↓gOY, ↓gAY, ↓reduceIte, d10, nI_clamp, nI_1', i0eq, ↓gO33 h60, ↓gA34 h60, ↓gA35 h60, ↓gA36 h60, ↓gA37 h60, ↓gA38 h60, ↓gA39 h60, ↓gA40 h60, ↓gA41 h60, ↓gA42 h60, ↓gA43 h60, ↓gA44 h60, ↓gA45 h60, ↓gA46 h60, ↓gA47 h60, ↓gA48 h60, ↓gA49 h60, ↓gA50 h60, ↓gA51 h60, ↓gA52 h60, ↓gA53 h60, ↓gA54 h60, ↓gA55 h60, ↓gA56 h60, ↓gA57 h60, ↓gA58 h60, ↓gA59 h60, ↓cM_4 hRM, ↓cM_5 hRM, ↓cM_6 hRM, ↓cM_8 hRM, ↓cM_9 hRM, ↓cM_10 hRM, ↓cM_11 hRM, ↓cM_12 hRM, ↓cM_13 hRM, ↓cM_14 hRM, ↓cM_15 hRM, ↓cM_16 hRM, ↓cM_17 hRM, ↓cM_18 hRM, ↓cM_19 hRM, ↓cM_20 hRM, ↓cM_21 hRM, ↓cM_23 hRM, ↓cM_24 hRM, ↓cM_25 hRM, ↓cM_26 hRM, ↓cM_27 hRM, ↓cM_28 hRM, ↓cM_29 hRM, ↓cM_30 hRM, ↓cM_32 hRM, ↓bno8, ↓brf8]
      · have h4 : ¬ (0 ≤ p4.toInt ∧ p4.toInt ≤ 300000) := fun q => a3 ⟨by rw [i_lt, li_0] at d1; rw [i_lt, li_3] at d2; omega, q⟩
        simp (disch := first | exact h60 | omega | with_unfolding_all exact h60) only [↓bd_of (mt_some hM hW hi), ↓bd_of (mP_t w a2), eq_false d1, eq_false d2, ↓bd_of (mD_f w h4), ↓bb_e, ↓c_sI, ↓o_sI, ↓a_sI, ↓c_sL, ↓o_sL, ↓a_sL, ↓c_rI, ↓o_rI, ↓a_rI, ↓c_rL, ↓o_rL, ↓a_rL, ↓c_rngI, ↓o_rngI, ↓a_rngI, ↓c_rngL, ↓o_rngL, ↓a_rngL, ↓bd_s, ↓cs_s, ↓cs_n, ↓gd_t, ↓gB0, ↓gB1, ↓gOT, ↓gAS, ↓gOY, ↓gAY, ↓reduceIte, d10, nI_clamp, nI_1', i0eq, ↓gO33 h60, ↓gA34 h60, ↓gA35 h60, ↓gA36 h60, ↓gA37 h60, ↓gA38 h60, ↓gA39 h60, ↓gA40 h60, ↓gA41 h60, ↓gA42 h60, ↓gA43 h60, ↓gA44 h60, ↓gA45 h60, ↓gA46 h60, ↓gA47 h60, ↓gA48 h60, ↓gA49 h60, ↓gA50 h60, ↓gA51 h60, ↓gA52 h60, ↓gA53 h60, ↓gA54 h60, ↓gA55 h60, ↓gA56 h60, ↓gA57 h60, ↓gA58 h60, ↓gA59 h60, ↓cM_4 hRM, ↓cM_5 hRM, ↓cM_6 hRM, ↓cM_8 hRM, ↓cM_9 hRM, ↓cM_10 hRM, ↓cM_11 hRM, ↓cM_12 hRM, ↓cM_13 hRM, ↓cM_14 hRM, ↓cM_15 hRM, ↓cM_16 hRM, ↓cM_17 hRM, ↓cM_18 hRM, ↓cM_19 hRM, ↓cM_20 hRM, ↓cM_21 hRM, ↓cM_23 hRM, ↓cM_24 hRM, ↓cM_25 hRM, ↓cM_26 hRM, ↓cM_27 hRM, ↓cM_28 hRM, ↓cM_29 hRM, ↓cM_30 hRM, ↓cM_32 hRM, ↓bno8, ↓brf8]
theorem M_number {v : Mm} {A : Ab} (hW : Wf A) (h60 : 60 ≤ v.1) (hM : MR (m0 v) A) {t : Nat} (ht : t < an A) {p2 p3 p4 : Int32} (h3 : 0 ≤ p3.toInt ∧ p3.toInt < 16) (h2 : 0 ≤ p2.toInt ∧ p2.toInt ≤ 3) (h4 : 0 ≤ p4.toInt ∧ p4.toInt ≤ 300000) : f_X8_number 33 (nI t) p2 p3 p4 v = some (nI (sm (nS A t p2 p3 p4) 0 (an A)), m0 v) := by
  have h80 := hW.1.1
  rw [f_X8_number, oO33 h60, gd_t]
  unfold m0 at hM ⊢
  generalize sI (sI v 33 1 0) 33 0 0 = w at *
  clear h60
  have hl := num_l hW hM (t := t) (by omega) (p2 := p2) (p := p3) (d' := p4) (k := fun a50 a51 => some (a50, w)) (an A) 1000 0 0 (by omega) (by omega)
  rw [nI_0, Nat.zero_add] at hl
  obtain ⟨hRM, h60, -⟩ := id hM
  have d1 : ¬ p2 < 0 := by rw [i_lt, li_0]; omega
  have d2 : ¬ 3 < p2 := by rw [i_lt, li_3]; omega
  simp (disch := first | exact h60 | omega | with_unfolding_all exact h60) only [↓bd_of (mt_some hM hW ht), ↓bd_of (mP_t w h3), eq_false d1, eq_false d2, ↓bd_of (mD_t w h4), ↓hl, ↓bb_e, ↓c_sI, ↓o_sI, ↓a_sI, ↓c_sL, ↓o_sL, ↓a_sL, ↓c_rI, ↓o_rI, ↓a_rI, ↓c_rL, ↓o_rL, ↓a_rL, ↓c_rngI, ↓o_rngI, ↓a_rngI, ↓c_rngL, ↓o_rngL, ↓a_rngL, ↓bd_s, ↓cs_s, ↓cs_n, ↓gd_t, ↓gB0, ↓gB1, ↓gOT, ↓gAS, ↓gOY, ↓gAY, ↓reduceIte, d10, nI_clamp, nI_1', i0eq, ↓gO33 h60, ↓gA34 h60, ↓gA35 h60, ↓gA36 h60, ↓gA37 h60, ↓gA38 h60, ↓gA39 h60, ↓gA40 h60, ↓gA41 h60, ↓gA42 h60, ↓gA43 h60, ↓gA44 h60, ↓gA45 h60, ↓gA46 h60, ↓gA47 h60, ↓gA48 h60, ↓gA49 h60, ↓gA50 h60, ↓gA51 h60, ↓gA52 h60, ↓gA53 h60, ↓gA54 h60, ↓gA55 h60, ↓gA56 h60, ↓gA57 h60, ↓gA58 h60, ↓gA59 h60, ↓cM_4 hRM, ↓cM_5 hRM, ↓cM_6 hRM, ↓cM_8 hRM, ↓cM_9 hRM, ↓cM_10 hRM, ↓cM_11 hRM, ↓cM_12 hRM, ↓cM_13 hRM, ↓cM_14 hRM, ↓cM_15 hRM, ↓cM_16 hRM, ↓cM_17 hRM, ↓cM_18 hRM, ↓cM_19 hRM, ↓cM_20 hRM, ↓cM_21 hRM, ↓cM_23 hRM, ↓cM_24 hRM, ↓cM_25 hRM, ↓cM_26 hRM, ↓cM_27 hRM, ↓cM_28 hRM, ↓cM_29 hRM, ↓cM_30 hRM, ↓cM_32 hRM, ↓bno8, ↓brf8]
theorem C_numberR {u : Mm} {A : Ab} (hW : Wf A) (hC : CR u A) {p1 p2 p3 p4 c : Int32} (h : (¬ isT A p1 ∧ c = 2) ∨ (isT A p1 ∧ ¬ (0 ≤ p3.toInt ∧ p3.toInt < 16) ∧ c = 2) ∨ (isT A p1 ∧ (0 ≤ p3.toInt ∧ p3.toInt < 16) ∧ ¬ ((0 ≤ p2.toInt ∧ p2.toInt ≤ 3) ∧ 0 ≤ p4.toInt ∧ p4.toInt ≤ 300000) ∧ c = 5)) : f_X7_number 0 p1 p2 p3 p4 u = some (-1, sI u 0 5 c) := by
  obtain ⟨hRC, hN, -⟩ := id hC
  have hn := hN.1
  have h60 : 60 ≤ u.1 := by omega
  rcases h with ⟨a1, rfl⟩ | ⟨a1, a2, rfl⟩ | ⟨a1, a2, a3, rfl⟩
  · simp (disch := first | exact h60 | omega | with_unfolding_all exact h60) only [f_X7_number, ↓bd_of (at_none hC hW a1), ↓bb_e, ↓c_sI, ↓o_sI, ↓a_sI, ↓c_sL, ↓o_sL, ↓a_sL, ↓c_rI, ↓o_rI, ↓a_rI, ↓c_rL, ↓o_rL, ↓a_rL, ↓c_rngI, ↓o_rngI, ↓a_rngI, ↓c_rngL, ↓o_rngL, ↓a_rngL, ↓bd_s, ↓cs_s, ↓cs_n, ↓gd_t, ↓gB0, ↓gB1, ↓gOT, ↓gAS, ↓gOY, ↓gAY, ↓reduceIte, d10, nI_clamp, nI_1', i0eq, ↓gO0 h60, ↓gO2 h60, ↓gO6 h60, ↓gO10 h60, ↓gO11 h60, ↓gO14 h60, ↓gO21 h60, ↓gA1 h60, ↓gA3 h60, ↓gA4 h60, ↓gA5 h60, ↓gA7 h60, ↓gA8 h60, ↓gA9 h60, ↓gA12 h60, ↓gA13 h60, ↓gA15 h60, ↓gA16 h60, ↓gA17 h60, ↓gA18 h60, ↓gA19 h60, ↓gA20 h60, ↓gA22 h60, ↓gA23 h60, ↓gA24 h60, ↓cC_0_0 hRC, ↓cC_0_1 hRC, ↓cC_0_2 hRC, ↓cC_0_3 hRC, ↓cC_0_4 hRC, ↓cC_2_0 hRC, ↓cC_2_2 hRC, ↓cC_2_3 hRC, ↓cC_6_0 hRC, ↓cC_6_1 hRC, ↓cC_6_2 hRC, ↓cC_10_0 hRC, ↓cC_10_1 hRC, ↓cC_10_2 hRC, ↓cC_10_3 hRC, ↓cC_10_4 hRC, ↓cC_10_5 hRC, ↓cC_11_0 hRC, ↓cC_11_1 hRC, ↓cC_14_0 hRC, ↓cC_14_1 hRC, ↓cC_21_0 hRC, ↓cC_21_1 hRC, ↓cC_21_2 hRC, ↓bdn7, ↓brf7, ↓bgr7, ↓ban7]
  · obtain ⟨i, hi, rfl⟩ := isT_ex a1
    simp (disch := first | exact h60 | omega | with_unfolding_all exact h60) only [f_X7_number, ↓bd_of (at_some hC hW hi), ↓bd_of (isP_f u a2), ↓bb_e, ↓c_sI, ↓o_sI, ↓a_sI, ↓c_sL, ↓o_sL, ↓a_sL, ↓c_rI, ↓o_rI, ↓a_rI, ↓c_rL, ↓o_rL, ↓a_rL, ↓c_rngI, ↓o_rngI, ↓a_rngI, ↓c_rngL, ↓o_rngL, ↓a_rngL, ↓bd_s, ↓cs_s, ↓cs_n, ↓gd_t, ↓gB0, ↓gB1, ↓gOT, ↓gAS, ↓gOY, ↓gAY, ↓reduceIte, d10, nI_clamp, nI_1', i0eq, ↓gO0 h60, ↓gO2 h60, ↓gO6 h60, ↓gO10 h60, ↓gO11 h60, ↓gO14 h60, ↓gO21 h60, ↓gA1 h60, ↓gA3 h60, ↓gA4 h60, ↓gA5 h60, ↓gA7 h60, ↓gA8 h60, ↓gA9 h60, ↓gA12 h60, ↓gA13 h60, ↓gA15 h60, ↓gA16 h60, ↓gA17 h60, ↓gA18 h60, ↓gA19 h60, ↓gA20 h60, ↓gA22 h60, ↓gA23 h60, ↓gA24 h60, ↓cC_0_0 hRC, ↓cC_0_1 hRC, ↓cC_0_2 hRC, ↓cC_0_3 hRC, ↓cC_0_4 hRC, ↓cC_2_0 hRC, ↓cC_2_2 hRC, ↓cC_2_3 hRC, ↓cC_6_0 hRC, ↓cC_6_1 hRC, ↓cC_6_2 hRC, ↓cC_10_0 hRC, ↓cC_10_1 hRC, ↓cC_10_2 hRC, ↓cC_10_3 hRC, ↓cC_10_4 hRC, ↓cC_10_5 hRC, ↓cC_11_0 hRC, ↓cC_11_1 hRC, ↓cC_14_0 hRC, ↓cC_14_1 hRC, ↓cC_21_0 hRC, ↓cC_21_1 hRC, ↓cC_21_2 hRC, ↓bdn7, ↓brf7, ↓bgr7, ↓ban7]
  · obtain ⟨i, hi, rfl⟩ := isT_ex a1
    by_cases h2 : 0 ≤ p2.toInt ∧ p2.toInt ≤ 3
    · have h4 : ¬ (0 ≤ p4.toInt ∧ p4.toInt ≤ 300000) := fun q => a3 ⟨h2, q⟩
      simp (disch := first | exact h60 | omega | with_unfolding_all exact h60) only [f_X7_number, ↓bd_of (at_some hC hW hi), ↓bd_of (isP_t u a2), ↓bd_of (wi_t (p := p2) (a := 0) (b := 3) u (by rw [li_0, li_3]; exact h2)), ↓bd_of (isD_f u h4), ↓bb_e, ↓c_sI, ↓o_sI, ↓a_sI, ↓c_sL, ↓o_sL, ↓a_sL, ↓c_rI, ↓o_rI, ↓a_rI, ↓c_rL, ↓o_rL, ↓a_rL, ↓c_rngI, ↓o_rngI, ↓a_rngI, ↓c_rngL, ↓o_rngL, ↓a_rngL, ↓bd_s, ↓cs_s, ↓cs_n, ↓gd_t, ↓gB0, ↓gB1, ↓gOT, ↓gAS, ↓gOY, ↓gAY, ↓reduceIte, d10, nI_clamp, nI_1', i0eq, ↓gO0 h60, ↓gO2 h60, ↓gO6 h60, ↓gO10 h60, ↓gO11 h60, ↓gO14 h60, ↓gO21 h60, ↓gA1 h60, ↓gA3 h60, ↓gA4 h60, ↓gA5 h60, ↓gA7 h60, ↓gA8 h60, ↓gA9 h60, ↓gA12 h60, ↓gA13 h60, ↓gA15 h60, ↓gA16 h60, ↓gA17 h60, ↓gA18 h60, ↓gA19 h60, ↓gA20 h60, ↓gA22 h60, ↓gA23 h60, ↓gA24 h60, ↓cC_0_0 hRC, ↓cC_0_1 hRC, ↓cC_0_2 hRC, ↓cC_0_3 hRC, ↓cC_0_4 hRC, ↓cC_2_0 hRC, ↓cC_2_2 hRC, ↓cC_2_3 hRC, ↓cC_6_0 hRC, ↓cC_6_1 hRC, ↓cC_6_2 hRC, ↓cC_10_0 hRC, ↓cC_10_1 hRC, ↓cC_10_2 hRC, ↓cC_10_3 hRC, ↓cC_10_4 hRC, ↓cC_10_5 hRC, ↓cC_11_0 hRC, ↓cC_11_1 hRC, ↓cC_14_0 hRC, ↓cC_14_1 hRC, ↓cC_21_0 hRC, ↓cC_21_1 hRC, ↓cC_21_2 hRC, ↓bdn7, ↓brf7, ↓bgr7, ↓ban7]
    · simp (disch := first | exact h60 | omega | with_unfolding_all exact h60) only [f_X7_number, ↓bd_of (at_some hC hW hi), ↓bd_of (isP_t u a2), ↓bd_of (wi_f (p := p2) (a := 0) (b := 3) u (by rw [li_0, li_3]; exact h2)), ↓bb_e, ↓c_sI, ↓o_sI, ↓a_sI, ↓c_sL, ↓o_sL, ↓a_sL, ↓c_rI, ↓o_rI, ↓a_rI, ↓c_rL, ↓o_rL, ↓a_rL, ↓c_rngI, ↓o_rngI, ↓a_rngI, ↓c_rngL, ↓o_rngL, ↓a_rngL, ↓bd_s, ↓cs_s, ↓cs_n, ↓gd_t, ↓gB0, ↓gB1, ↓gOT, ↓gAS, ↓gOY, ↓gAY, ↓reduceIte, d10, nI_clamp, nI_1', i0eq, ↓gO0 h60, ↓gO2 h60, ↓gO6 h60, ↓gO10 h60, ↓gO11 h60, ↓gO14 h60, ↓gO21 h60, ↓gA1 h60, ↓gA3 h60, ↓gA4 h60, ↓gA5 h60, ↓gA7 h60, ↓gA8 h60, ↓gA9 h60, ↓gA12 h60, ↓gA13 h60, ↓gA15 h60, ↓gA16 h60, ↓gA17 h60, ↓gA18 h60, ↓gA19 h60, ↓gA20 h60, ↓gA22 h60, ↓gA23 h60, ↓gA24 h60, ↓cC_0_0 hRC, ↓cC_0_1 hRC, ↓cC_0_2 hRC, ↓cC_0_3 hRC, ↓cC_0_4 hRC, ↓cC_2_0 hRC, ↓cC_2_2 hRC, ↓cC_2_3 hRC, ↓cC_6_0 hRC, ↓cC_6_1 hRC, ↓cC_6_2 hRC, ↓cC_10_0 hRC, ↓cC_10_1 hRC, ↓cC_10_2 hRC, ↓cC_10_3 hRC, ↓cC_10_4 hRC, ↓cC_10_5 hRC, ↓cC_11_0 hRC, ↓cC_11_1 hRC, ↓cC_14_0 hRC, ↓cC_14_1 hRC, ↓cC_21_0 hRC, ↓cC_21_1 hRC, ↓cC_21_2 hRC, ↓bdn7, ↓brf7, ↓bgr7, ↓ban7]
theorem C_number {u : Mm} {A : Ab} (hW : Wf A) (hC : CR u A) {t : Nat} (ht : t < an A) {p2 p3 p4 : Int32} (h3 : 0 ≤ p3.toInt ∧ p3.toInt < 16) (h2 : 0 ≤ p2.toInt ∧ p2.toInt ≤ 3) (h4 : 0 ≤ p4.toInt ∧ p4.toInt ≤ 300000) : ∃ v, scr u v ∧ f_X7_number 0 (nI t) p2 p3 p4 u = some (nI (sm (nS A t p2 p3 p4) 0 (an A)), sI v 0 5 0) := by
  have h80 := hW.1.1
  obtain ⟨hRC, hN, -⟩ := id hC
  have hn := hN.1
  have h60 : 60 ≤ u.1 := by omega
  have hw := wi_t (p := p2) (a := 0) (b := 3) u (by rw [li_0, li_3]; exact h2)
  by_cases c : p2 = 3
  · obtain ⟨v1, s1, z1, e1⟩ := clr_l hW hC (x := some (60 + 2 * t)) (p := p3) (d' := p4) (k := fun a7 u8 => L_X0_piecesSeen_32 2 (some (60 + 2 * t)) p3 p4 (fun a30 a31 u32 => some (a30, u32)) 1000 0 0 u8) (an A) 1000 0 (by omega) (by omega) u scr.rf (fun q hq => by omega)
    obtain ⟨v2, s2, e2⟩ := pcs_l hW hC (t := t) (p := p3) (d' := p4) (k := fun a30 a31 u32 => some (a30, u32)) (an A) 1000 0 0 (by omega) (by omega) v1 s1 (fun q hq => by rw [z1 q hq]; rfl)
    rw [nI_0, Nat.zero_add] at e2
    rw [nI_0] at e1
    have e3 : f_X0_piecesSeen 2 (some (60 + 2 * t)) p3 p4 u = some (nI (cf (pS A t p3 p4) 0 (an A)), v2) := by rw [f_X0_piecesSeen, e1]; exact e2
    have hC2 := hC.scr s2
    have e4 := unc_l hW hC2 (t := t) (p := p3) (d' := p4) (k := fun a16 a17 => some a16) (an A) 1000 0 0 (by omega) (by omega)
    rw [nI_0, Nat.zero_add] at e4
    have e5 : f_X0_uncataloguedSeen 2 (some (60 + 2 * t)) p3 p4 v2 = some (nI (sm (uS A t p3 p4) 0 (an A))) := e4
    have hsum : sm (nS A t p2 p3 p4) 0 (an A) = cf (pS A t p3 p4) 0 (an A) + sm (uS A t p3 p4) 0 (an A) := by
      refine sm_add (fun j => ?_) _ _
      have hc3 : (3 : Int32) ≤ p2 := by rw [c]; decide
      unfold nS pS uS VL
      rw [if_pos hc3]
      cases hV : V A t p3 p4 j with
      | true =>
        by_cases b2 : aI A 37 j = 2
        · have : ¬ (2 : Int32) = 3 := by decide
          simp [b2]
        · by_cases b3 : aI A 37 j = 3
          · cases isFst A t p3 p4 j <;> simp [b3]
          · simp [b2, b3]
      | false => simp
    refine ⟨v2, s2, ?_⟩
    have r1 := hC2.1
    have g60 : 60 ≤ v2.1 := by rw [s2.1]; exact h60
    rw [hsum, ← nI_add]
    simp (disch := first | exact h60 | omega | with_unfolding_all exact h60) only [f_X7_number, ↓bd_of (at_some hC hW ht), ↓bd_of (isP_t u h3), ↓bd_of hw, ↓bd_of (isD_t u h4), eq_true c, ↓bd_of e3, ↓gO0 g60, ↓gO2 g60, ↓cC_0_1 r1, ↓bd_of e5, ↓ban7 g60, ↓bb_e, ↓c_sI, ↓o_sI, ↓a_sI, ↓c_sL, ↓o_sL, ↓a_sL, ↓c_rI, ↓o_rI, ↓a_rI, ↓c_rL, ↓o_rL, ↓a_rL, ↓c_rngI, ↓o_rngI, ↓a_rngI, ↓c_rngL, ↓o_rngL, ↓a_rngL, ↓bd_s, ↓cs_s, ↓cs_n, ↓gd_t, ↓gB0, ↓gB1, ↓gOT, ↓gAS, ↓gOY, ↓gAY, ↓reduceIte, d10, nI_clamp, nI_1', i0eq, ↓gO0 h60, ↓gO2 h60, ↓gO6 h60, ↓gO10 h60, ↓gO11 h60, ↓gO14 h60, ↓gO21 h60, ↓gA1 h60, ↓gA3 h60, ↓gA4 h60, ↓gA5 h60, ↓gA7 h60, ↓gA8 h60, ↓gA9 h60, ↓gA12 h60, ↓gA13 h60, ↓gA15 h60, ↓gA16 h60, ↓gA17 h60, ↓gA18 h60, ↓gA19 h60, ↓gA20 h60, ↓gA22 h60, ↓gA23 h60, ↓gA24 h60, ↓cC_0_0 hRC, ↓cC_0_1 hRC, ↓cC_0_2 hRC, ↓cC_0_3 hRC, ↓cC_0_4 hRC, ↓cC_2_0 hRC, ↓cC_2_2 hRC, ↓cC_2_3 hRC, ↓cC_6_0 hRC, ↓cC_6_1 hRC, ↓cC_6_2 hRC, ↓cC_10_0 hRC, ↓cC_10_1 hRC, ↓cC_10_2 hRC, ↓cC_10_3 hRC, ↓cC_10_4 hRC, ↓cC_10_5 hRC, ↓cC_11_0 hRC, ↓cC_11_1 hRC, ↓cC_14_0 hRC, ↓cC_14_1 hRC, ↓cC_21_0 hRC, ↓cC_21_1 hRC, ↓cC_21_2 hRC, ↓bdn7, ↓brf7, ↓bgr7, ↓ban7]
  · have e4 := pts_l hW hC (t := t) (l := p2) (p := p3) (d' := p4) (k := fun a12 a13 => some a12) (an A) 1000 0 0 (by omega) (by omega)
    rw [nI_0, Nat.zero_add] at e4
    have e5 : f_X0_partsSeen 2 (some (60 + 2 * t)) p2 p3 p4 u = some (nI (cf (VL A t p3 p4 p2) 0 (an A))) := e4
    have hsum : sm (nS A t p2 p3 p4) 0 (an A) = cf (VL A t p3 p4 p2) 0 (an A) := by
      refine sm_cf (fun j => ?_) _ _
      have hc3 : ¬ (3 : Int32) ≤ p2 := by
        have : p2.toInt ≠ 3 := fun q => c (by rw [i_eq, q]; rfl)
        rw [i_le, li_3]; omega
      unfold nS VL
      rw [if_neg hc3]
      cases hV : V A t p3 p4 j with
      | true => by_cases b2 : aI A 37 j = p2 <;> simp [b2]
      | false => simp
    refine ⟨u, scr.rf, ?_⟩
    rw [hsum]
    simp (disch := first | exact h60 | omega | with_unfolding_all exact h60) only [f_X7_number, ↓bd_of (at_some hC hW ht), ↓bd_of (isP_t u h3), ↓bd_of hw, ↓bd_of (isD_t u h4), eq_false c, ↓bd_of e5, ↓bb_e, ↓c_sI, ↓o_sI, ↓a_sI, ↓c_sL, ↓o_sL, ↓a_sL, ↓c_rI, ↓o_rI, ↓a_rI, ↓c_rL, ↓o_rL, ↓a_rL, ↓c_rngI, ↓o_rngI, ↓a_rngI, ↓c_rngL, ↓o_rngL, ↓a_rngL, ↓bd_s, ↓cs_s, ↓cs_n, ↓gd_t, ↓gB0, ↓gB1, ↓gOT, ↓gAS, ↓gOY, ↓gAY, ↓reduceIte, d10, nI_clamp, nI_1', i0eq, ↓gO0 h60, ↓gO2 h60, ↓gO6 h60, ↓gO10 h60, ↓gO11 h60, ↓gO14 h60, ↓gO21 h60, ↓gA1 h60, ↓gA3 h60, ↓gA4 h60, ↓gA5 h60, ↓gA7 h60, ↓gA8 h60, ↓gA9 h60, ↓gA12 h60, ↓gA13 h60, ↓gA15 h60, ↓gA16 h60, ↓gA17 h60, ↓gA18 h60, ↓gA19 h60, ↓gA20 h60, ↓gA22 h60, ↓gA23 h60, ↓gA24 h60, ↓cC_0_0 hRC, ↓cC_0_1 hRC, ↓cC_0_2 hRC, ↓cC_0_3 hRC, ↓cC_0_4 hRC, ↓cC_2_0 hRC, ↓cC_2_2 hRC, ↓cC_2_3 hRC, ↓cC_6_0 hRC, ↓cC_6_1 hRC, ↓cC_6_2 hRC, ↓cC_10_0 hRC, ↓cC_10_1 hRC, ↓cC_10_2 hRC, ↓cC_10_3 hRC, ↓cC_10_4 hRC, ↓cC_10_5 hRC, ↓cC_11_0 hRC, ↓cC_11_1 hRC, ↓cC_14_0 hRC, ↓cC_14_1 hRC, ↓cC_21_0 hRC, ↓cC_21_1 hRC, ↓cC_21_2 hRC, ↓bdn7, ↓brf7, ↓bgr7, ↓ban7]
-- NUMBER
theorem P_number {u : Mm} (hI : Inv u) (p1 p2 p3 p4 : Int32) : Pq (f_X7_number 0 p1 p2 p3 p4) (f_X8_number 33 p1 p2 p3 p4) u := by
  obtain ⟨A, hW, hC, hM⟩ := hI
  obtain ⟨hRC, hN, hS, hF, hT, hPc, hY, hLg, hSh⟩ := id hC
  obtain ⟨hRM, h60, h7, hMs, hMf, hMt, hMy, hMl⟩ := id hM
  have h80 : an A ≤ 80 := hW.1.1
  have hn := hN.1
  have refuse : ∀ c : Int32, ((¬ isT A p1 ∧ c = 2) ∨ (isT A p1 ∧ ¬ (0 ≤ p3.toInt ∧ p3.toInt < 16) ∧ c = 2) ∨ (isT A p1 ∧ (0 ≤ p3.toInt ∧ p3.toInt < 16) ∧ ¬ ((0 ≤ p2.toInt ∧ p2.toInt ≤ 3) ∧ 0 ≤ p4.toInt ∧ p4.toInt ≤ 300000) ∧ c = 5)) → Pq (f_X7_number 0 p1 p2 p3 p4) (f_X8_number 33 p1 p2 p3 p4) u := fun c h =>
    leaf_st (A := A) (-1) c 0 hW hC hM (C_numberR hW hC h) (M_numberR (v := sI u 0 5 c) (Wf_st 0 hW) h60 (MR_k hM c) h)
  by_cases a1 : isT A p1
  · by_cases a2 : 0 ≤ p3.toInt ∧ p3.toInt < 16
    · by_cases a3 : (0 ≤ p2.toInt ∧ p2.toInt ≤ 3) ∧ 0 ≤ p4.toInt ∧ p4.toInt ≤ 300000
      · obtain ⟨t, ht, rfl⟩ := isT_ex a1
        obtain ⟨v, s, e⟩ := C_number hW hC ht a2 a3.1 a3.2
        have hM1 : MR (sI v 0 5 0) A := hM.keep (s.keepM.sI (by omega))
        have m := M_number (Wf_st 0 hW) hM1.2.1 (MR_m0 hM1) ht a2 a3.1 a3.2
        rw [nS_st] at m
        exact leaf_ok (A' := A) _ e m hW (hC.scr s) (MR_m0 hM1) ((keepC.rf.sI (by omega)).sI (by omega))
      · exact refuse 5 (Or.inr (Or.inr ⟨a1, a2, a3, rfl⟩))
    · exact refuse 2 (Or.inr (Or.inl ⟨a1, a2, rfl⟩))
  · exact refuse 2 (Or.inl ⟨a1, rfl⟩)
