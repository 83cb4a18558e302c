/-! PLAN: the reference -/
theorem nI_ij {a b : Nat} (ha : a < 2 ^ 31) (hb : b < 2 ^ 31) (h : nI a = nI b) : a = b := by
  rw [i_eq, nI_toInt ha, nI_toInt hb] at h
  omega
def Bk (v : Mm) (f : Nat → Int32) : Prop := ∀ p, p < 40 → (gI v 54 p = -1 ∧ ∀ i, i < 80 → f i ≠ nI p) ∨ ∃ b, b < 80 ∧ gI v 54 p = nI b ∧ f b = nI p
theorem bk_e {v : Mm} {f : Nat → Int32} (h : Bk v f) {p : Nat} (hp : p < 40) : (emp f (nI p) = true ∧ gI v 54 p = -1) ∨ (emp f (nI p) = false ∧ ∃ b, b < 80 ∧ gI v 54 p = nI b ∧ f b = nI p) := by
  rcases h p hp with ⟨h1, h2⟩ | ⟨b, h1, h2, h3⟩
  · exact Or.inl ⟨emp_i h2, h1⟩
  · refine Or.inr ⟨?_, b, h1, h2, h3⟩
    cases c : emp f (nI p) with
    | false => rfl
    | true => exact absurd h3 (emp_t c b h1)
/-- the reference's cells hold the places f and the goals -/
def QL (w v : Mm) (A : Ab) (f : Nat → Int32) : Prop := scrM w v ∧ (∀ i, i < an A → gI v 55 i = f i) ∧ Bk v f
theorem neg_t {x : Int32} (hr : -1 ≤ x.toInt) : x < 0 ↔ x = -1 := by
  rw [i_lt, li_0, i_eq, li_m1]
  omega
theorem pos_t {x : Int32} (hr : -1 ≤ x.toInt) : 0 ≤ x ↔ x ≠ -1 := by
  rw [i_le, li_0]
  exact ⟨fun h q => by rw [q, li_m1] at h; omega, fun h => by have := i_ne h; omega⟩
theorem gol_i {A : Ab} {i : Nat} (hi : i < an A) : gol A i = aI A 48 i := if_pos hi
theorem plc_i {A : Ab} {i : Nat} (hi : i < an A) : plc A i = aI A 47 i := if_pos hi
theorem away_t {w v : Mm} {A : Ab} {f : Nat → Int32} (hW : Wf A) (hM : MR w A) (h : QL w v A f) (hF : ∀ a, a < 80 → -1 ≤ (f a).toInt ∧ (f a).toInt < 40) {i : Nat} (hi : i < an A) : f_X8_isAway 33 (nI i) v = some (b2i (ast (gol A) f i)) := by
  have h80 := hW.1.1
  obtain ⟨hRM, h60, -, -, -, hT, -⟩ := hM.scrM h.1
  have e1 := h.2.1 i hi
  have e2 : gI v 48 i = gol A i := by rw [gol_i hi]; exact (hT.1 i hi).2.2.2.2.2.2.2.2.2.2.1
  have r1 := (hF i (by omega)).1
  have r2 := (gol_range hW i).1
  by_cases c1 : f i = -1
  · have c1' := (neg_t r1).mpr c1
    simp (disch := first | exact h60 | omega | with_unfolding_all exact h60) only [f_X8_isAway, e1, eq_true c1', ↓bb_e, ↓c_sI, ↓o_sI, ↓a_sI, ↓c_sL, ↓o_sL, ↓a_sL, ↓c_rI, ↓o_rI, ↓a_rI, ↓c_rL, ↓o_rL, ↓a_rL, ↓c_rngI, ↓o_rngI, ↓a_rngI, ↓c_rngL, ↓o_rngL, ↓a_rngL, ↓bd_s, ↓cs_s, ↓cs_n, ↓gd_t, ↓gB0, ↓gB1, ↓gOT, ↓gAS, ↓gOY, ↓gAY, ↓reduceIte, d10, nI_clamp, nI_1', i0eq, ↓gO33 h60, ↓gA34 h60, ↓gA35 h60, ↓gA36 h60, ↓gA37 h60, ↓gA38 h60, ↓gA39 h60, ↓gA40 h60, ↓gA41 h60, ↓gA42 h60, ↓gA43 h60, ↓gA44 h60, ↓gA45 h60, ↓gA46 h60, ↓gA47 h60, ↓gA48 h60, ↓gA49 h60, ↓gA50 h60, ↓gA51 h60, ↓gA52 h60, ↓gA53 h60, ↓gA54 h60, ↓gA55 h60, ↓gA56 h60, ↓gA57 h60, ↓gA58 h60, ↓gA59 h60, ↓cM_4 hRM, ↓cM_5 hRM, ↓cM_6 hRM, ↓cM_8 hRM, ↓cM_9 hRM, ↓cM_10 hRM, ↓cM_11 hRM, ↓cM_12 hRM, ↓cM_13 hRM, ↓cM_14 hRM, ↓cM_15 hRM, ↓cM_16 hRM, ↓cM_17 hRM, ↓cM_18 hRM, ↓cM_19 hRM, ↓cM_20 hRM, ↓cM_21 hRM, ↓cM_23 hRM, ↓cM_24 hRM, ↓cM_25 hRM, ↓cM_26 hRM, ↓cM_27 hRM, ↓cM_28 hRM, ↓cM_29 hRM, ↓cM_30 hRM, ↓cM_32 hRM, ↓bno8, ↓brf8]
    simp [ast, c1, b2i]
  · have c1' := fun q => c1 ((neg_t r1).mp q)
    by_cases c2 : gol A i = -1
    · have c2' := (neg_t r2).mpr c2
      simp (disch := first | exact h60 | omega | with_unfolding_all exact h60) only [f_X8_isAway, e1, e2, eq_false c1', eq_true c2', ↓bb_e, ↓c_sI, ↓o_sI, ↓a_sI, ↓c_sL, ↓o_sL, ↓a_sL, ↓c_rI, ↓o_rI, ↓a_rI, ↓c_rL, ↓o_rL, ↓a_rL, ↓c_rngI, ↓o_rngI, ↓a_rngI, ↓c_rngL, ↓o_rngL, ↓a_rngL, ↓bd_s, ↓cs_s, ↓cs_n, ↓gd_t, ↓gB0, ↓gB1, ↓gOT, ↓gAS, ↓gOY, ↓gAY, ↓reduceIte, d10, nI_clamp, nI_1', i0eq, ↓gO33 h60, ↓gA34 h60, ↓gA35 h60, ↓gA36 h60, ↓gA37 h60, ↓gA38 h60, ↓gA39 h60, ↓gA40 h60, ↓gA41 h60, ↓gA42 h60, ↓gA43 h60, ↓gA44 h60, ↓gA45 h60, ↓gA46 h60, ↓gA47 h60, ↓gA48 h60, ↓gA49 h60, ↓gA50 h60, ↓gA51 h60, ↓gA52 h60, ↓gA53 h60, ↓gA54 h60, ↓gA55 h60, ↓gA56 h60, ↓gA57 h60, ↓gA58 h60, ↓gA59 h60, ↓cM_4 hRM, ↓cM_5 hRM, ↓cM_6 hRM, ↓cM_8 hRM, ↓cM_9 hRM, ↓cM_10 hRM, ↓cM_11 hRM, ↓cM_12 hRM, ↓cM_13 hRM, ↓cM_14 hRM, ↓cM_15 hRM, ↓cM_16 hRM, ↓cM_17 hRM, ↓cM_18 hRM, ↓cM_19 hRM, ↓cM_20 hRM, ↓cM_21 hRM, ↓cM_23 hRM, ↓cM_24 hRM, ↓cM_25 hRM, ↓cM_26 hRM, ↓cM_27 hRM, ↓cM_28 hRM, ↓cM_29 hRM, ↓cM_30 hRM, ↓cM_32 hRM, ↓bno8, ↓brf8]
      simp [ast, c2, b2i]
    · have c2' := fun q => c2 ((neg_t r2).mp q)
      by_cases c3 : f i = gol A i
      · simp (disch := first | exact h60 | omega | with_unfolding_all exact h60) only [f_X8_isAway, e1, e2, eq_false c1', eq_false c2', eq_true c3, ↓bb_e, ↓c_sI, ↓o_sI, ↓a_sI, ↓c_sL, ↓o_sL, ↓a_sL, ↓c_rI, ↓o_rI, ↓a_rI, ↓c_rL, ↓o_rL, ↓a_rL, ↓c_rngI, ↓o_rngI, ↓a_rngI, ↓c_rngL, ↓o_rngL, ↓a_rngL, ↓bd_s, ↓cs_s, ↓cs_n, ↓gd_t, ↓gB0, ↓gB1, ↓gOT, ↓gAS, ↓gOY, ↓gAY, ↓reduceIte, d10, nI_clamp, nI_1', i0eq, ↓gO33 h60, ↓gA34 h60, ↓gA35 h60, ↓gA36 h60, ↓gA37 h60, ↓gA38 h60, ↓gA39 h60, ↓gA40 h60, ↓gA41 h60, ↓gA42 h60, ↓gA43 h60, ↓gA44 h60, ↓gA45 h60, ↓gA46 h60, ↓gA47 h60, ↓gA48 h60, ↓gA49 h60, ↓gA50 h60, ↓gA51 h60, ↓gA52 h60, ↓gA53 h60, ↓gA54 h60, ↓gA55 h60, ↓gA56 h60, ↓gA57 h60, ↓gA58 h60, ↓gA59 h60, ↓cM_4 hRM, ↓cM_5 hRM, ↓cM_6 hRM, ↓cM_8 hRM, ↓cM_9 hRM, ↓cM_10 hRM, ↓cM_11 hRM, ↓cM_12 hRM, ↓cM_13 hRM, ↓cM_14 hRM, ↓cM_15 hRM, ↓cM_16 hRM, ↓cM_17 hRM, ↓cM_18 hRM, ↓cM_19 hRM, ↓cM_20 hRM, ↓cM_21 hRM, ↓cM_23 hRM, ↓cM_24 hRM, ↓cM_25 hRM, ↓cM_26 hRM, ↓cM_27 hRM, ↓cM_28 hRM, ↓cM_29 hRM, ↓cM_30 hRM, ↓cM_32 hRM, ↓bno8, ↓brf8]
        simp [ast, c3, b2i]
      · simp (disch := first | exact h60 | omega | with_unfolding_all exact h60) only [f_X8_isAway, e1, e2, eq_false c1', eq_false c2', eq_false c3, ↓bb_e, ↓c_sI, ↓o_sI, ↓a_sI, ↓c_sL, ↓o_sL, ↓a_sL, ↓c_rI, ↓o_rI, ↓a_rI, ↓c_rL, ↓o_rL, ↓a_rL, ↓c_rngI, ↓o_rngI, ↓a_rngI, ↓c_rngL, ↓o_rngL, ↓a_rngL, ↓bd_s, ↓cs_s, ↓cs_n, ↓gd_t, ↓gB0, ↓gB1, ↓gOT, ↓gAS, ↓gOY, ↓gAY, ↓reduceIte, d10, nI_clamp, nI_1', i0eq, ↓gO33 h60, ↓gA34 h60, ↓gA35 h60, ↓gA36 h60, ↓gA37 h60, ↓gA38 h60, ↓gA39 h60, ↓gA40 h60, ↓gA41 h60, ↓gA42 h60, ↓gA43 h60, ↓gA44 h60, ↓gA45 h60, ↓gA46 h60, ↓gA47 h60, ↓gA48 h60, ↓gA49 h60, ↓gA50 h60, ↓gA51 h60, ↓gA52 h60, ↓gA53 h60, ↓gA54 h60, ↓gA55 h60, ↓gA56 h60, ↓gA57 h60, ↓gA58 h60, ↓gA59 h60, ↓cM_4 hRM, ↓cM_5 hRM, ↓cM_6 hRM, ↓cM_8 hRM, ↓cM_9 hRM, ↓cM_10 hRM, ↓cM_11 hRM, ↓cM_12 hRM, ↓cM_13 hRM, ↓cM_14 hRM, ↓cM_15 hRM, ↓cM_16 hRM, ↓cM_17 hRM, ↓cM_18 hRM, ↓cM_19 hRM, ↓cM_20 hRM, ↓cM_21 hRM, ↓cM_23 hRM, ↓cM_24 hRM, ↓cM_25 hRM, ↓cM_26 hRM, ↓cM_27 hRM, ↓cM_28 hRM, ↓cM_29 hRM, ↓cM_30 hRM, ↓cM_32 hRM, ↓bno8, ↓brf8]
        simp [ast, c1, c2, c3, b2i]
theorem pq1_l {w : Mm} {A : Ab} (hW : Wf A) (hM : MR w A) {k : Int32 → Mm → Option (Int32 × Mm)} {x : Int32} : ∀ (d n j : Nat) (v : Mm), j + d = 40 → d < n → scrM w v → gI v 33 31 = x → (∀ p, p < j → gI v 54 p = -1) → ∃ v', scrM w v' ∧ gI v' 33 31 = x ∧ (∀ p, p < 40 → gI v' 54 p = -1) ∧ L_X8_plans_7 33 k n (nI j) v = k 40 v' := by
  intro d
  induction d with
  | zero =>
    intro n j v h1 h2 hs hx hr
    obtain ⟨n, rfl⟩ : ∃ b, n = b + 1 := ⟨n - 1, by omega⟩
    have e : j = 40 := by omega
    subst e
    refine ⟨v, hs, hx, hr, ?_⟩
    rw [L_X8_plans_7, if_pos (by decide)]
    rfl
  | succ d ih =>
    intro n j v h1 h2 hs hx hr
    obtain ⟨n, rfl⟩ : ∃ b, n = b + 1 := ⟨n - 1, by omega⟩
    obtain ⟨hRM, h60, -⟩ := hM.scrM hs
    have hnl := n40 (j := j) (by omega)
    obtain ⟨v', q1, q2, q3, q4⟩ := ih n (j + 1) (sI v 54 j (-1)) (by omega) (by omega) (hs.sI (by omega)) (by rw [gI_n (by omega)]; exact hx) (fun p hp => by
      by_cases c : p = j
      · subst c; exact gI_e
      · rw [gI_n (by omega)]; exact hr p (by omega))
    refine ⟨v', q1, q2, q3, ?_⟩
    rw [← q4]
    simp (disch := first | exact h60 | omega | with_unfolding_all exact h60) only [L_X8_plans_7, eq_false hnl, ↓bb_e, ↓c_sI, ↓o_sI, ↓a_sI, ↓c_sL, ↓o_sL, ↓a_sL, ↓c_rI, ↓o_rI, ↓a_rI, ↓c_rL, ↓o_rL, ↓a_rL, ↓c_rngI, ↓o_rngI, ↓a_rngI, ↓c_rngL, ↓o_rngL, ↓a_rngL, ↓bd_s, ↓cs_s, ↓cs_n, ↓gd_t, ↓gB0, ↓gB1, ↓gOT, ↓gAS, ↓gOY, ↓gAY, ↓reduceIte, d10, nI_clamp, nI_1', i0eq, ↓gO33 h60, ↓gA34 h60, ↓gA35 h60, ↓gA36 h60, ↓gA37 h60, ↓gA38 h60, ↓gA39 h60, ↓gA40 h60, ↓gA41 h60, ↓gA42 h60, ↓gA43 h60, ↓gA44 h60, ↓gA45 h60, ↓gA46 h60, ↓gA47 h60, ↓gA48 h60, ↓gA49 h60, ↓gA50 h60, ↓gA51 h60, ↓gA52 h60, ↓gA53 h60, ↓gA54 h60, ↓gA55 h60, ↓gA56 h60, ↓gA57 h60, ↓gA58 h60, ↓gA59 h60, ↓cM_4 hRM, ↓cM_5 hRM, ↓cM_6 hRM, ↓cM_8 hRM, ↓cM_9 hRM, ↓cM_10 hRM, ↓cM_11 hRM, ↓cM_12 hRM, ↓cM_13 hRM, ↓cM_14 hRM, ↓cM_15 hRM, ↓cM_16 hRM, ↓cM_17 hRM, ↓cM_18 hRM, ↓cM_19 hRM, ↓cM_20 hRM, ↓cM_21 hRM, ↓cM_23 hRM, ↓cM_24 hRM, ↓cM_25 hRM, ↓cM_26 hRM, ↓cM_27 hRM, ↓cM_28 hRM, ↓cM_29 hRM, ↓cM_30 hRM, ↓cM_32 hRM, ↓bno8, ↓brf8]
theorem pq2_l {w : Mm} {A : Ab} (hW : Wf A) (hM : MR w A) {k : Int32 → Mm → Option (Int32 × Mm)} {x : Int32} : ∀ (d n j : Nat) (v : Mm), j + d = an A → d < n → scrM w v → gI v 33 31 = x → (∀ i, i < j → gI v 55 i = aI A 47 i) → (∀ p, p < 40 → (gI v 54 p = -1 ∧ ∀ i, i < j → aI A 47 i ≠ nI p) ∨ ∃ b, b < j ∧ gI v 54 p = nI b ∧ aI A 47 b = nI p) → ∃ v', QL w v' A (plc A) ∧ gI v' 33 31 = x ∧ L_X8_plans_28 33 k n (nI j) v = k (nI (an A)) v' := by
  have h80 := hW.1.1
  intro d
  induction d with
  | zero =>
    intro n j v h1 h2 hs hx hr hb
    obtain ⟨n, rfl⟩ : ∃ b, n = b + 1 := ⟨n - 1, by omega⟩
    have e : j = an A := by omega
    subst e
    obtain ⟨hRM, h60, h7, -⟩ := hM.scrM hs
    refine ⟨v, ⟨hs, fun i hi => by rw [plc_i hi]; exact hr i hi, fun p hp => ?_⟩, hx, ?_⟩
    · rcases hb p hp with ⟨b1, b2⟩ | ⟨b, b1, b2, b3⟩
      · refine Or.inl ⟨b1, fun i hi q => ?_⟩
        by_cases c : i < an A
        · rw [plc_i c] at q; exact b2 i c q
        · have : plc A i = -1 := if_neg c
          rw [this] at q
          exact nI_m1 (by omega) q.symm
      · exact Or.inr ⟨b, by omega, b2, by rw [plc_i b1]; exact b3⟩
    · rw [L_X8_plans_28, oO33 h60, gd_t, h7, if_pos (nI_le (Nat.le_refl _) (by omega))]
  | succ d ih =>
    intro n j v h1 h2 hs hx hr hb
    obtain ⟨n, rfl⟩ : ∃ b, n = b + 1 := ⟨n - 1, by omega⟩
    have hj : j < an A := by omega
    obtain ⟨hRM, h60, h7, -, -, hT, -⟩ := hM.scrM hs
    have hnl : ¬ nI (an A) ≤ nI j := nI_ge (by omega) (by omega)
    have k10 := (hT.1 j hj).2.2.2.2.2.2.2.2.2.1
    have rr := (hW.1.2 j hj).2.2.2.2.2.2.2.2.1
    have m1 : ∀ x : Int32, gI (sI v 55 j x) 47 j = aI A 47 j := fun x => by rw [gI_n (by omega)]; exact k10
    by_cases c : aI A 47 j = -1
    · have c' := (neg_t rr.1).mpr c
      obtain ⟨v', q1, q2, q3⟩ := ih n (j + 1) (sI v 55 j (aI A 47 j)) (by omega) (by omega) (hs.sI (by omega)) (by rw [gI_n (by omega)]; exact hx) (fun i hi => by
        by_cases e : i = j
        · subst e; exact gI_e
        · rw [gI_n (by omega)]; exact hr i (by omega)) (fun p hp => by
        rw [gI_n (by omega)]
        rcases hb p hp with ⟨b1, b2⟩ | ⟨b, b1, b2, b3⟩
        · refine Or.inl ⟨b1, fun i hi => ?_⟩
          by_cases e : i = j
          · subst e; rw [c]; exact fun q => nI_m1 (by omega) q.symm
          · exact b2 i (by omega)
        · exact Or.inr ⟨b, by omega, b2, b3⟩)
      refine ⟨v', q1, q2, ?_⟩
      rw [← q3]
      simp (disch := first | exact h60 | omega | with_unfolding_all exact h60) only [L_X8_plans_28, h7, eq_false hnl, k10, m1, eq_true c', ↓bb_e, ↓c_sI, ↓o_sI, ↓a_sI, ↓c_sL, ↓o_sL, ↓a_sL, ↓c_rI, ↓o_rI, ↓a_rI, ↓c_rL, ↓o_rL, ↓a_rL, ↓c_rngI, ↓o_rngI, ↓a_rngI, ↓c_rngL, ↓o_rngL, ↓a_rngL, ↓bd_s, ↓cs_s, ↓cs_n, ↓gd_t, ↓gB0, ↓gB1, ↓gOT, ↓gAS, ↓gOY, ↓gAY, ↓reduceIte, d10, nI_clamp, nI_1', i0eq, ↓gO33 h60, ↓gA34 h60, ↓gA35 h60, ↓gA36 h60, ↓gA37 h60, ↓gA38 h60, ↓gA39 h60, ↓gA40 h60, ↓gA41 h60, ↓gA42 h60, ↓gA43 h60, ↓gA44 h60, ↓gA45 h60, ↓gA46 h60, ↓gA47 h60, ↓gA48 h60, ↓gA49 h60, ↓gA50 h60, ↓gA51 h60, ↓gA52 h60, ↓gA53 h60, ↓gA54 h60, ↓gA55 h60, ↓gA56 h60, ↓gA57 h60, ↓gA58 h60, ↓gA59 h60, ↓cM_4 hRM, ↓cM_5 hRM, ↓cM_6 hRM, ↓cM_8 hRM, ↓cM_9 hRM, ↓cM_10 hRM, ↓cM_11 hRM, ↓cM_12 hRM, ↓cM_13 hRM, ↓cM_14 hRM, ↓cM_15 hRM, ↓cM_16 hRM, ↓cM_17 hRM, ↓cM_18 hRM, ↓cM_19 hRM, ↓cM_20 hRM, ↓cM_21 hRM, ↓cM_23 hRM, ↓cM_24 hRM, ↓cM_25 hRM, ↓cM_26 hRM, ↓cM_27 hRM, ↓cM_28 hRM, ↓cM_29 hRM, ↓cM_30 hRM, ↓cM_32 hRM, ↓bno8, ↓brf8]
    · have c' := fun q => c ((neg_t rr.1).mp q)
      obtain ⟨z, z1, z2⟩ := i_ex2 (n := 40) (ge0 c rr)
      have m1' : ∀ x : Int32, gI (sI v 55 j x) 47 j = nI z := fun x => by rw [m1, z2]
      obtain ⟨v', q1, q2, q3⟩ := ih n (j + 1) (sI (sI v 55 j (aI A 47 j)) 54 z (nI j)) (by omega) (by omega) ((hs.sI (by omega)).sI (by omega)) (by rw [gI_n (by omega), gI_n (by omega)]; exact hx) (fun i hi => by
        by_cases e : i = j
        · subst e; rw [gI_n (by omega)]; exact gI_e
        · rw [gI_n (by omega), gI_n (by omega)]; exact hr i (by omega)) (fun p hp => by
        by_cases e : p = z
        · subst e
          exact Or.inr ⟨j, by omega, gI_e, z2⟩
        · rw [gI_n (by omega), gI_n (by omega)]
          rcases hb p hp with ⟨b1, b2⟩ | ⟨b, b1, b2, b3⟩
          · refine Or.inl ⟨b1, fun i hi => ?_⟩
            by_cases e' : i = j
            · subst e'; rw [z2]; exact fun q => e (nI_ij (by omega) (by omega) q).symm
            · exact b2 i (by omega)
          · exact Or.inr ⟨b, by omega, b2, b3⟩)
      refine ⟨v', q1, q2, ?_⟩
      rw [← q3]
      rw [z2] at k10 c' ⊢
      simp (disch := first | exact h60 | omega | with_unfolding_all exact h60) only [L_X8_plans_28, h7, eq_false hnl, k10, m1', eq_false c', ↓bb_e, ↓c_sI, ↓o_sI, ↓a_sI, ↓c_sL, ↓o_sL, ↓a_sL, ↓c_rI, ↓o_rI, ↓a_rI, ↓c_rL, ↓o_rL, ↓a_rL, ↓c_rngI, ↓o_rngI, ↓a_rngI, ↓c_rngL, ↓o_rngL, ↓a_rngL, ↓bd_s, ↓cs_s, ↓cs_n, ↓gd_t, ↓gB0, ↓gB1, ↓gOT, ↓gAS, ↓gOY, ↓gAY, ↓reduceIte, d10, nI_clamp, nI_1', i0eq, ↓gO33 h60, ↓gA34 h60, ↓gA35 h60, ↓gA36 h60, ↓gA37 h60, ↓gA38 h60, ↓gA39 h60, ↓gA40 h60, ↓gA41 h60, ↓gA42 h60, ↓gA43 h60, ↓gA44 h60, ↓gA45 h60, ↓gA46 h60, ↓gA47 h60, ↓gA48 h60, ↓gA49 h60, ↓gA50 h60, ↓gA51 h60, ↓gA52 h60, ↓gA53 h60, ↓gA54 h60, ↓gA55 h60, ↓gA56 h60, ↓gA57 h60, ↓gA58 h60, ↓gA59 h60, ↓cM_4 hRM, ↓cM_5 hRM, ↓cM_6 hRM, ↓cM_8 hRM, ↓cM_9 hRM, ↓cM_10 hRM, ↓cM_11 hRM, ↓cM_12 hRM, ↓cM_13 hRM, ↓cM_14 hRM, ↓cM_15 hRM, ↓cM_16 hRM, ↓cM_17 hRM, ↓cM_18 hRM, ↓cM_19 hRM, ↓cM_20 hRM, ↓cM_21 hRM, ↓cM_23 hRM, ↓cM_24 hRM, ↓cM_25 hRM, ↓cM_26 hRM, ↓cM_27 hRM, ↓cM_28 hRM, ↓cM_29 hRM, ↓cM_30 hRM, ↓cM_32 hRM, ↓bno8, ↓brf8]
theorem add0 (x : Int32) : x + 0 = x := Int32.add_zero x
theorem pq3_l {w v : Mm} {A : Ab} {f : Nat → Int32} (hW : Wf A) (hM : MR w A) (h : QL w v A f) (hF : ∀ a, a < 80 → -1 ≤ (f a).toInt ∧ (f a).toInt < 40) (hd : ∀ a b, a < 80 → b < 80 → a ≠ b → f a = f b → f a = -1) (hn1 : ∀ a, an A ≤ a → f a = -1) {k : Int32 → Int32 → Option (Int32 × Mm)} : ∀ (d n j c : Nat), j + d = an A → d < n → L_X8_plans_79 33 v k n (nI c) (nI j) = if ex (blk (gol A) f) j d = true then some (0, v) else k (nI (c + cf (ast (gol A) f) j d)) (nI (an A)) := by
  have h80 := hW.1.1
  have hG := gol_ok hW
  obtain ⟨hRM, h60, h7, -, -, hT, -⟩ := hM.scrM h.1
  intro d
  induction d with
  | zero =>
    intro n j c h1 h2
    obtain ⟨n, rfl⟩ : ∃ b, n = b + 1 := ⟨n - 1, by omega⟩
    have e : j = an A := by omega
    subst e
    rw [L_X8_plans_79, oO33 h60, gd_t, h7, if_pos (nI_le (Nat.le_refl _) (by omega)), ex, if_neg (by decide)]
    rfl
  | succ d ih =>
    intro n j c h1 h2
    obtain ⟨n, rfl⟩ : ∃ b, n = b + 1 := ⟨n - 1, by omega⟩
    have hj : j < an A := by omega
    have hnl : ¬ nI (an A) ≤ nI j := nI_ge (by omega) (by omega)
    have ih := fun c => ih n (j + 1) c (by omega) (by omega)
    have e1 := h.2.1 j hj
    have e2 : gI v 48 j = gol A j := by rw [gol_i hj]; exact (hT.1 j hj).2.2.2.2.2.2.2.2.2.2.1
    have r1 := (hF j (by omega)).1
    have r2 := (gol_range hW j).1
    have haw := away_t hW hM h hF hj
    rw [ex, cf]
    have skip : ast (gol A) f j = false → (if (blk (gol A) f j || ex (blk (gol A) f) (j + 1) d) = true then some (0, v) else k (nI (c + ((if ast (gol A) f j = true then 1 else 0) + cf (ast (gol A) f) (j + 1) d))) (nI (an A))) = L_X8_plans_79 33 v k n (nI c) (nI (j + 1)) := fun q => by
      have : blk (gol A) f j = false := by simp [blk, q]
      rw [this, q, if_neg (show ¬ false = true by decide), Nat.zero_add, Bool.false_or, ih c]
    by_cases c1 : f j = -1
    · have c1' := (neg_t r1).mpr c1
      rw [skip (by simp [ast, c1])]
      simp (disch := first | exact h60 | omega | with_unfolding_all exact h60) only [L_X8_plans_79, h7, eq_false hnl, e1, eq_true c1', ↓bb_e, ↓c_sI, ↓o_sI, ↓a_sI, ↓c_sL, ↓o_sL, ↓a_sL, ↓c_rI, ↓o_rI, ↓a_rI, ↓c_rL, ↓o_rL, ↓a_rL, ↓c_rngI, ↓o_rngI, ↓a_rngI, ↓c_rngL, ↓o_rngL, ↓a_rngL, ↓bd_s, ↓cs_s, ↓cs_n, ↓gd_t, ↓gB0, ↓gB1, ↓gOT, ↓gAS, ↓gOY, ↓gAY, ↓reduceIte, d10, nI_clamp, nI_1', i0eq, ↓gO33 h60, ↓gA34 h60, ↓gA35 h60, ↓gA36 h60, ↓gA37 h60, ↓gA38 h60, ↓gA39 h60, ↓gA40 h60, ↓gA41 h60, ↓gA42 h60, ↓gA43 h60, ↓gA44 h60, ↓gA45 h60, ↓gA46 h60, ↓gA47 h60, ↓gA48 h60, ↓gA49 h60, ↓gA50 h60, ↓gA51 h60, ↓gA52 h60, ↓gA53 h60, ↓gA54 h60, ↓gA55 h60, ↓gA56 h60, ↓gA57 h60, ↓gA58 h60, ↓gA59 h60, ↓cM_4 hRM, ↓cM_5 hRM, ↓cM_6 hRM, ↓cM_8 hRM, ↓cM_9 hRM, ↓cM_10 hRM, ↓cM_11 hRM, ↓cM_12 hRM, ↓cM_13 hRM, ↓cM_14 hRM, ↓cM_15 hRM, ↓cM_16 hRM, ↓cM_17 hRM, ↓cM_18 hRM, ↓cM_19 hRM, ↓cM_20 hRM, ↓cM_21 hRM, ↓cM_23 hRM, ↓cM_24 hRM, ↓cM_25 hRM, ↓cM_26 hRM, ↓cM_27 hRM, ↓cM_28 hRM, ↓cM_29 hRM, ↓cM_30 hRM, ↓cM_32 hRM, ↓bno8, ↓brf8]
    · have c1' := fun q => c1 ((neg_t r1).mp q)
      by_cases c2 : gol A j = -1
      · have c2' := fun q => ((pos_t r2).mp q) c2
        rw [skip (by simp [ast, c2])]
        simp (disch := first | exact h60 | omega | with_unfolding_all exact h60) only [L_X8_plans_79, h7, eq_false hnl, e1, eq_false c1', e2, eq_false c2', ↓bb_e, ↓c_sI, ↓o_sI, ↓a_sI, ↓c_sL, ↓o_sL, ↓a_sL, ↓c_rI, ↓o_rI, ↓a_rI, ↓c_rL, ↓o_rL, ↓a_rL, ↓c_rngI, ↓o_rngI, ↓a_rngI, ↓c_rngL, ↓o_rngL, ↓a_rngL, ↓bd_s, ↓cs_s, ↓cs_n, ↓gd_t, ↓gB0, ↓gB1, ↓gOT, ↓gAS, ↓gOY, ↓gAY, ↓reduceIte, d10, nI_clamp, nI_1', i0eq, ↓gO33 h60, ↓gA34 h60, ↓gA35 h60, ↓gA36 h60, ↓gA37 h60, ↓gA38 h60, ↓gA39 h60, ↓gA40 h60, ↓gA41 h60, ↓gA42 h60, ↓gA43 h60, ↓gA44 h60, ↓gA45 h60, ↓gA46 h60, ↓gA47 h60, ↓gA48 h60, ↓gA49 h60, ↓gA50 h60, ↓gA51 h60, ↓gA52 h60, ↓gA53 h60, ↓gA54 h60, ↓gA55 h60, ↓gA56 h60, ↓gA57 h60, ↓gA58 h60, ↓gA59 h60, ↓cM_4 hRM, ↓cM_5 hRM, ↓cM_6 hRM, ↓cM_8 hRM, ↓cM_9 hRM, ↓cM_10 hRM, ↓cM_11 hRM, ↓cM_12 hRM, ↓cM_13 hRM, ↓cM_14 hRM, ↓cM_15 hRM, ↓cM_16 hRM, ↓cM_17 hRM, ↓cM_18 hRM, ↓cM_19 hRM, ↓cM_20 hRM, ↓cM_21 hRM, ↓cM_23 hRM, ↓cM_24 hRM, ↓cM_25 hRM, ↓cM_26 hRM, ↓cM_27 hRM, ↓cM_28 hRM, ↓cM_29 hRM, ↓cM_30 hRM, ↓cM_32 hRM, ↓bno8, ↓brf8]
      · have c2' := (pos_t r2).mpr c2
        obtain ⟨q, q1, q2⟩ := goal_q hG c2
        rw [q2] at c2' e2
        have count : blk (gol A) f j = false → (if (blk (gol A) f j || ex (blk (gol A) f) (j + 1) d) = true then some (0, v) else k (nI (c + ((if ast (gol A) f j = true then 1 else 0) + cf (ast (gol A) f) (j + 1) d))) (nI (an A))) = L_X8_plans_79 33 v k n (nI (c + if ast (gol A) f j = true then 1 else 0)) (nI (j + 1)) := fun q => by
          rw [q, Bool.false_or, ih, Nat.add_assoc]
        rcases bk_e h.2.2 q1 with ⟨c3, e3⟩ | ⟨c3, b, hb, e3, e4⟩
        · have hbf : blk (gol A) f j = false := by
            unfold blk
            cases cx : ex (fun i => decide (f i = gol A j) && decide (gol A i = -1)) 0 80 with
            | false => rw [Bool.and_false]
            | true =>
              obtain ⟨i, _, i2, i3⟩ := ex_yes cx
              simp only [Bool.and_eq_true, decide_eq_true_eq] at i3
              exact absurd (i3.1.trans q2) (emp_t c3 i (by omega))
          rw [count hbf]
          have b0 : (-1 : Int32) < 0 := by decide
          cases ca : ast (gol A) f j with
          | true =>
            rw [ca, b2i_t] at haw
            rw [if_pos rfl]
            simp (disch := first | exact h60 | omega | with_unfolding_all exact h60) only [L_X8_plans_79, h7, eq_false hnl, e1, eq_false c1', e2, eq_true c2', e3, eq_true b0, ↓bd_of haw, nI_1, ↓bb_e, ↓c_sI, ↓o_sI, ↓a_sI, ↓c_sL, ↓o_sL, ↓a_sL, ↓c_rI, ↓o_rI, ↓a_rI, ↓c_rL, ↓o_rL, ↓a_rL, ↓c_rngI, ↓o_rngI, ↓a_rngI, ↓c_rngL, ↓o_rngL, ↓a_rngL, ↓bd_s, ↓cs_s, ↓cs_n, ↓gd_t, ↓gB0, ↓gB1, ↓gOT, ↓gAS, ↓gOY, ↓gAY, ↓reduceIte, d10, nI_clamp, nI_1', i0eq, ↓gO33 h60, ↓gA34 h60, ↓gA35 h60, ↓gA36 h60, ↓gA37 h60, ↓gA38 h60, ↓gA39 h60, ↓gA40 h60, ↓gA41 h60, ↓gA42 h60, ↓gA43 h60, ↓gA44 h60, ↓gA45 h60, ↓gA46 h60, ↓gA47 h60, ↓gA48 h60, ↓gA49 h60, ↓gA50 h60, ↓gA51 h60, ↓gA52 h60, ↓gA53 h60, ↓gA54 h60, ↓gA55 h60, ↓gA56 h60, ↓gA57 h60, ↓gA58 h60, ↓gA59 h60, ↓cM_4 hRM, ↓cM_5 hRM, ↓cM_6 hRM, ↓cM_8 hRM, ↓cM_9 hRM, ↓cM_10 hRM, ↓cM_11 hRM, ↓cM_12 hRM, ↓cM_13 hRM, ↓cM_14 hRM, ↓cM_15 hRM, ↓cM_16 hRM, ↓cM_17 hRM, ↓cM_18 hRM, ↓cM_19 hRM, ↓cM_20 hRM, ↓cM_21 hRM, ↓cM_23 hRM, ↓cM_24 hRM, ↓cM_25 hRM, ↓cM_26 hRM, ↓cM_27 hRM, ↓cM_28 hRM, ↓cM_29 hRM, ↓cM_30 hRM, ↓cM_32 hRM, ↓bno8, ↓brf8]
          | false =>
            rw [ca, b2i_f] at haw
            rw [if_neg (show ¬ false = true by decide), Nat.add_zero]
            simp (disch := first | exact h60 | omega | with_unfolding_all exact h60) only [L_X8_plans_79, h7, eq_false hnl, e1, eq_false c1', e2, eq_true c2', e3, eq_true b0, ↓bd_of haw, add0, Nat.add_zero, ↓bb_e, ↓c_sI, ↓o_sI, ↓a_sI, ↓c_sL, ↓o_sL, ↓a_sL, ↓c_rI, ↓o_rI, ↓a_rI, ↓c_rL, ↓o_rL, ↓a_rL, ↓c_rngI, ↓o_rngI, ↓a_rngI, ↓c_rngL, ↓o_rngL, ↓a_rngL, ↓bd_s, ↓cs_s, ↓cs_n, ↓gd_t, ↓gB0, ↓gB1, ↓gOT, ↓gAS, ↓gOY, ↓gAY, ↓reduceIte, d10, nI_clamp, nI_1', i0eq, ↓gO33 h60, ↓gA34 h60, ↓gA35 h60, ↓gA36 h60, ↓gA37 h60, ↓gA38 h60, ↓gA39 h60, ↓gA40 h60, ↓gA41 h60, ↓gA42 h60, ↓gA43 h60, ↓gA44 h60, ↓gA45 h60, ↓gA46 h60, ↓gA47 h60, ↓gA48 h60, ↓gA49 h60, ↓gA50 h60, ↓gA51 h60, ↓gA52 h60, ↓gA53 h60, ↓gA54 h60, ↓gA55 h60, ↓gA56 h60, ↓gA57 h60, ↓gA58 h60, ↓gA59 h60, ↓cM_4 hRM, ↓cM_5 hRM, ↓cM_6 hRM, ↓cM_8 hRM, ↓cM_9 hRM, ↓cM_10 hRM, ↓cM_11 hRM, ↓cM_12 hRM, ↓cM_13 hRM, ↓cM_14 hRM, ↓cM_15 hRM, ↓cM_16 hRM, ↓cM_17 hRM, ↓cM_18 hRM, ↓cM_19 hRM, ↓cM_20 hRM, ↓cM_21 hRM, ↓cM_23 hRM, ↓cM_24 hRM, ↓cM_25 hRM, ↓cM_26 hRM, ↓cM_27 hRM, ↓cM_28 hRM, ↓cM_29 hRM, ↓cM_30 hRM, ↓cM_32 hRM, ↓bno8, ↓brf8]
        · have hbn : b < an A := by
            refine Decidable.byContradiction (fun q => ?_)
            rw [hn1 b (by omega)] at e4
            exact nI_m1 (by omega) e4.symm
          have e5 : gI v 48 b = gol A b := by rw [gol_i hbn]; exact (hT.1 b hbn).2.2.2.2.2.2.2.2.2.2.1
          have b0 : ¬ nI b < 0 := nI_pos (by omega)
          have r3 := (gol_range hW b).1
          by_cases c4 : gol A b = -1
          · have c4' := fun q => ((pos_t r3).mp q) c4
            have hne : f j ≠ gol A j := fun q => by
              by_cases e : j = b
              · subst e; exact c2 c4
              · exact c1 (hd j b (by omega) hb e (by rw [q, q2, e4]))
            have hbt : blk (gol A) f j = true := by
              unfold blk
              rw [ast_t.mpr ⟨c1, c2, hne⟩, Bool.true_and]
              exact ex_t 80 0 b (by omega) (by omega) (by simp only [Bool.and_eq_true, decide_eq_true_eq]; exact ⟨e4.trans q2.symm, c4⟩)
            rw [hbt, Bool.true_or, if_pos rfl]
            simp (disch := first | exact h60 | omega | with_unfolding_all exact h60) only [L_X8_plans_79, h7, eq_false hnl, e1, eq_false c1', e2, eq_true c2', e3, eq_false b0, e5, eq_false c4', ↓bb_e, ↓c_sI, ↓o_sI, ↓a_sI, ↓c_sL, ↓o_sL, ↓a_sL, ↓c_rI, ↓o_rI, ↓a_rI, ↓c_rL, ↓o_rL, ↓a_rL, ↓c_rngI, ↓o_rngI, ↓a_rngI, ↓c_rngL, ↓o_rngL, ↓a_rngL, ↓bd_s, ↓cs_s, ↓cs_n, ↓gd_t, ↓gB0, ↓gB1, ↓gOT, ↓gAS, ↓gOY, ↓gAY, ↓reduceIte, d10, nI_clamp, nI_1', i0eq, ↓gO33 h60, ↓gA34 h60, ↓gA35 h60, ↓gA36 h60, ↓gA37 h60, ↓gA38 h60, ↓gA39 h60, ↓gA40 h60, ↓gA41 h60, ↓gA42 h60, ↓gA43 h60, ↓gA44 h60, ↓gA45 h60, ↓gA46 h60, ↓gA47 h60, ↓gA48 h60, ↓gA49 h60, ↓gA50 h60, ↓gA51 h60, ↓gA52 h60, ↓gA53 h60, ↓gA54 h60, ↓gA55 h60, ↓gA56 h60, ↓gA57 h60, ↓gA58 h60, ↓gA59 h60, ↓cM_4 hRM, ↓cM_5 hRM, ↓cM_6 hRM, ↓cM_8 hRM, ↓cM_9 hRM, ↓cM_10 hRM, ↓cM_11 hRM, ↓cM_12 hRM, ↓cM_13 hRM, ↓cM_14 hRM, ↓cM_15 hRM, ↓cM_16 hRM, ↓cM_17 hRM, ↓cM_18 hRM, ↓cM_19 hRM, ↓cM_20 hRM, ↓cM_21 hRM, ↓cM_23 hRM, ↓cM_24 hRM, ↓cM_25 hRM, ↓cM_26 hRM, ↓cM_27 hRM, ↓cM_28 hRM, ↓cM_29 hRM, ↓cM_30 hRM, ↓cM_32 hRM, ↓bno8, ↓brf8]
          · have c4' := (pos_t r3).mpr c4
            have hbf : blk (gol A) f j = false := by
              unfold blk
              cases cx : ex (fun i => decide (f i = gol A j) && decide (gol A i = -1)) 0 80 with
              | false => rw [Bool.and_false]
              | true =>
                obtain ⟨i, _, i2, i3⟩ := ex_yes cx
                simp only [Bool.and_eq_true, decide_eq_true_eq] at i3
                by_cases e : i = b
                · subst e; exact absurd i3.2 c4
                · exact absurd (i3.1.symm.trans (hd i b (by omega) hb e (by rw [i3.1, e4, q2]))) c2
            rw [count hbf]
            cases ca : ast (gol A) f j with
            | true =>
              rw [ca, b2i_t] at haw
              rw [if_pos rfl]
              simp (disch := first | exact h60 | omega | with_unfolding_all exact h60) only [L_X8_plans_79, h7, eq_false hnl, e1, eq_false c1', e2, eq_true c2', e3, eq_false b0, e5, eq_true c4', ↓bd_of haw, nI_1, ↓bb_e, ↓c_sI, ↓o_sI, ↓a_sI, ↓c_sL, ↓o_sL, ↓a_sL, ↓c_rI, ↓o_rI, ↓a_rI, ↓c_rL, ↓o_rL, ↓a_rL, ↓c_rngI, ↓o_rngI, ↓a_rngI, ↓c_rngL, ↓o_rngL, ↓a_rngL, ↓bd_s, ↓cs_s, ↓cs_n, ↓gd_t, ↓gB0, ↓gB1, ↓gOT, ↓gAS, ↓gOY, ↓gAY, ↓reduceIte, d10, nI_clamp, nI_1', i0eq, ↓gO33 h60, ↓gA34 h60, ↓gA35 h60, ↓gA36 h60, ↓gA37 h60, ↓gA38 h60, ↓gA39 h60, ↓gA40 h60, ↓gA41 h60, ↓gA42 h60, ↓gA43 h60, ↓gA44 h60, ↓gA45 h60, ↓gA46 h60, ↓gA47 h60, ↓gA48 h60, ↓gA49 h60, ↓gA50 h60, ↓gA51 h60, ↓gA52 h60, ↓gA53 h60, ↓gA54 h60, ↓gA55 h60, ↓gA56 h60, ↓gA57 h60, ↓gA58 h60, ↓gA59 h60, ↓cM_4 hRM, ↓cM_5 hRM, ↓cM_6 hRM, ↓cM_8 hRM, ↓cM_9 hRM, ↓cM_10 hRM, ↓cM_11 hRM, ↓cM_12 hRM, ↓cM_13 hRM, ↓cM_14 hRM, ↓cM_15 hRM, ↓cM_16 hRM, ↓cM_17 hRM, ↓cM_18 hRM, ↓cM_19 hRM, ↓cM_20 hRM, ↓cM_21 hRM, ↓cM_23 hRM, ↓cM_24 hRM, ↓cM_25 hRM, ↓cM_26 hRM, ↓cM_27 hRM, ↓cM_28 hRM, ↓cM_29 hRM, ↓cM_30 hRM, ↓cM_32 hRM, ↓bno8, ↓brf8]
            | false =>
              rw [ca, b2i_f] at haw
              rw [if_neg (show ¬ false = true by decide), Nat.add_zero]
              simp (disch := first | exact h60 | omega | with_unfolding_all exact h60) only [L_X8_plans_79, h7, eq_false hnl, e1, eq_false c1', e2, eq_true c2', e3, eq_false b0, e5, eq_true c4', ↓bd_of haw, add0, Nat.add_zero, ↓bb_e, ↓c_sI, ↓o_sI, ↓a_sI, ↓c_sL, ↓o_sL, ↓a_sL, ↓c_rI, ↓o_rI, ↓a_rI, ↓c_rL, ↓o_rL, ↓a_rL, ↓c_rngI, ↓o_rngI, ↓a_rngI, ↓c_rngL, ↓o_rngL, ↓a_rngL, ↓bd_s, ↓cs_s, ↓cs_n, ↓gd_t, ↓gB0, ↓gB1, ↓gOT, ↓gAS, ↓gOY, ↓gAY, ↓reduceIte, d10, nI_clamp, nI_1', i0eq, ↓gO33 h60, ↓gA34 h60, ↓gA35 h60, ↓gA36 h60, ↓gA37 h60, ↓gA38 h60, ↓gA39 h60, ↓gA40 h60, ↓gA41 h60, ↓gA42 h60, ↓gA43 h60, ↓gA44 h60, ↓gA45 h60, ↓gA46 h60, ↓gA47 h60, ↓gA48 h60, ↓gA49 h60, ↓gA50 h60, ↓gA51 h60, ↓gA52 h60, ↓gA53 h60, ↓gA54 h60, ↓gA55 h60, ↓gA56 h60, ↓gA57 h60, ↓gA58 h60, ↓gA59 h60, ↓cM_4 hRM, ↓cM_5 hRM, ↓cM_6 hRM, ↓cM_8 hRM, ↓cM_9 hRM, ↓cM_10 hRM, ↓cM_11 hRM, ↓cM_12 hRM, ↓cM_13 hRM, ↓cM_14 hRM, ↓cM_15 hRM, ↓cM_16 hRM, ↓cM_17 hRM, ↓cM_18 hRM, ↓cM_19 hRM, ↓cM_20 hRM, ↓cM_21 hRM, ↓cM_23 hRM, ↓cM_24 hRM, ↓cM_25 hRM, ↓cM_26 hRM, ↓cM_27 hRM, ↓cM_28 hRM, ↓cM_29 hRM, ↓cM_30 hRM, ↓cM_32 hRM, ↓bno8, ↓brf8]
