theorem pq4_l {w v : Mm} {A : Ab} {f : Nat → Int32} (hW : Wf A) (hM : MR w A) (h : QL w v A f) (hF : ∀ a, a < 80 → -1 ≤ (f a).toInt ∧ (f a).toInt < 40) {q' : Int32} {k : Int32 → Int32 → Int32 → Option (Int32 × Mm)} : ∀ (c n : Nat), c ≤ an A → c < n → L_X8_plans_173 33 q' v k n (pI (kth (gop (gol A) f) c (80 - c) 0)) (pI (kth (ast (gol A) f) c (80 - c) 0)) (nI c - 1) = k (pI (kth (gop (gol A) f) 0 80 0)) (pI (kth (ast (gol A) f) 0 80 0)) (-1) := by
  have h80 := hW.1.1
  have hG := gol_ok hW
  obtain ⟨hRM, h60, h7, -, -, hT, -⟩ := hM.scrM h.1
  intro c
  induction c with
  | zero =>
    intro n h1 h2
    obtain ⟨n, rfl⟩ : ∃ b, n = b + 1 := ⟨n - 1, by omega⟩
    rw [nI_0, show (0 : Int32) - 1 = -1 from rfl, L_X8_plans_173, if_pos (by decide)]
  | succ c ih =>
    intro n h1 h2
    obtain ⟨n, rfl⟩ : ∃ b, n = b + 1 := ⟨n - 1, by omega⟩
    have ih := ih n (by omega) (by omega)
    have hc : c < an A := by omega
    have c0 : ¬ nI c < 0 := nI_pos (by omega)
    have haw := away_t hW hM h hF hc
    rw [show 80 - c = (80 - (c + 1)) + 1 by omega] at ih
    rw [nI_pred]
    cases ca : ast (gol A) f c with
    | false =>
      rw [ca, b2i_f] at haw
      have g1 : gop (gol A) f c = false := by simp [gop, ca]
      rw [kth_f g1, kth_f ca] at ih
      rw [← ih]
      simp (disch := first | exact h60 | omega | with_unfolding_all exact h60) only [L_X8_plans_173, eq_false c0, ↓bd_of haw, sub1, ↓bb_e, ↓c_sI, ↓o_sI, ↓a_sI, ↓c_sL, ↓o_sL, ↓a_sL, ↓c_rI, ↓o_rI, ↓a_rI, ↓c_rL, ↓o_rL, ↓a_rL, ↓c_rngI, ↓o_rngI, ↓a_rngI, ↓c_rngL, ↓o_rngL, ↓a_rngL, ↓bd_s, ↓cs_s, ↓cs_n, ↓gd_t, ↓gB0, ↓gB1, ↓gOT, ↓gAS, ↓gOY, ↓gAY, ↓reduceIte, d10, nI_clamp, nI_1', i0eq, ↓gO33 h60, ↓gA34 h60, ↓gA35 h60, ↓gA36 h60, ↓gA37 h60, ↓gA38 h60, ↓gA39 h60, ↓gA40 h60, ↓gA41 h60, ↓gA42 h60, ↓gA43 h60, ↓gA44 h60, ↓gA45 h60, ↓gA46 h60, ↓gA47 h60, ↓gA48 h60, ↓gA49 h60, ↓gA50 h60, ↓gA51 h60, ↓gA52 h60, ↓gA53 h60, ↓gA54 h60, ↓gA55 h60, ↓gA56 h60, ↓gA57 h60, ↓gA58 h60, ↓gA59 h60, ↓cM_4 hRM, ↓cM_5 hRM, ↓cM_6 hRM, ↓cM_8 hRM, ↓cM_9 hRM, ↓cM_10 hRM, ↓cM_11 hRM, ↓cM_12 hRM, ↓cM_13 hRM, ↓cM_14 hRM, ↓cM_15 hRM, ↓cM_16 hRM, ↓cM_17 hRM, ↓cM_18 hRM, ↓cM_19 hRM, ↓cM_20 hRM, ↓cM_21 hRM, ↓cM_23 hRM, ↓cM_24 hRM, ↓cM_25 hRM, ↓cM_26 hRM, ↓cM_27 hRM, ↓cM_28 hRM, ↓cM_29 hRM, ↓cM_30 hRM, ↓cM_32 hRM, ↓bno8, ↓brf8]
    | true =>
      rw [ca, b2i_t] at haw
      obtain ⟨q, q1, q2⟩ := goal_q hG (ast_t.mp ca).2.1
      have e2 : gI v 48 c = nI q := by rw [← q2, gol_i hc]; exact (hT.1 c hc).2.2.2.2.2.2.2.2.2.2.1
      rcases bk_e h.2.2 q1 with ⟨c3, e3⟩ | ⟨c3, b, hb, e3, e4⟩
      · have g1 : gop (gol A) f c = true := by simp [gop, ca, q2, c3]
        have b0 : ¬ (0 : Int32) ≤ -1 := by decide
        rw [kth_0 g1, kth_0 ca] at ih
        rw [← ih]
        simp (disch := first | exact h60 | omega | with_unfolding_all exact h60) only [L_X8_plans_173, eq_false c0, ↓bd_of haw, e2, e3, eq_false b0, sub1, ↓bb_e, ↓c_sI, ↓o_sI, ↓a_sI, ↓c_sL, ↓o_sL, ↓a_sL, ↓c_rI, ↓o_rI, ↓a_rI, ↓c_rL, ↓o_rL, ↓a_rL, ↓c_rngI, ↓o_rngI, ↓a_rngI, ↓c_rngL, ↓o_rngL, ↓a_rngL, ↓bd_s, ↓cs_s, ↓cs_n, ↓gd_t, ↓gB0, ↓gB1, ↓gOT, ↓gAS, ↓gOY, ↓gAY, ↓reduceIte, d10, nI_clamp, nI_1', i0eq, ↓gO33 h60, ↓gA34 h60, ↓gA35 h60, ↓gA36 h60, ↓gA37 h60, ↓gA38 h60, ↓gA39 h60, ↓gA40 h60, ↓gA41 h60, ↓gA42 h60, ↓gA43 h60, ↓gA44 h60, ↓gA45 h60, ↓gA46 h60, ↓gA47 h60, ↓gA48 h60, ↓gA49 h60, ↓gA50 h60, ↓gA51 h60, ↓gA52 h60, ↓gA53 h60, ↓gA54 h60, ↓gA55 h60, ↓gA56 h60, ↓gA57 h60, ↓gA58 h60, ↓gA59 h60, ↓cM_4 hRM, ↓cM_5 hRM, ↓cM_6 hRM, ↓cM_8 hRM, ↓cM_9 hRM, ↓cM_10 hRM, ↓cM_11 hRM, ↓cM_12 hRM, ↓cM_13 hRM, ↓cM_14 hRM, ↓cM_15 hRM, ↓cM_16 hRM, ↓cM_17 hRM, ↓cM_18 hRM, ↓cM_19 hRM, ↓cM_20 hRM, ↓cM_21 hRM, ↓cM_23 hRM, ↓cM_24 hRM, ↓cM_25 hRM, ↓cM_26 hRM, ↓cM_27 hRM, ↓cM_28 hRM, ↓cM_29 hRM, ↓cM_30 hRM, ↓cM_32 hRM, ↓bno8, ↓brf8]
        rfl
      · have g1 : gop (gol A) f c = false := by simp [gop, q2, c3]
        have b0 : 0 ≤ nI b := nI_pos' (by omega)
        rw [kth_f g1, kth_0 ca] at ih
        rw [← ih]
        simp (disch := first | exact h60 | omega | with_unfolding_all exact h60) only [L_X8_plans_173, eq_false c0, ↓bd_of haw, e2, e3, eq_true b0, sub1, ↓bb_e, ↓c_sI, ↓o_sI, ↓a_sI, ↓c_sL, ↓o_sL, ↓a_sL, ↓c_rI, ↓o_rI, ↓a_rI, ↓c_rL, ↓o_rL, ↓a_rL, ↓c_rngI, ↓o_rngI, ↓a_rngI, ↓c_rngL, ↓o_rngL, ↓a_rngL, ↓bd_s, ↓cs_s, ↓cs_n, ↓gd_t, ↓gB0, ↓gB1, ↓gOT, ↓gAS, ↓gOY, ↓gAY, ↓reduceIte, d10, nI_clamp, nI_1', i0eq, ↓gO33 h60, ↓gA34 h60, ↓gA35 h60, ↓gA36 h60, ↓gA37 h60, ↓gA38 h60, ↓gA39 h60, ↓gA40 h60, ↓gA41 h60, ↓gA42 h60, ↓gA43 h60, ↓gA44 h60, ↓gA45 h60, ↓gA46 h60, ↓gA47 h60, ↓gA48 h60, ↓gA49 h60, ↓gA50 h60, ↓gA51 h60, ↓gA52 h60, ↓gA53 h60, ↓gA54 h60, ↓gA55 h60, ↓gA56 h60, ↓gA57 h60, ↓gA58 h60, ↓gA59 h60, ↓cM_4 hRM, ↓cM_5 hRM, ↓cM_6 hRM, ↓cM_8 hRM, ↓cM_9 hRM, ↓cM_10 hRM, ↓cM_11 hRM, ↓cM_12 hRM, ↓cM_13 hRM, ↓cM_14 hRM, ↓cM_15 hRM, ↓cM_16 hRM, ↓cM_17 hRM, ↓cM_18 hRM, ↓cM_19 hRM, ↓cM_20 hRM, ↓cM_21 hRM, ↓cM_23 hRM, ↓cM_24 hRM, ↓cM_25 hRM, ↓cM_26 hRM, ↓cM_27 hRM, ↓cM_28 hRM, ↓cM_29 hRM, ↓cM_30 hRM, ↓cM_32 hRM, ↓bno8, ↓brf8]
        rfl
theorem pq5_l {w v : Mm} {A : Ab} {f : Nat → Int32} (hM : MR w A) (h : QL w v A f) {a b c : Int32} {k : Int32 → Option (Int32 × Mm)} : ∀ (d n j : Nat), j + d = 40 → d < n → L_X8_plans_241 33 a b c v k n (nI j) = k (match kth (fun p => emp f (nI p)) j d 0 with
    | some p => nI p
    | none => 40) := by
  obtain ⟨hRM, h60, -⟩ := hM.scrM h.1
  intro d
  induction d with
  | zero =>
    intro n j h1 h2
    obtain ⟨n, rfl⟩ : ∃ b, n = b + 1 := ⟨n - 1, by omega⟩
    have e : j = 40 := by omega
    subst e
    rw [L_X8_plans_241, if_pos (by decide)]
    rfl
  | succ d ih =>
    intro n j h1 h2
    obtain ⟨n, rfl⟩ : ∃ b, n = b + 1 := ⟨n - 1, by omega⟩
    have hj : j < 40 := by omega
    have hnl := n40 hj
    rcases bk_e h.2.2 hj with ⟨c3, e3⟩ | ⟨c3, b, hb, e3, -⟩
    · rw [kth_0 c3]
      have b0 : (-1 : Int32) < 0 := by decide
      simp (disch := first | exact h60 | omega | with_unfolding_all exact h60) only [L_X8_plans_241, eq_false hnl, e3, eq_true b0, ↓bb_e, ↓c_sI, ↓o_sI, ↓a_sI, ↓c_sL, ↓o_sL, ↓a_sL, ↓c_rI, ↓o_rI, ↓a_rI, ↓c_rL, ↓o_rL, ↓a_rL, ↓c_rngI, ↓o_rngI, ↓a_rngI, ↓c_rngL, ↓o_rngL, ↓a_rngL, ↓bd_s, ↓cs_s, ↓cs_n, ↓gd_t, ↓gB0, ↓gB1, ↓gOT, ↓gAS, ↓gOY, ↓gAY, ↓reduceIte, d10, nI_clamp, nI_1', i0eq, ↓gO33 h60, ↓gA34 h60, ↓gA35 h60, ↓gA36 h60, ↓gA37 h60, ↓gA38 h60, ↓gA39 h60, ↓gA40 h60, ↓gA41 h60, ↓gA42 h60, ↓gA43 h60, ↓gA44 h60, ↓gA45 h60, ↓gA46 h60, ↓gA47 h60, ↓gA48 h60, ↓gA49 h60, ↓gA50 h60, ↓gA51 h60, ↓gA52 h60, ↓gA53 h60, ↓gA54 h60, ↓gA55 h60, ↓gA56 h60, ↓gA57 h60, ↓gA58 h60, ↓gA59 h60, ↓cM_4 hRM, ↓cM_5 hRM, ↓cM_6 hRM, ↓cM_8 hRM, ↓cM_9 hRM, ↓cM_10 hRM, ↓cM_11 hRM, ↓cM_12 hRM, ↓cM_13 hRM, ↓cM_14 hRM, ↓cM_15 hRM, ↓cM_16 hRM, ↓cM_17 hRM, ↓cM_18 hRM, ↓cM_19 hRM, ↓cM_20 hRM, ↓cM_21 hRM, ↓cM_23 hRM, ↓cM_24 hRM, ↓cM_25 hRM, ↓cM_26 hRM, ↓cM_27 hRM, ↓cM_28 hRM, ↓cM_29 hRM, ↓cM_30 hRM, ↓cM_32 hRM, ↓bno8, ↓brf8]
    · rw [kth_f c3]
      have b0 : ¬ nI b < 0 := nI_pos (by omega)
      simp (disch := first | exact h60 | omega | with_unfolding_all exact h60) only [L_X8_plans_241, eq_false hnl, e3, eq_false b0, ↓bb_e, ↓c_sI, ↓o_sI, ↓a_sI, ↓c_sL, ↓o_sL, ↓a_sL, ↓c_rI, ↓o_rI, ↓a_rI, ↓c_rL, ↓o_rL, ↓a_rL, ↓c_rngI, ↓o_rngI, ↓a_rngI, ↓c_rngL, ↓o_rngL, ↓a_rngL, ↓bd_s, ↓cs_s, ↓cs_n, ↓gd_t, ↓gB0, ↓gB1, ↓gOT, ↓gAS, ↓gOY, ↓gAY, ↓reduceIte, d10, nI_clamp, nI_1', i0eq, ↓gO33 h60, ↓gA34 h60, ↓gA35 h60, ↓gA36 h60, ↓gA37 h60, ↓gA38 h60, ↓gA39 h60, ↓gA40 h60, ↓gA41 h60, ↓gA42 h60, ↓gA43 h60, ↓gA44 h60, ↓gA45 h60, ↓gA46 h60, ↓gA47 h60, ↓gA48 h60, ↓gA49 h60, ↓gA50 h60, ↓gA51 h60, ↓gA52 h60, ↓gA53 h60, ↓gA54 h60, ↓gA55 h60, ↓gA56 h60, ↓gA57 h60, ↓gA58 h60, ↓gA59 h60, ↓cM_4 hRM, ↓cM_5 hRM, ↓cM_6 hRM, ↓cM_8 hRM, ↓cM_9 hRM, ↓cM_10 hRM, ↓cM_11 hRM, ↓cM_12 hRM, ↓cM_13 hRM, ↓cM_14 hRM, ↓cM_15 hRM, ↓cM_16 hRM, ↓cM_17 hRM, ↓cM_18 hRM, ↓cM_19 hRM, ↓cM_20 hRM, ↓cM_21 hRM, ↓cM_23 hRM, ↓cM_24 hRM, ↓cM_25 hRM, ↓cM_26 hRM, ↓cM_27 hRM, ↓cM_28 hRM, ↓cM_29 hRM, ↓cM_30 hRM, ↓cM_32 hRM, ↓bno8, ↓brf8]
      exact ih n (j + 1) (by omega) (by omega)
/-- the reference's cells hold the plan s -/
def PM (w v : Mm) (A : Ab) (s : PS) : Prop := QL w v A s.1 ∧ gI v 33 31 = nI s.2.1 ∧ ∀ k, k < s.2.1 → gI v 56 k = s.2.2.1 k ∧ gI v 57 k = s.2.2.2.1 k ∧ gI v 58 k = s.2.2.2.2 k
theorem tk_t {w v : Mm} {A : Ab} {s : PS} (hW : Wf A) (hM : MR w A) (h : PM w v A s) (hF : okF (gol A) s.1 (an A)) (hc : s.2.1 < 80) {b z : Nat} (hb : b < an A) (hf : s.1 b ≠ -1) (hz : z < 40) (he : emp s.1 (nI z) = true) : ∃ v', PM w v' A (mvS s b (nI z)) ∧ f_X8_take 33 (nI b) (nI z) v = some v' := by
  have h80 := hW.1.1
  obtain ⟨⟨hs, hp, hB⟩, h6, hr⟩ := h
  obtain ⟨hRM, h60, -⟩ := hM.scrM hs
  obtain ⟨q, q1, q2⟩ := i_ex2 (n := 40) (ge0 hf (hF.2.1 b (by omega)))
  have e55 : gI v 55 b = nI q := by rw [← q2]; exact hp b hb
  have hzq : z ≠ q := fun e => by subst e; exact emp_t he b (by omega) q2
  refine ⟨sI (sI (sI (sI (sI (sI (sI v 56 s.2.1 (nI b)) 57 s.2.1 (nI q)) 58 s.2.1 (nI z)) 33 31 (nI (s.2.1 + 1))) 54 q (-1)) 54 z (nI b)) 55 b (nI z), ⟨⟨?_, fun i hi => ?_, fun p hp' => ?_⟩, ?_, fun k hk => ?_⟩, ?_⟩
  · exact ((((((hs.sI (by omega)).sI (by omega)).sI (by omega)).sI (by omega)).sI (by omega)).sI (by omega)).sI (by omega)
  · show _ = u1 s.1 b (nI z) i
    by_cases c : i = b
    · subst c; rw [u1_e]; exact gI_e
    · rw [u1_n c]
      simp (disch := omega) only [gI_e, gL_e, gR_e, gI_n, gL_n, gR_n, gI_re, gI_rn, gI_nn, gL_nn, gR_nn, gI_sR, gI_sL, gR_sI, gR_sL, gL_sI, gL_sR, gR_rngI, gL_rngI, gI_rngL, gR_rngL]
      exact hp i hi
  · show _ ∨ ∃ b', b' < 80 ∧ _ ∧ u1 s.1 b (nI z) b' = nI p
    by_cases c1 : p = z
    · subst c1
      refine Or.inr ⟨b, by omega, ?_, u1_e⟩
      simp (disch := omega) only [gI_e, gL_e, gR_e, gI_n, gL_n, gR_n, gI_re, gI_rn, gI_nn, gL_nn, gR_nn, gI_sR, gI_sL, gR_sI, gR_sL, gL_sI, gL_sR, gR_rngI, gL_rngI, gI_rngL, gR_rngL]
    · by_cases c2 : p = q
      · subst c2
        refine Or.inl ⟨?_, fun i hi q' => ?_⟩
        · simp (disch := omega) only [gI_e, gL_e, gR_e, gI_n, gL_n, gR_n, gI_re, gI_rn, gI_nn, gL_nn, gR_nn, gI_sR, gI_sL, gR_sI, gR_sL, gL_sI, gL_sR, gR_rngI, gL_rngI, gI_rngL, gR_rngL]
        · have q' : u1 s.1 b (nI z) i = nI p := q'
          by_cases c : i = b
          · subst c; rw [u1_e] at q'; exact c1 (nI_ij (by omega) (by omega) q').symm
          · rw [u1_n c] at q'
            exact hf (by rw [← (hF.1 i b hi (by omega) c (by rw [q', q2])), q', q2])
      · simp (disch := omega) only [gI_e, gL_e, gR_e, gI_n, gL_n, gR_n, gI_re, gI_rn, gI_nn, gL_nn, gR_nn, gI_sR, gI_sL, gR_sI, gR_sL, gL_sI, gL_sR, gR_rngI, gL_rngI, gI_rngL, gR_rngL]
        rcases hB p hp' with ⟨b1, b2⟩ | ⟨b', b1, b2, b3⟩
        · refine Or.inl ⟨b1, fun i hi q' => ?_⟩
          have q' : u1 s.1 b (nI z) i = nI p := q'
          by_cases c : i = b
          · subst c; rw [u1_e] at q'; exact c1 (nI_ij (by omega) (by omega) q').symm
          · rw [u1_n c] at q'; exact b2 i hi q'
        · have c : b' ≠ b := fun e => by subst e; rw [q2] at b3; exact c2 (nI_ij (by omega) (by omega) b3).symm
          exact Or.inr ⟨b', b1, b2, by rw [u1_n c]; exact b3⟩
  · simp (disch := omega) only [gI_e, gL_e, gR_e, gI_n, gL_n, gR_n, gI_re, gI_rn, gI_nn, gL_nn, gR_nn, gI_sR, gI_sL, gR_sI, gR_sL, gL_sI, gL_sR, gR_rngI, gL_rngI, gI_rngL, gR_rngL]
    rfl
  · have hk : k < s.2.1 + 1 := hk
    by_cases c : k = s.2.1
    · subst c
      simp (disch := omega) only [gI_e, gL_e, gR_e, gI_n, gL_n, gR_n, gI_re, gI_rn, gI_nn, gL_nn, gR_nn, gI_sR, gI_sL, gR_sI, gR_sL, gL_sI, gL_sR, gR_rngI, gL_rngI, gI_rngL, gR_rngL]
      refine ⟨u1_e.symm, ?_, u1_e.symm⟩
      rw [← q2]; exact u1_e.symm
    · simp (disch := omega) only [gI_e, gL_e, gR_e, gI_n, gL_n, gR_n, gI_re, gI_rn, gI_nn, gL_nn, gR_nn, gI_sR, gI_sL, gR_sI, gR_sL, gL_sI, gL_sR, gR_rngI, gL_rngI, gI_rngL, gR_rngL]
      obtain ⟨r1, r2, r3⟩ := hr k (by omega)
      exact ⟨r1.trans (u1_n c).symm, r2.trans (u1_n c).symm, r3.trans (u1_n c).symm⟩
  · have m1 : ∀ x : Int32, gI (sI v 56 s.2.1 x) 33 31 = nI s.2.1 := fun x => by rw [gI_n (by omega)]; exact h6
    have m2 : ∀ x : Int32, gI (sI v 56 s.2.1 x) 55 b = nI q := fun x => by rw [gI_n (by omega)]; exact e55
    have m3 : ∀ x y : Int32, gI (sI (sI v 56 s.2.1 x) 57 s.2.1 y) 33 31 = nI s.2.1 := fun x y => by rw [gI_n (by omega)]; exact m1 x
    have m4 : ∀ x y z : Int32, gI (sI (sI (sI v 56 s.2.1 x) 57 s.2.1 y) 58 s.2.1 z) 33 31 = nI s.2.1 := fun x y z => by rw [gI_n (by omega)]; exact m3 x y
    have m5 : ∀ x y z t : Int32, gI (sI (sI (sI (sI v 56 s.2.1 x) 57 s.2.1 y) 58 s.2.1 z) 33 31 t) 55 b = nI q := fun x y z t => by rw [gI_n (by omega), gI_n (by omega), gI_n (by omega)]; exact m2 x
    simp (disch := first | exact h60 | omega | with_unfolding_all exact h60) only [f_X8_take, h6, m1, m2, m3, m4, m5, nI_1, ↓bb_e, ↓c_sI, ↓o_sI, ↓a_sI, ↓c_sL, ↓o_sL, ↓a_sL, ↓c_rI, ↓o_rI, ↓a_rI, ↓c_rL, ↓o_rL, ↓a_rL, ↓c_rngI, ↓o_rngI, ↓a_rngI, ↓c_rngL, ↓o_rngL, ↓a_rngL, ↓bd_s, ↓cs_s, ↓cs_n, ↓gd_t, ↓gB0, ↓gB1, ↓gOT, ↓gAS, ↓gOY, ↓gAY, ↓reduceIte, d10, nI_clamp, nI_1', i0eq, ↓gO33 h60, ↓gA34 h60, ↓gA35 h60, ↓gA36 h60, ↓gA37 h60, ↓gA38 h60, ↓gA39 h60, ↓gA40 h60, ↓gA41 h60, ↓gA42 h60, ↓gA43 h60, ↓gA44 h60, ↓gA45 h60, ↓gA46 h60, ↓gA47 h60, ↓gA48 h60, ↓gA49 h60, ↓gA50 h60, ↓gA51 h60, ↓gA52 h60, ↓gA53 h60, ↓gA54 h60, ↓gA55 h60, ↓gA56 h60, ↓gA57 h60, ↓gA58 h60, ↓gA59 h60, ↓cM_4 hRM, ↓cM_5 hRM, ↓cM_6 hRM, ↓cM_8 hRM, ↓cM_9 hRM, ↓cM_10 hRM, ↓cM_11 hRM, ↓cM_12 hRM, ↓cM_13 hRM, ↓cM_14 hRM, ↓cM_15 hRM, ↓cM_16 hRM, ↓cM_17 hRM, ↓cM_18 hRM, ↓cM_19 hRM, ↓cM_20 hRM, ↓cM_21 hRM, ↓cM_23 hRM, ↓cM_24 hRM, ↓cM_25 hRM, ↓cM_26 hRM, ↓cM_27 hRM, ↓cM_28 hRM, ↓cM_29 hRM, ↓cM_30 hRM, ↓cM_32 hRM, ↓bno8, ↓brf8]
theorem ast_lt {G f : Nat → Int32} {n b : Nat} (hF : okF G f n) (h : ast G f b = true) : b < n := by
  refine Decidable.byContradiction (fun q => ?_)
  exact (ast_t.mp h).1 (hF.2.2.1 b (by omega))
/-- the reference's steps -/
theorem pm_l {w : Mm} {A : Ab} (hW : Wf A) (hM : MR w A) : ∀ (d n : Nat) (v : Mm) (s : PS) (x : Int32), d < n → s.2.1 + d ≤ 80 → PM w v A s → okF (gol A) s.1 (an A) → phi (gol A) s.1 ≤ d →
    (∃ v' s', pl (gol A) d s = some s' ∧ PM w v' A s' ∧ okF (gol A) s'.1 (an A) ∧ L_X8_plans_157 33 (fun a106 a107 u108 => some (1, u108)) n (nI (cf (ast (gol A) s.1) 0 80)) x v = some (1, v')) ∨ (∃ v', pl (gol A) d s = none ∧ scrM w v' ∧ L_X8_plans_157 33 (fun a106 a107 u108 => some (1, u108)) n (nI (cf (ast (gol A) s.1) 0 80)) x v = some (0, v')) := by
  have h80 := hW.1.1
  have hG := gol_ok hW
  intro d
  induction d with
  | zero =>
    intro n v s x h1 h2 hP hF hphi
    obtain ⟨n, rfl⟩ : ∃ b, n = b + 1 := ⟨n - 1, by omega⟩
    have hx := phi_0 (Nat.le_zero.mp hphi)
    have hc : cf (ast (gol A) s.1) 0 80 = 0 := cf_none (fun i _ hi => nxt_n hx i (by omega))
    refine Or.inl ⟨v, s, rfl, hP, hF, ?_⟩
    rw [hc, nI_0, L_X8_plans_157, if_pos (by decide)]
  | succ d ih =>
    intro n v s x h1 h2 hP hF hphi
    obtain ⟨n, rfl⟩ : ∃ b, n = b + 1 := ⟨n - 1, by omega⟩
    obtain ⟨hRM, h60, h7, -, -, hT, -⟩ := hM.scrM hP.1.1
    cases hx : nxt (gol A) s.1 with
    | none =>
      have hc : cf (ast (gol A) s.1) 0 80 = 0 := cf_none (fun i _ hi => nxt_n hx i (by omega))
      refine Or.inl ⟨v, s, pl_0 hx, hP, hF, ?_⟩
      rw [hc, nI_0, L_X8_plans_157, if_pos (by decide)]
    | some b =>
      obtain ⟨b1, b2, b3⟩ := nxt_s hx
      have hbn := ast_lt hF b2
      have hfn := (ast_t.mp b2).1
      have hgn := (ast_t.mp b2).2.1
      obtain ⟨q, q1, q2⟩ := goal_q hG hgn
      have hcp := cf_pos (P := ast (gol A) s.1) (j := 0) (d := 80) (by omega) (by omega) b2
      have hcl := cf_le (ast (gol A) s.1) 80 0
      have n0 : ¬ nI (cf (ast (gol A) s.1) 0 80) ≤ 0 := by
        obtain ⟨c, hc⟩ : ∃ c, cf (ast (gol A) s.1) 0 80 = c + 1 := ⟨_, (Nat.sub_add_cancel hcp).symm⟩
        rw [hc]; exact nI_nle (by omega) (by omega)
      have s0 : kth (gop (gol A) s.1) (an A) (80 - an A) 0 = none := kth0_none (fun i hi _ => by simp [gop, ast, hF.2.2.1 i hi])
      have s1 : kth (ast (gol A) s.1) (an A) (80 - an A) 0 = none := kth0_none (fun i hi _ => by simp [ast, hF.2.2.1 i hi])
      have l4 := fun q' (k : Int32 → Int32 → Int32 → Option (Int32 × Mm)) => pq4_l hW hM hP.1 hF.2.1 (q' := q') (k := k) (an A) 1000 (Nat.le_refl _) (by omega)
      rw [s0, s1] at l4
      have l4 : ∀ q' (k : Int32 → Int32 → Int32 → Option (Int32 × Mm)), L_X8_plans_173 33 q' v k 1000 (-1) (-1) (nI (an A) - 1) = k (pI (kth (gop (gol A) s.1) 0 80 0)) (pI (kth (ast (gol A) s.1) 0 80 0)) (-1) := l4
      have go : ∀ z, z < 40 → dst (gol A) s.1 b = some (nI z) → ∃ v2, PM w v2 A (mvS s b (nI z)) ∧ f_X8_take 33 (nI b) (nI z) v = some v2 ∧ okF (gol A) (mvS s b (nI z)).1 (an A) ∧ phi (gol A) (mvS s b (nI z)).1 ≤ d ∧ cf (ast (gol A) s.1) 0 80 = cf (ast (gol A) (mvS s b (nI z)).1) 0 80 + (if emp s.1 (gol A b) = true then 1 else 0) := fun z hz hp => by
        obtain ⟨o1, o2, o3⟩ := phi_s hG hF hx hp
        obtain ⟨p1, p2, -⟩ := dst_s (ge0 hgn (hG.2.1 b)) hp
        obtain ⟨v2, w1, w2⟩ := tk_t hW hM hP hF (by omega) hbn hfn hz p2
        refine ⟨v2, w1, w2, o1, ?_, o3⟩
        show phi (gol A) (u1 s.1 b (nI z)) ≤ d
        omega
      cases hk : kth (gop (gol A) s.1) 0 80 0 with
      | some b' =>
        have e : b' = b := by unfold nxt at hx; rw [hk] at hx; exact Option.some.inj hx
        subst e
        have ge : emp s.1 (gol A b') = true := by
          have := (kth0_y hk).1
          simp only [gop, Bool.and_eq_true] at this
          exact this.2
        have hd : dst (gol A) s.1 b' = some (nI q) := by rw [← q2]; exact if_pos ge
        obtain ⟨v2, w1, w2, w3, w4, w5⟩ := go q q1 hd
        rw [if_pos ge] at w5
        rw [pl_s hx hd]
        have e48 : gI v 48 b' = nI q := by rw [← q2, gol_i hbn]; exact (hT.1 b' hbn).2.2.2.2.2.2.2.2.2.2.1
        have b0 : ¬ nI b' < 0 := nI_pos (by omega)
        have key : ∀ k : Int32 → Int32 → Mm → Option (Int32 × Mm), L_X8_plans_157 33 k (n + 1) (nI (cf (ast (gol A) s.1) 0 80)) x v = L_X8_plans_157 33 k n (nI (cf (ast (gol A) (mvS s b' (nI q)).1) 0 80)) (nI b') v2 := fun k => by
          rw [L_X8_plans_157]
          simp (disch := first | exact h60 | omega | with_unfolding_all exact h60) only [eq_false n0, h7, ↓l4, ↓bb_e, ↓c_sI, ↓o_sI, ↓a_sI, ↓c_sL, ↓o_sL, ↓a_sL, ↓c_rI, ↓o_rI, ↓a_rI, ↓c_rL, ↓o_rL, ↓a_rL, ↓c_rngI, ↓o_rngI, ↓a_rngI, ↓c_rngL, ↓o_rngL, ↓a_rngL, ↓bd_s, ↓cs_s, ↓cs_n, ↓gd_t, ↓gB0, ↓gB1, ↓gOT, ↓gAS, ↓gOY, ↓gAY, ↓reduceIte, d10, nI_clamp, nI_1', i0eq, ↓gO33 h60, ↓gA34 h60, ↓gA35 h60, ↓gA36 h60, ↓gA37 h60, ↓gA38 h60, ↓gA39 h60, ↓gA40 h60, ↓gA41 h60, ↓gA42 h60, ↓gA43 h60, ↓gA44 h60, ↓gA45 h60, ↓gA46 h60, ↓gA47 h60, ↓gA48 h60, ↓gA49 h60, ↓gA50 h60, ↓gA51 h60, ↓gA52 h60, ↓gA53 h60, ↓gA54 h60, ↓gA55 h60, ↓gA56 h60, ↓gA57 h60, ↓gA58 h60, ↓gA59 h60, ↓cM_4 hRM, ↓cM_5 hRM, ↓cM_6 hRM, ↓cM_8 hRM, ↓cM_9 hRM, ↓cM_10 hRM, ↓cM_11 hRM, ↓cM_12 hRM, ↓cM_13 hRM, ↓cM_14 hRM, ↓cM_15 hRM, ↓cM_16 hRM, ↓cM_17 hRM, ↓cM_18 hRM, ↓cM_19 hRM, ↓cM_20 hRM, ↓cM_21 hRM, ↓cM_23 hRM, ↓cM_24 hRM, ↓cM_25 hRM, ↓cM_26 hRM, ↓cM_27 hRM, ↓cM_28 hRM, ↓cM_29 hRM, ↓cM_30 hRM, ↓cM_32 hRM, ↓bno8, ↓brf8]
          rw [hk, show pI (some b') = nI b' from rfl]
          simp (disch := first | exact h60 | omega | with_unfolding_all exact h60) only [eq_false b0, e48, ↓bd_of w2, w5, sub1, nI_pred, ↓bb_e, ↓c_sI, ↓o_sI, ↓a_sI, ↓c_sL, ↓o_sL, ↓a_sL, ↓c_rI, ↓o_rI, ↓a_rI, ↓c_rL, ↓o_rL, ↓a_rL, ↓c_rngI, ↓o_rngI, ↓a_rngI, ↓c_rngL, ↓o_rngL, ↓a_rngL, ↓bd_s, ↓cs_s, ↓cs_n, ↓gd_t, ↓gB0, ↓gB1, ↓gOT, ↓gAS, ↓gOY, ↓gAY, ↓reduceIte, d10, nI_clamp, nI_1', i0eq, ↓gO33 h60, ↓gA34 h60, ↓gA35 h60, ↓gA36 h60, ↓gA37 h60, ↓gA38 h60, ↓gA39 h60, ↓gA40 h60, ↓gA41 h60, ↓gA42 h60, ↓gA43 h60, ↓gA44 h60, ↓gA45 h60, ↓gA46 h60, ↓gA47 h60, ↓gA48 h60, ↓gA49 h60, ↓gA50 h60, ↓gA51 h60, ↓gA52 h60, ↓gA53 h60, ↓gA54 h60, ↓gA55 h60, ↓gA56 h60, ↓gA57 h60, ↓gA58 h60, ↓gA59 h60, ↓cM_4 hRM, ↓cM_5 hRM, ↓cM_6 hRM, ↓cM_8 hRM, ↓cM_9 hRM, ↓cM_10 hRM, ↓cM_11 hRM, ↓cM_12 hRM, ↓cM_13 hRM, ↓cM_14 hRM, ↓cM_15 hRM, ↓cM_16 hRM, ↓cM_17 hRM, ↓cM_18 hRM, ↓cM_19 hRM, ↓cM_20 hRM, ↓cM_21 hRM, ↓cM_23 hRM, ↓cM_24 hRM, ↓cM_25 hRM, ↓cM_26 hRM, ↓cM_27 hRM, ↓cM_28 hRM, ↓cM_29 hRM, ↓cM_30 hRM, ↓cM_32 hRM, ↓bno8, ↓brf8]
        rw [key]
        exact ih n v2 _ _ (by omega) (by show s.2.1 + 1 + d ≤ 80; omega) w1 w3 w4
      | none =>
        have hka : kth (ast (gol A) s.1) 0 80 0 = some b := by unfold nxt at hx; rw [hk] at hx; exact hx
        have ge : emp s.1 (gol A b) = false := by
          have := kth0_n hk b (by omega) (by omega)
          simp only [gop, b2, Bool.true_and] at this
          exact this
        have l5 := fun x y z (k : Int32 → Option (Int32 × Mm)) => pq5_l hM hP.1 (a := x) (b := y) (c := z) (k := k) 40 1000 0 (by omega) (by omega)
        rw [nI_0] at l5
        have m0' : (-1 : Int32) < 0 := by decide
        cases hl : lem s.1 with
        | none =>
          have hd : dst (gol A) s.1 b = none := by unfold dst; rw [if_neg (by rw [ge]; decide), hl]; rfl
          have hl : kth (fun p => emp s.1 (nI p)) 0 40 0 = none := hl
          rw [hl] at l5
          have l5 : ∀ x y z (k : Int32 → Option (Int32 × Mm)), L_X8_plans_241 33 x y z v k 1000 0 = k 40 := l5
          refine Or.inr ⟨v, pl_n hx hd, hP.1.1, ?_⟩
          rw [L_X8_plans_157]
          simp (disch := first | exact h60 | omega | with_unfolding_all exact h60) only [eq_false n0, h7, ↓l4, ↓bb_e, ↓c_sI, ↓o_sI, ↓a_sI, ↓c_sL, ↓o_sL, ↓a_sL, ↓c_rI, ↓o_rI, ↓a_rI, ↓c_rL, ↓o_rL, ↓a_rL, ↓c_rngI, ↓o_rngI, ↓a_rngI, ↓c_rngL, ↓o_rngL, ↓a_rngL, ↓bd_s, ↓cs_s, ↓cs_n, ↓gd_t, ↓gB0, ↓gB1, ↓gOT, ↓gAS, ↓gOY, ↓gAY, ↓reduceIte, d10, nI_clamp, nI_1', i0eq, ↓gO33 h60, ↓gA34 h60, ↓gA35 h60, ↓gA36 h60, ↓gA37 h60, ↓gA38 h60, ↓gA39 h60, ↓gA40 h60, ↓gA41 h60, ↓gA42 h60, ↓gA43 h60, ↓gA44 h60, ↓gA45 h60, ↓gA46 h60, ↓gA47 h60, ↓gA48 h60, ↓gA49 h60, ↓gA50 h60, ↓gA51 h60, ↓gA52 h60, ↓gA53 h60, ↓gA54 h60, ↓gA55 h60, ↓gA56 h60, ↓gA57 h60, ↓gA58 h60, ↓gA59 h60, ↓cM_4 hRM, ↓cM_5 hRM, ↓cM_6 hRM, ↓cM_8 hRM, ↓cM_9 hRM, ↓cM_10 hRM, ↓cM_11 hRM, ↓cM_12 hRM, ↓cM_13 hRM, ↓cM_14 hRM, ↓cM_15 hRM, ↓cM_16 hRM, ↓cM_17 hRM, ↓cM_18 hRM, ↓cM_19 hRM, ↓cM_20 hRM, ↓cM_21 hRM, ↓cM_23 hRM, ↓cM_24 hRM, ↓cM_25 hRM, ↓cM_26 hRM, ↓cM_27 hRM, ↓cM_28 hRM, ↓cM_29 hRM, ↓cM_30 hRM, ↓cM_32 hRM, ↓bno8, ↓brf8]
          rw [hk, hka, show pI none = -1 from rfl, show pI (some b) = nI b from rfl]
          simp (disch := first | exact h60 | omega | with_unfolding_all exact h60) only [eq_true m0', ↓l5, ↓bb_e, ↓c_sI, ↓o_sI, ↓a_sI, ↓c_sL, ↓o_sL, ↓a_sL, ↓c_rI, ↓o_rI, ↓a_rI, ↓c_rL, ↓o_rL, ↓a_rL, ↓c_rngI, ↓o_rngI, ↓a_rngI, ↓c_rngL, ↓o_rngL, ↓a_rngL, ↓bd_s, ↓cs_s, ↓cs_n, ↓gd_t, ↓gB0, ↓gB1, ↓gOT, ↓gAS, ↓gOY, ↓gAY, ↓reduceIte, d10, nI_clamp, nI_1', i0eq, ↓gO33 h60, ↓gA34 h60, ↓gA35 h60, ↓gA36 h60, ↓gA37 h60, ↓gA38 h60, ↓gA39 h60, ↓gA40 h60, ↓gA41 h60, ↓gA42 h60, ↓gA43 h60, ↓gA44 h60, ↓gA45 h60, ↓gA46 h60, ↓gA47 h60, ↓gA48 h60, ↓gA49 h60, ↓gA50 h60, ↓gA51 h60, ↓gA52 h60, ↓gA53 h60, ↓gA54 h60, ↓gA55 h60, ↓gA56 h60, ↓gA57 h60, ↓gA58 h60, ↓gA59 h60, ↓cM_4 hRM, ↓cM_5 hRM, ↓cM_6 hRM, ↓cM_8 hRM, ↓cM_9 hRM, ↓cM_10 hRM, ↓cM_11 hRM, ↓cM_12 hRM, ↓cM_13 hRM, ↓cM_14 hRM, ↓cM_15 hRM, ↓cM_16 hRM, ↓cM_17 hRM, ↓cM_18 hRM, ↓cM_19 hRM, ↓cM_20 hRM, ↓cM_21 hRM, ↓cM_23 hRM, ↓cM_24 hRM, ↓cM_25 hRM, ↓cM_26 hRM, ↓cM_27 hRM, ↓cM_28 hRM, ↓cM_29 hRM, ↓cM_30 hRM, ↓cM_32 hRM, ↓bno8, ↓brf8]
        | some z =>
          have hd : dst (gol A) s.1 b = some (nI z) := by unfold dst; rw [if_neg (by rw [ge]; decide), hl]; rfl
          have hz := kth_lt hl
          have hl : kth (fun p => emp s.1 (nI p)) 0 40 0 = some z := hl
          rw [hl] at l5
          have l5 : ∀ x y z' (k : Int32 → Option (Int32 × Mm)), L_X8_plans_241 33 x y z' v k 1000 0 = k (nI z) := l5
          have z40 : ¬ nI z = 40 := fun q => by
            have := nI_ij (a := z) (b := 40) (by omega) (by omega) q
            omega
          obtain ⟨v2, w1, w2, w3, w4, w5⟩ := go z (by omega) hd
          rw [if_neg (by rw [ge]; decide), Nat.add_zero] at w5
          rw [pl_s hx hd]
          have key : ∀ k : Int32 → Int32 → Mm → Option (Int32 × Mm), L_X8_plans_157 33 k (n + 1) (nI (cf (ast (gol A) s.1) 0 80)) x v = L_X8_plans_157 33 k n (nI (cf (ast (gol A) (mvS s b (nI z)).1) 0 80)) (-1) v2 := fun k => by
            rw [L_X8_plans_157]
            simp (disch := first | exact h60 | omega | with_unfolding_all exact h60) only [eq_false n0, h7, ↓l4, ↓bb_e, ↓c_sI, ↓o_sI, ↓a_sI, ↓c_sL, ↓o_sL, ↓a_sL, ↓c_rI, ↓o_rI, ↓a_rI, ↓c_rL, ↓o_rL, ↓a_rL, ↓c_rngI, ↓o_rngI, ↓a_rngI, ↓c_rngL, ↓o_rngL, ↓a_rngL, ↓bd_s, ↓cs_s, ↓cs_n, ↓gd_t, ↓gB0, ↓gB1, ↓gOT, ↓gAS, ↓gOY, ↓gAY, ↓reduceIte, d10, nI_clamp, nI_1', i0eq, ↓gO33 h60, ↓gA34 h60, ↓gA35 h60, ↓gA36 h60, ↓gA37 h60, ↓gA38 h60, ↓gA39 h60, ↓gA40 h60, ↓gA41 h60, ↓gA42 h60, ↓gA43 h60, ↓gA44 h60, ↓gA45 h60, ↓gA46 h60, ↓gA47 h60, ↓gA48 h60, ↓gA49 h60, ↓gA50 h60, ↓gA51 h60, ↓gA52 h60, ↓gA53 h60, ↓gA54 h60, ↓gA55 h60, ↓gA56 h60, ↓gA57 h60, ↓gA58 h60, ↓gA59 h60, ↓cM_4 hRM, ↓cM_5 hRM, ↓cM_6 hRM, ↓cM_8 hRM, ↓cM_9 hRM, ↓cM_10 hRM, ↓cM_11 hRM, ↓cM_12 hRM, ↓cM_13 hRM, ↓cM_14 hRM, ↓cM_15 hRM, ↓cM_16 hRM, ↓cM_17 hRM, ↓cM_18 hRM, ↓cM_19 hRM, ↓cM_20 hRM, ↓cM_21 hRM, ↓cM_23 hRM, ↓cM_24 hRM, ↓cM_25 hRM, ↓cM_26 hRM, ↓cM_27 hRM, ↓cM_28 hRM, ↓cM_29 hRM, ↓cM_30 hRM, ↓cM_32 hRM, ↓bno8, ↓brf8]
            rw [hk, hka, show pI none = -1 from rfl, show pI (some b) = nI b from rfl]
            simp (disch := first | exact h60 | omega | with_unfolding_all exact h60) only [eq_true m0', ↓l5, eq_false z40, ↓bd_of w2, w5, ↓bb_e, ↓c_sI, ↓o_sI, ↓a_sI, ↓c_sL, ↓o_sL, ↓a_sL, ↓c_rI, ↓o_rI, ↓a_rI, ↓c_rL, ↓o_rL, ↓a_rL, ↓c_rngI, ↓o_rngI, ↓a_rngI, ↓c_rngL, ↓o_rngL, ↓a_rngL, ↓bd_s, ↓cs_s, ↓cs_n, ↓gd_t, ↓gB0, ↓gB1, ↓gOT, ↓gAS, ↓gOY, ↓gAY, ↓reduceIte, d10, nI_clamp, nI_1', i0eq, ↓gO33 h60, ↓gA34 h60, ↓gA35 h60, ↓gA36 h60, ↓gA37 h60, ↓gA38 h60, ↓gA39 h60, ↓gA40 h60, ↓gA41 h60, ↓gA42 h60, ↓gA43 h60, ↓gA44 h60, ↓gA45 h60, ↓gA46 h60, ↓gA47 h60, ↓gA48 h60, ↓gA49 h60, ↓gA50 h60, ↓gA51 h60, ↓gA52 h60, ↓gA53 h60, ↓gA54 h60, ↓gA55 h60, ↓gA56 h60, ↓gA57 h60, ↓gA58 h60, ↓gA59 h60, ↓cM_4 hRM, ↓cM_5 hRM, ↓cM_6 hRM, ↓cM_8 hRM, ↓cM_9 hRM, ↓cM_10 hRM, ↓cM_11 hRM, ↓cM_12 hRM, ↓cM_13 hRM, ↓cM_14 hRM, ↓cM_15 hRM, ↓cM_16 hRM, ↓cM_17 hRM, ↓cM_18 hRM, ↓cM_19 hRM, ↓cM_20 hRM, ↓cM_21 hRM, ↓cM_23 hRM, ↓cM_24 hRM, ↓cM_25 hRM, ↓cM_26 hRM, ↓cM_27 hRM, ↓cM_28 hRM, ↓cM_29 hRM, ↓cM_30 hRM, ↓cM_32 hRM, ↓bno8, ↓brf8]
          rw [key]
          exact ih n v2 _ _ (by omega) (by show s.2.1 + 1 + d ≤ 80; omega) w1 w3 w4
