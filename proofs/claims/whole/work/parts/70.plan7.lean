/-! PLAN: the class -/
theorem lay_e {u : Mm} {rp rb : Nat} {f : Nat → Int32} (h : Lay u rp rb f) {p : Nat} (hp : p < 40) : (emp f (nI p) = true ∧ gI u rb p = -1) ∨ (emp f (nI p) = false ∧ ∃ b, b < 80 ∧ gI u rb p = nI b ∧ f b = nI p) := by
  rcases h.2 p hp with ⟨h1, h2⟩ | ⟨b, h1, h2, h3⟩
  · exact Or.inl ⟨emp_i h2, h1⟩
  · refine Or.inr ⟨?_, b, h1, h2, h3⟩
    cases c : emp f (nI p) with
    | false => rfl
    | true => exact absurd h3 (emp_t c b h1)
theorem nI_m1 {b : Nat} (h : b < 2 ^ 31) : ¬ nI b = -1 := fun q => by
  rw [i_eq, nI_toInt h, li_m1] at q
  omega
theorem n80 {j : Nat} (h : j < 80) : ¬ (80 : Int32) ≤ nI j := by rw [show (80 : Int32) = nI 80 from rfl]; exact nI_ge h (by omega)
theorem n40 {j : Nat} (h : j < 40) : ¬ (40 : Int32) ≤ nI j := by rw [show (40 : Int32) = nI 40 from rfl]; exact nI_ge h (by omega)
/-- a layout and the goals in the class's cells -/
def PL (v : Mm) (rp rb : Nat) (G f : Nat → Int32) : Prop := RC v ∧ 60 ≤ v.1 ∧ Lay v rp rb f ∧ ∀ i, i < 80 → gI v 17 i = G i
theorem astr_t {v : Mm} {G f : Nat → Int32} (h : PL v 15 16 G f) {i : Nat} (hi : i < 80) : f_X4_isAstray 10 (nI i) v = some (b2i (ast G f i)) := by
  obtain ⟨hRC, h60, hL, hG⟩ := h
  have e1 := hL.1 i hi
  have e2 := hG i hi
  by_cases c1 : G i = -1
  · simp (disch := first | exact h60 | omega | with_unfolding_all exact h60) only [f_X4_isAstray, e2, eq_true c1, ↓bb_e, ↓c_sI, ↓o_sI, ↓a_sI, ↓c_sL, ↓o_sL, ↓a_sL, ↓c_rI, ↓o_rI, ↓a_rI, ↓c_rL, ↓o_rL, ↓a_rL, ↓c_rngI, ↓o_rngI, ↓a_rngI, ↓c_rngL, ↓o_rngL, ↓a_rngL, ↓bd_s, ↓cs_s, ↓cs_n, ↓gd_t, ↓gB0, ↓gB1, ↓gOT, ↓gAS, ↓gOY, ↓gAY, ↓reduceIte, d10, nI_clamp, nI_1', i0eq, ↓gO0 h60, ↓gO2 h60, ↓gO6 h60, ↓gO10 h60, ↓gO11 h60, ↓gO14 h60, ↓gO21 h60, ↓gA1 h60, ↓gA3 h60, ↓gA4 h60, ↓gA5 h60, ↓gA7 h60, ↓gA8 h60, ↓gA9 h60, ↓gA12 h60, ↓gA13 h60, ↓gA15 h60, ↓gA16 h60, ↓gA17 h60, ↓gA18 h60, ↓gA19 h60, ↓gA20 h60, ↓gA22 h60, ↓gA23 h60, ↓gA24 h60, ↓cC_0_0 hRC, ↓cC_0_1 hRC, ↓cC_0_2 hRC, ↓cC_0_3 hRC, ↓cC_0_4 hRC, ↓cC_2_0 hRC, ↓cC_2_2 hRC, ↓cC_2_3 hRC, ↓cC_6_0 hRC, ↓cC_6_1 hRC, ↓cC_6_2 hRC, ↓cC_10_0 hRC, ↓cC_10_1 hRC, ↓cC_10_2 hRC, ↓cC_10_3 hRC, ↓cC_10_4 hRC, ↓cC_10_5 hRC, ↓cC_11_0 hRC, ↓cC_11_1 hRC, ↓cC_14_0 hRC, ↓cC_14_1 hRC, ↓cC_21_0 hRC, ↓cC_21_1 hRC, ↓cC_21_2 hRC, ↓bdn7, ↓brf7, ↓bgr7, ↓ban7]
    simp [ast, c1, b2i]
  · by_cases c2 : f i = -1
    · simp (disch := first | exact h60 | omega | with_unfolding_all exact h60) only [f_X4_isAstray, e1, e2, eq_false c1, eq_true c2, ↓bb_e, ↓c_sI, ↓o_sI, ↓a_sI, ↓c_sL, ↓o_sL, ↓a_sL, ↓c_rI, ↓o_rI, ↓a_rI, ↓c_rL, ↓o_rL, ↓a_rL, ↓c_rngI, ↓o_rngI, ↓a_rngI, ↓c_rngL, ↓o_rngL, ↓a_rngL, ↓bd_s, ↓cs_s, ↓cs_n, ↓gd_t, ↓gB0, ↓gB1, ↓gOT, ↓gAS, ↓gOY, ↓gAY, ↓reduceIte, d10, nI_clamp, nI_1', i0eq, ↓gO0 h60, ↓gO2 h60, ↓gO6 h60, ↓gO10 h60, ↓gO11 h60, ↓gO14 h60, ↓gO21 h60, ↓gA1 h60, ↓gA3 h60, ↓gA4 h60, ↓gA5 h60, ↓gA7 h60, ↓gA8 h60, ↓gA9 h60, ↓gA12 h60, ↓gA13 h60, ↓gA15 h60, ↓gA16 h60, ↓gA17 h60, ↓gA18 h60, ↓gA19 h60, ↓gA20 h60, ↓gA22 h60, ↓gA23 h60, ↓gA24 h60, ↓cC_0_0 hRC, ↓cC_0_1 hRC, ↓cC_0_2 hRC, ↓cC_0_3 hRC, ↓cC_0_4 hRC, ↓cC_2_0 hRC, ↓cC_2_2 hRC, ↓cC_2_3 hRC, ↓cC_6_0 hRC, ↓cC_6_1 hRC, ↓cC_6_2 hRC, ↓cC_10_0 hRC, ↓cC_10_1 hRC, ↓cC_10_2 hRC, ↓cC_10_3 hRC, ↓cC_10_4 hRC, ↓cC_10_5 hRC, ↓cC_11_0 hRC, ↓cC_11_1 hRC, ↓cC_14_0 hRC, ↓cC_14_1 hRC, ↓cC_21_0 hRC, ↓cC_21_1 hRC, ↓cC_21_2 hRC, ↓bdn7, ↓brf7, ↓bgr7, ↓ban7]
      simp [ast, c2, b2i]
    · by_cases c3 : f i = G i
      · simp (disch := first | exact h60 | omega | with_unfolding_all exact h60) only [f_X4_isAstray, e1, e2, eq_false c1, eq_false c2, eq_true c3, ↓bb_e, ↓c_sI, ↓o_sI, ↓a_sI, ↓c_sL, ↓o_sL, ↓a_sL, ↓c_rI, ↓o_rI, ↓a_rI, ↓c_rL, ↓o_rL, ↓a_rL, ↓c_rngI, ↓o_rngI, ↓a_rngI, ↓c_rngL, ↓o_rngL, ↓a_rngL, ↓bd_s, ↓cs_s, ↓cs_n, ↓gd_t, ↓gB0, ↓gB1, ↓gOT, ↓gAS, ↓gOY, ↓gAY, ↓reduceIte, d10, nI_clamp, nI_1', i0eq, ↓gO0 h60, ↓gO2 h60, ↓gO6 h60, ↓gO10 h60, ↓gO11 h60, ↓gO14 h60, ↓gO21 h60, ↓gA1 h60, ↓gA3 h60, ↓gA4 h60, ↓gA5 h60, ↓gA7 h60, ↓gA8 h60, ↓gA9 h60, ↓gA12 h60, ↓gA13 h60, ↓gA15 h60, ↓gA16 h60, ↓gA17 h60, ↓gA18 h60, ↓gA19 h60, ↓gA20 h60, ↓gA22 h60, ↓gA23 h60, ↓gA24 h60, ↓cC_0_0 hRC, ↓cC_0_1 hRC, ↓cC_0_2 hRC, ↓cC_0_3 hRC, ↓cC_0_4 hRC, ↓cC_2_0 hRC, ↓cC_2_2 hRC, ↓cC_2_3 hRC, ↓cC_6_0 hRC, ↓cC_6_1 hRC, ↓cC_6_2 hRC, ↓cC_10_0 hRC, ↓cC_10_1 hRC, ↓cC_10_2 hRC, ↓cC_10_3 hRC, ↓cC_10_4 hRC, ↓cC_10_5 hRC, ↓cC_11_0 hRC, ↓cC_11_1 hRC, ↓cC_14_0 hRC, ↓cC_14_1 hRC, ↓cC_21_0 hRC, ↓cC_21_1 hRC, ↓cC_21_2 hRC, ↓bdn7, ↓brf7, ↓bgr7, ↓ban7]
        simp [ast, c3, b2i]
      · simp (disch := first | exact h60 | omega | with_unfolding_all exact h60) only [f_X4_isAstray, e1, e2, eq_false c1, eq_false c2, eq_false c3, ↓bb_e, ↓c_sI, ↓o_sI, ↓a_sI, ↓c_sL, ↓o_sL, ↓a_sL, ↓c_rI, ↓o_rI, ↓a_rI, ↓c_rL, ↓o_rL, ↓a_rL, ↓c_rngI, ↓o_rngI, ↓a_rngI, ↓c_rngL, ↓o_rngL, ↓a_rngL, ↓bd_s, ↓cs_s, ↓cs_n, ↓gd_t, ↓gB0, ↓gB1, ↓gOT, ↓gAS, ↓gOY, ↓gAY, ↓reduceIte, d10, nI_clamp, nI_1', i0eq, ↓gO0 h60, ↓gO2 h60, ↓gO6 h60, ↓gO10 h60, ↓gO11 h60, ↓gO14 h60, ↓gO21 h60, ↓gA1 h60, ↓gA3 h60, ↓gA4 h60, ↓gA5 h60, ↓gA7 h60, ↓gA8 h60, ↓gA9 h60, ↓gA12 h60, ↓gA13 h60, ↓gA15 h60, ↓gA16 h60, ↓gA17 h60, ↓gA18 h60, ↓gA19 h60, ↓gA20 h60, ↓gA22 h60, ↓gA23 h60, ↓gA24 h60, ↓cC_0_0 hRC, ↓cC_0_1 hRC, ↓cC_0_2 hRC, ↓cC_0_3 hRC, ↓cC_0_4 hRC, ↓cC_2_0 hRC, ↓cC_2_2 hRC, ↓cC_2_3 hRC, ↓cC_6_0 hRC, ↓cC_6_1 hRC, ↓cC_6_2 hRC, ↓cC_10_0 hRC, ↓cC_10_1 hRC, ↓cC_10_2 hRC, ↓cC_10_3 hRC, ↓cC_10_4 hRC, ↓cC_10_5 hRC, ↓cC_11_0 hRC, ↓cC_11_1 hRC, ↓cC_14_0 hRC, ↓cC_14_1 hRC, ↓cC_21_0 hRC, ↓cC_21_1 hRC, ↓cC_21_2 hRC, ↓bdn7, ↓brf7, ↓bgr7, ↓ban7]
        simp [ast, c1, c2, c3, b2i]
theorem gem_t {v : Mm} {G f : Nat → Int32} (h : PL v 15 16 G f) {i q : Nat} (hi : i < 80) (hq : q < 40) (hg : G i = nI q) : f_X4_isGoalEmpty 10 (nI i) v = some (b2i (emp f (G i))) := by
  obtain ⟨hRC, h60, hL, hG⟩ := h
  have e2 : gI v 17 i = nI q := by rw [← hg]; exact hG i hi
  rw [hg]
  rcases lay_e hL hq with ⟨c, e3⟩ | ⟨c, b, hb, e3, -⟩
  · rw [c]
    simp (disch := first | exact h60 | omega | with_unfolding_all exact h60) only [f_X4_isGoalEmpty, e2, e3, ↓bb_e, ↓c_sI, ↓o_sI, ↓a_sI, ↓c_sL, ↓o_sL, ↓a_sL, ↓c_rI, ↓o_rI, ↓a_rI, ↓c_rL, ↓o_rL, ↓a_rL, ↓c_rngI, ↓o_rngI, ↓a_rngI, ↓c_rngL, ↓o_rngL, ↓a_rngL, ↓bd_s, ↓cs_s, ↓cs_n, ↓gd_t, ↓gB0, ↓gB1, ↓gOT, ↓gAS, ↓gOY, ↓gAY, ↓reduceIte, d10, nI_clamp, nI_1', i0eq, ↓gO0 h60, ↓gO2 h60, ↓gO6 h60, ↓gO10 h60, ↓gO11 h60, ↓gO14 h60, ↓gO21 h60, ↓gA1 h60, ↓gA3 h60, ↓gA4 h60, ↓gA5 h60, ↓gA7 h60, ↓gA8 h60, ↓gA9 h60, ↓gA12 h60, ↓gA13 h60, ↓gA15 h60, ↓gA16 h60, ↓gA17 h60, ↓gA18 h60, ↓gA19 h60, ↓gA20 h60, ↓gA22 h60, ↓gA23 h60, ↓gA24 h60, ↓cC_0_0 hRC, ↓cC_0_1 hRC, ↓cC_0_2 hRC, ↓cC_0_3 hRC, ↓cC_0_4 hRC, ↓cC_2_0 hRC, ↓cC_2_2 hRC, ↓cC_2_3 hRC, ↓cC_6_0 hRC, ↓cC_6_1 hRC, ↓cC_6_2 hRC, ↓cC_10_0 hRC, ↓cC_10_1 hRC, ↓cC_10_2 hRC, ↓cC_10_3 hRC, ↓cC_10_4 hRC, ↓cC_10_5 hRC, ↓cC_11_0 hRC, ↓cC_11_1 hRC, ↓cC_14_0 hRC, ↓cC_14_1 hRC, ↓cC_21_0 hRC, ↓cC_21_1 hRC, ↓cC_21_2 hRC, ↓bdn7, ↓brf7, ↓bgr7, ↓ban7]
    rfl
  · rw [c]
    have m := nI_m1 (b := b) (by omega)
    simp (disch := first | exact h60 | omega | with_unfolding_all exact h60) only [f_X4_isGoalEmpty, e2, e3, eq_false m, ↓bb_e, ↓c_sI, ↓o_sI, ↓a_sI, ↓c_sL, ↓o_sL, ↓a_sL, ↓c_rI, ↓o_rI, ↓a_rI, ↓c_rL, ↓o_rL, ↓a_rL, ↓c_rngI, ↓o_rngI, ↓a_rngI, ↓c_rngL, ↓o_rngL, ↓a_rngL, ↓bd_s, ↓cs_s, ↓cs_n, ↓gd_t, ↓gB0, ↓gB1, ↓gOT, ↓gAS, ↓gOY, ↓gAY, ↓reduceIte, d10, nI_clamp, nI_1', i0eq, ↓gO0 h60, ↓gO2 h60, ↓gO6 h60, ↓gO10 h60, ↓gO11 h60, ↓gO14 h60, ↓gO21 h60, ↓gA1 h60, ↓gA3 h60, ↓gA4 h60, ↓gA5 h60, ↓gA7 h60, ↓gA8 h60, ↓gA9 h60, ↓gA12 h60, ↓gA13 h60, ↓gA15 h60, ↓gA16 h60, ↓gA17 h60, ↓gA18 h60, ↓gA19 h60, ↓gA20 h60, ↓gA22 h60, ↓gA23 h60, ↓gA24 h60, ↓cC_0_0 hRC, ↓cC_0_1 hRC, ↓cC_0_2 hRC, ↓cC_0_3 hRC, ↓cC_0_4 hRC, ↓cC_2_0 hRC, ↓cC_2_2 hRC, ↓cC_2_3 hRC, ↓cC_6_0 hRC, ↓cC_6_1 hRC, ↓cC_6_2 hRC, ↓cC_10_0 hRC, ↓cC_10_1 hRC, ↓cC_10_2 hRC, ↓cC_10_3 hRC, ↓cC_10_4 hRC, ↓cC_10_5 hRC, ↓cC_11_0 hRC, ↓cC_11_1 hRC, ↓cC_14_0 hRC, ↓cC_14_1 hRC, ↓cC_21_0 hRC, ↓cC_21_1 hRC, ↓cC_21_2 hRC, ↓bdn7, ↓brf7, ↓bgr7, ↓ban7]
    rfl
def orr (x y : Option Nat) : Option Nat := match x with
  | some z => some z
  | none => y
theorem goal_q {G : Nat → Int32} {n i : Nat} (hG : okG G n) (h : G i ≠ -1) : ∃ q, q < 40 ∧ G i = nI q := by
  obtain ⟨q, h1, h2⟩ := i_ex2 (n := 40) (ge0 h (hG.2.1 i))
  exact ⟨q, h1, h2⟩
theorem nb_l {v : Mm} {G f : Nat → Int32} {N : Nat} (hG : okG G N) (h : PL v 15 16 G f) {k : Int32 → Int32 → Option Int32} : ∀ (d n j : Nat) (x : Option Nat), j + d = 80 → d < n → (∀ y, x = some y → y < 80) → L_X4_nextBox_4 10 v k n (pI x) (nI j) = match kth (gop G f) j d 0 with
    | some b => some (nI b)
    | none => k (pI (orr x (kth (ast G f) j d 0))) 80 := by
  obtain ⟨hRC, h60, -⟩ := id h
  intro d
  induction d with
  | zero =>
    intro n j x h1 h2 hx
    obtain ⟨n, rfl⟩ : ∃ b, n = b + 1 := ⟨n - 1, by omega⟩
    have e : j = 80 := by omega
    subst e
    rw [L_X4_nextBox_4, if_pos (by decide)]
    cases x <;> rfl
  | succ d ih =>
    intro n j x h1 h2 hx
    obtain ⟨n, rfl⟩ : ∃ b, n = b + 1 := ⟨n - 1, by omega⟩
    have hj : j < 80 := by omega
    have hnl := n80 hj
    have ha := astr_t h hj
    cases c1 : ast G f j with
    | false =>
      rw [c1, b2i_f] at ha
      have g1 : gop G f j = false := by simp [gop, c1]
      rw [kth_f g1, kth_f c1]
      simp (disch := first | exact h60 | omega | with_unfolding_all exact h60) only [L_X4_nextBox_4, eq_false hnl, ↓bd_of ha, ↓bb_e, ↓c_sI, ↓o_sI, ↓a_sI, ↓c_sL, ↓o_sL, ↓a_sL, ↓c_rI, ↓o_rI, ↓a_rI, ↓c_rL, ↓o_rL, ↓a_rL, ↓c_rngI, ↓o_rngI, ↓a_rngI, ↓c_rngL, ↓o_rngL, ↓a_rngL, ↓bd_s, ↓cs_s, ↓cs_n, ↓gd_t, ↓gB0, ↓gB1, ↓gOT, ↓gAS, ↓gOY, ↓gAY, ↓reduceIte, d10, nI_clamp, nI_1', i0eq, ↓gO0 h60, ↓gO2 h60, ↓gO6 h60, ↓gO10 h60, ↓gO11 h60, ↓gO14 h60, ↓gO21 h60, ↓gA1 h60, ↓gA3 h60, ↓gA4 h60, ↓gA5 h60, ↓gA7 h60, ↓gA8 h60, ↓gA9 h60, ↓gA12 h60, ↓gA13 h60, ↓gA15 h60, ↓gA16 h60, ↓gA17 h60, ↓gA18 h60, ↓gA19 h60, ↓gA20 h60, ↓gA22 h60, ↓gA23 h60, ↓gA24 h60, ↓cC_0_0 hRC, ↓cC_0_1 hRC, ↓cC_0_2 hRC, ↓cC_0_3 hRC, ↓cC_0_4 hRC, ↓cC_2_0 hRC, ↓cC_2_2 hRC, ↓cC_2_3 hRC, ↓cC_6_0 hRC, ↓cC_6_1 hRC, ↓cC_6_2 hRC, ↓cC_10_0 hRC, ↓cC_10_1 hRC, ↓cC_10_2 hRC, ↓cC_10_3 hRC, ↓cC_10_4 hRC, ↓cC_10_5 hRC, ↓cC_11_0 hRC, ↓cC_11_1 hRC, ↓cC_14_0 hRC, ↓cC_14_1 hRC, ↓cC_21_0 hRC, ↓cC_21_1 hRC, ↓cC_21_2 hRC, ↓bdn7, ↓brf7, ↓bgr7, ↓ban7]
      exact ih n (j + 1) x (by omega) (by omega) hx
    | true =>
      rw [c1, b2i_t] at ha
      obtain ⟨q, q1, q2⟩ := goal_q hG (ast_t.mp c1).2.1
      have hg := gem_t h hj q1 q2
      cases c2 : emp f (G j) with
      | true =>
        rw [c2, b2i_t] at hg
        have g1 : gop G f j = true := by simp [gop, c1, c2]
        rw [kth_0 g1]
        simp (disch := first | exact h60 | omega | with_unfolding_all exact h60) only [L_X4_nextBox_4, eq_false hnl, ↓bd_of ha, ↓bd_of hg, ↓bb_e, ↓c_sI, ↓o_sI, ↓a_sI, ↓c_sL, ↓o_sL, ↓a_sL, ↓c_rI, ↓o_rI, ↓a_rI, ↓c_rL, ↓o_rL, ↓a_rL, ↓c_rngI, ↓o_rngI, ↓a_rngI, ↓c_rngL, ↓o_rngL, ↓a_rngL, ↓bd_s, ↓cs_s, ↓cs_n, ↓gd_t, ↓gB0, ↓gB1, ↓gOT, ↓gAS, ↓gOY, ↓gAY, ↓reduceIte, d10, nI_clamp, nI_1', i0eq, ↓gO0 h60, ↓gO2 h60, ↓gO6 h60, ↓gO10 h60, ↓gO11 h60, ↓gO14 h60, ↓gO21 h60, ↓gA1 h60, ↓gA3 h60, ↓gA4 h60, ↓gA5 h60, ↓gA7 h60, ↓gA8 h60, ↓gA9 h60, ↓gA12 h60, ↓gA13 h60, ↓gA15 h60, ↓gA16 h60, ↓gA17 h60, ↓gA18 h60, ↓gA19 h60, ↓gA20 h60, ↓gA22 h60, ↓gA23 h60, ↓gA24 h60, ↓cC_0_0 hRC, ↓cC_0_1 hRC, ↓cC_0_2 hRC, ↓cC_0_3 hRC, ↓cC_0_4 hRC, ↓cC_2_0 hRC, ↓cC_2_2 hRC, ↓cC_2_3 hRC, ↓cC_6_0 hRC, ↓cC_6_1 hRC, ↓cC_6_2 hRC, ↓cC_10_0 hRC, ↓cC_10_1 hRC, ↓cC_10_2 hRC, ↓cC_10_3 hRC, ↓cC_10_4 hRC, ↓cC_10_5 hRC, ↓cC_11_0 hRC, ↓cC_11_1 hRC, ↓cC_14_0 hRC, ↓cC_14_1 hRC, ↓cC_21_0 hRC, ↓cC_21_1 hRC, ↓cC_21_2 hRC, ↓bdn7, ↓brf7, ↓bgr7, ↓ban7]
      | false =>
        rw [c2, b2i_f] at hg
        have g1 : gop G f j = false := by simp [gop, c1, c2]
        rw [kth_f g1, kth_0 c1]
        cases x with
        | none =>
          have := ih n (j + 1) (some j) (by omega) (by omega) (fun y e => by cases e; exact hj)
          simp (disch := first | exact h60 | omega | with_unfolding_all exact h60) only [show pI none = -1 from rfl, L_X4_nextBox_4, eq_false hnl, ↓bd_of ha, ↓bd_of hg, ↓bb_e, ↓c_sI, ↓o_sI, ↓a_sI, ↓c_sL, ↓o_sL, ↓a_sL, ↓c_rI, ↓o_rI, ↓a_rI, ↓c_rL, ↓o_rL, ↓a_rL, ↓c_rngI, ↓o_rngI, ↓a_rngI, ↓c_rngL, ↓o_rngL, ↓a_rngL, ↓bd_s, ↓cs_s, ↓cs_n, ↓gd_t, ↓gB0, ↓gB1, ↓gOT, ↓gAS, ↓gOY, ↓gAY, ↓reduceIte, d10, nI_clamp, nI_1', i0eq, ↓gO0 h60, ↓gO2 h60, ↓gO6 h60, ↓gO10 h60, ↓gO11 h60, ↓gO14 h60, ↓gO21 h60, ↓gA1 h60, ↓gA3 h60, ↓gA4 h60, ↓gA5 h60, ↓gA7 h60, ↓gA8 h60, ↓gA9 h60, ↓gA12 h60, ↓gA13 h60, ↓gA15 h60, ↓gA16 h60, ↓gA17 h60, ↓gA18 h60, ↓gA19 h60, ↓gA20 h60, ↓gA22 h60, ↓gA23 h60, ↓gA24 h60, ↓cC_0_0 hRC, ↓cC_0_1 hRC, ↓cC_0_2 hRC, ↓cC_0_3 hRC, ↓cC_0_4 hRC, ↓cC_2_0 hRC, ↓cC_2_2 hRC, ↓cC_2_3 hRC, ↓cC_6_0 hRC, ↓cC_6_1 hRC, ↓cC_6_2 hRC, ↓cC_10_0 hRC, ↓cC_10_1 hRC, ↓cC_10_2 hRC, ↓cC_10_3 hRC, ↓cC_10_4 hRC, ↓cC_10_5 hRC, ↓cC_11_0 hRC, ↓cC_11_1 hRC, ↓cC_14_0 hRC, ↓cC_14_1 hRC, ↓cC_21_0 hRC, ↓cC_21_1 hRC, ↓cC_21_2 hRC, ↓bdn7, ↓brf7, ↓bgr7, ↓ban7]
          exact this
        | some y =>
          have hy := hx y rfl
          have m := nI_m1 (b := y) (by omega)
          have := ih n (j + 1) (some y) (by omega) (by omega) hx
          simp (disch := first | exact h60 | omega | with_unfolding_all exact h60) only [show pI (some y) = nI y from rfl, L_X4_nextBox_4, eq_false hnl, ↓bd_of ha, ↓bd_of hg, eq_false m, ↓bb_e, ↓c_sI, ↓o_sI, ↓a_sI, ↓c_sL, ↓o_sL, ↓a_sL, ↓c_rI, ↓o_rI, ↓a_rI, ↓c_rL, ↓o_rL, ↓a_rL, ↓c_rngI, ↓o_rngI, ↓a_rngI, ↓c_rngL, ↓o_rngL, ↓a_rngL, ↓bd_s, ↓cs_s, ↓cs_n, ↓gd_t, ↓gB0, ↓gB1, ↓gOT, ↓gAS, ↓gOY, ↓gAY, ↓reduceIte, d10, nI_clamp, nI_1', i0eq, ↓gO0 h60, ↓gO2 h60, ↓gO6 h60, ↓gO10 h60, ↓gO11 h60, ↓gO14 h60, ↓gO21 h60, ↓gA1 h60, ↓gA3 h60, ↓gA4 h60, ↓gA5 h60, ↓gA7 h60, ↓gA8 h60, ↓gA9 h60, ↓gA12 h60, ↓gA13 h60, ↓gA15 h60, ↓gA16 h60, ↓gA17 h60, ↓gA18 h60, ↓gA19 h60, ↓gA20 h60, ↓gA22 h60, ↓gA23 h60, ↓gA24 h60, ↓cC_0_0 hRC, ↓cC_0_1 hRC, ↓cC_0_2 hRC, ↓cC_0_3 hRC, ↓cC_0_4 hRC, ↓cC_2_0 hRC, ↓cC_2_2 hRC, ↓cC_2_3 hRC, ↓cC_6_0 hRC, ↓cC_6_1 hRC, ↓cC_6_2 hRC, ↓cC_10_0 hRC, ↓cC_10_1 hRC, ↓cC_10_2 hRC, ↓cC_10_3 hRC, ↓cC_10_4 hRC, ↓cC_10_5 hRC, ↓cC_11_0 hRC, ↓cC_11_1 hRC, ↓cC_14_0 hRC, ↓cC_14_1 hRC, ↓cC_21_0 hRC, ↓cC_21_1 hRC, ↓cC_21_2 hRC, ↓bdn7, ↓brf7, ↓bgr7, ↓ban7]
          exact this
theorem nb_t {v : Mm} {G f : Nat → Int32} {N : Nat} (hG : okG G N) (h : PL v 15 16 G f) : f_X4_nextBox 10 v = some (pI (nxt G f)) := by
  have := nb_l hG h (k := fun a11 a12 => some a11) 80 1000 0 none (by omega) (by omega) (fun y e => by cases e)
  rw [show pI none = -1 from rfl, nI_0] at this
  rw [f_X4_nextBox, this]
  unfold nxt
  cases kth (gop G f) 0 80 0 <;> rfl
theorem le_l {v : Mm} {G f : Nat → Int32} (h : PL v 15 16 G f) {k : Int32 → Option Int32} : ∀ (d n j : Nat), j + d = 40 → d < n → L_X1_leastEmpty_2 14 v k n (nI j) = match kth (fun p => emp f (nI p)) j d 0 with
    | some p => some (nI p)
    | none => k 40 := by
  obtain ⟨hRC, h60, hL, -⟩ := id h
  intro d
  induction d with
  | zero =>
    intro n j h1 h2
    obtain ⟨n, rfl⟩ : ∃ b, n = b + 1 := ⟨n - 1, by omega⟩
    have e : j = 40 := by omega
    subst e
    rw [L_X1_leastEmpty_2, if_pos (by decide)]
    rfl
  | succ d ih =>
    intro n j h1 h2
    obtain ⟨n, rfl⟩ : ∃ b, n = b + 1 := ⟨n - 1, by omega⟩
    have hj : j < 40 := by omega
    have hnl := n40 hj
    rcases lay_e hL hj with ⟨c, e3⟩ | ⟨c, b, hb, e3, -⟩
    · rw [kth_0 c]
      simp (disch := first | exact h60 | omega | with_unfolding_all exact h60) only [L_X1_leastEmpty_2, eq_false hnl, e3, ↓bb_e, ↓c_sI, ↓o_sI, ↓a_sI, ↓c_sL, ↓o_sL, ↓a_sL, ↓c_rI, ↓o_rI, ↓a_rI, ↓c_rL, ↓o_rL, ↓a_rL, ↓c_rngI, ↓o_rngI, ↓a_rngI, ↓c_rngL, ↓o_rngL, ↓a_rngL, ↓bd_s, ↓cs_s, ↓cs_n, ↓gd_t, ↓gB0, ↓gB1, ↓gOT, ↓gAS, ↓gOY, ↓gAY, ↓reduceIte, d10, nI_clamp, nI_1', i0eq, ↓gO0 h60, ↓gO2 h60, ↓gO6 h60, ↓gO10 h60, ↓gO11 h60, ↓gO14 h60, ↓gO21 h60, ↓gA1 h60, ↓gA3 h60, ↓gA4 h60, ↓gA5 h60, ↓gA7 h60, ↓gA8 h60, ↓gA9 h60, ↓gA12 h60, ↓gA13 h60, ↓gA15 h60, ↓gA16 h60, ↓gA17 h60, ↓gA18 h60, ↓gA19 h60, ↓gA20 h60, ↓gA22 h60, ↓gA23 h60, ↓gA24 h60, ↓cC_0_0 hRC, ↓cC_0_1 hRC, ↓cC_0_2 hRC, ↓cC_0_3 hRC, ↓cC_0_4 hRC, ↓cC_2_0 hRC, ↓cC_2_2 hRC, ↓cC_2_3 hRC, ↓cC_6_0 hRC, ↓cC_6_1 hRC, ↓cC_6_2 hRC, ↓cC_10_0 hRC, ↓cC_10_1 hRC, ↓cC_10_2 hRC, ↓cC_10_3 hRC, ↓cC_10_4 hRC, ↓cC_10_5 hRC, ↓cC_11_0 hRC, ↓cC_11_1 hRC, ↓cC_14_0 hRC, ↓cC_14_1 hRC, ↓cC_21_0 hRC, ↓cC_21_1 hRC, ↓cC_21_2 hRC, ↓bdn7, ↓brf7, ↓bgr7, ↓ban7]
    · rw [kth_f c]
      have m := nI_m1 (b := b) (by omega)
      simp (disch := first | exact h60 | omega | with_unfolding_all exact h60) only [L_X1_leastEmpty_2, eq_false hnl, e3, eq_false m, ↓bb_e, ↓c_sI, ↓o_sI, ↓a_sI, ↓c_sL, ↓o_sL, ↓a_sL, ↓c_rI, ↓o_rI, ↓a_rI, ↓c_rL, ↓o_rL, ↓a_rL, ↓c_rngI, ↓o_rngI, ↓a_rngI, ↓c_rngL, ↓o_rngL, ↓a_rngL, ↓bd_s, ↓cs_s, ↓cs_n, ↓gd_t, ↓gB0, ↓gB1, ↓gOT, ↓gAS, ↓gOY, ↓gAY, ↓reduceIte, d10, nI_clamp, nI_1', i0eq, ↓gO0 h60, ↓gO2 h60, ↓gO6 h60, ↓gO10 h60, ↓gO11 h60, ↓gO14 h60, ↓gO21 h60, ↓gA1 h60, ↓gA3 h60, ↓gA4 h60, ↓gA5 h60, ↓gA7 h60, ↓gA8 h60, ↓gA9 h60, ↓gA12 h60, ↓gA13 h60, ↓gA15 h60, ↓gA16 h60, ↓gA17 h60, ↓gA18 h60, ↓gA19 h60, ↓gA20 h60, ↓gA22 h60, ↓gA23 h60, ↓gA24 h60, ↓cC_0_0 hRC, ↓cC_0_1 hRC, ↓cC_0_2 hRC, ↓cC_0_3 hRC, ↓cC_0_4 hRC, ↓cC_2_0 hRC, ↓cC_2_2 hRC, ↓cC_2_3 hRC, ↓cC_6_0 hRC, ↓cC_6_1 hRC, ↓cC_6_2 hRC, ↓cC_10_0 hRC, ↓cC_10_1 hRC, ↓cC_10_2 hRC, ↓cC_10_3 hRC, ↓cC_10_4 hRC, ↓cC_10_5 hRC, ↓cC_11_0 hRC, ↓cC_11_1 hRC, ↓cC_14_0 hRC, ↓cC_14_1 hRC, ↓cC_21_0 hRC, ↓cC_21_1 hRC, ↓cC_21_2 hRC, ↓bdn7, ↓brf7, ↓bgr7, ↓ban7]
      exact ih n (j + 1) (by omega) (by omega)
theorem le_t {v : Mm} {G f : Nat → Int32} (h : PL v 15 16 G f) : f_X1_leastEmpty 14 v = some (pI (lem f)) := by
  have := le_l h (k := fun a8 => some (-1)) 40 1000 0 (by omega) (by omega)
  rw [nI_0] at this
  rw [f_X1_leastEmpty, this]
  unfold lem
  cases kth (fun p => emp f (nI p)) 0 40 0 <;> rfl
/-- a goal on which one without a goal stands -/
def blk (G f : Nat → Int32) (a : Nat) : Bool := ast G f a && ex (fun i => decide (f i = G a) && decide (G i = -1)) 0 80
theorem gb_l {v : Mm} {G f : Nat → Int32} {N : Nat} (hG : okG G N) (h : PL v 15 16 G f) (hL : Lay v 12 13 f) (hd : ∀ a b, a < 80 → b < 80 → a ≠ b → f a = f b → f a = -1) {k : Int32 → Option Int32} : ∀ (d n j : Nat), j + d = 80 → d < n → L_X4_isGoalBlocked_2 10 v k n (nI j) = if ex (blk G f) j d = true then some 1 else k 80 := by
  obtain ⟨hRC, h60, -, hGG⟩ := id h
  intro d
  induction d with
  | zero =>
    intro n j h1 h2
    obtain ⟨n, rfl⟩ : ∃ b, n = b + 1 := ⟨n - 1, by omega⟩
    have e : j = 80 := by omega
    subst e
    rw [L_X4_isGoalBlocked_2, if_pos (by decide), ex, if_neg (by decide)]
    rfl
  | succ d ih =>
    intro n j h1 h2
    obtain ⟨n, rfl⟩ : ∃ b, n = b + 1 := ⟨n - 1, by omega⟩
    have hj : j < 80 := by omega
    have hnl := n80 hj
    have ha := astr_t h hj
    have ih := ih n (j + 1) (by omega) (by omega)
    rw [ex]
    cases c1 : ast G f j with
    | false =>
      rw [c1, b2i_f] at ha
      have g1 : blk G f j = false := by simp [blk, c1]
      rw [g1, Bool.false_or, ← ih]
      simp (disch := first | exact h60 | omega | with_unfolding_all exact h60) only [L_X4_isGoalBlocked_2, eq_false hnl, ↓bd_of ha, ↓bb_e, ↓c_sI, ↓o_sI, ↓a_sI, ↓c_sL, ↓o_sL, ↓a_sL, ↓c_rI, ↓o_rI, ↓a_rI, ↓c_rL, ↓o_rL, ↓a_rL, ↓c_rngI, ↓o_rngI, ↓a_rngI, ↓c_rngL, ↓o_rngL, ↓a_rngL, ↓bd_s, ↓cs_s, ↓cs_n, ↓gd_t, ↓gB0, ↓gB1, ↓gOT, ↓gAS, ↓gOY, ↓gAY, ↓reduceIte, d10, nI_clamp, nI_1', i0eq, ↓gO0 h60, ↓gO2 h60, ↓gO6 h60, ↓gO10 h60, ↓gO11 h60, ↓gO14 h60, ↓gO21 h60, ↓gA1 h60, ↓gA3 h60, ↓gA4 h60, ↓gA5 h60, ↓gA7 h60, ↓gA8 h60, ↓gA9 h60, ↓gA12 h60, ↓gA13 h60, ↓gA15 h60, ↓gA16 h60, ↓gA17 h60, ↓gA18 h60, ↓gA19 h60, ↓gA20 h60, ↓gA22 h60, ↓gA23 h60, ↓gA24 h60, ↓cC_0_0 hRC, ↓cC_0_1 hRC, ↓cC_0_2 hRC, ↓cC_0_3 hRC, ↓cC_0_4 hRC, ↓cC_2_0 hRC, ↓cC_2_2 hRC, ↓cC_2_3 hRC, ↓cC_6_0 hRC, ↓cC_6_1 hRC, ↓cC_6_2 hRC, ↓cC_10_0 hRC, ↓cC_10_1 hRC, ↓cC_10_2 hRC, ↓cC_10_3 hRC, ↓cC_10_4 hRC, ↓cC_10_5 hRC, ↓cC_11_0 hRC, ↓cC_11_1 hRC, ↓cC_14_0 hRC, ↓cC_14_1 hRC, ↓cC_21_0 hRC, ↓cC_21_1 hRC, ↓cC_21_2 hRC, ↓bdn7, ↓brf7, ↓bgr7, ↓ban7]
    | true =>
      rw [c1, b2i_t] at ha
      have hgn := (ast_t.mp c1).2.1
      obtain ⟨q, q1, q2⟩ := goal_q hG hgn
      have e2 : gI v 17 j = nI q := by rw [← q2]; exact hGG j hj
      rcases lay_e hL q1 with ⟨c, e3⟩ | ⟨c, b, hb, e3, e4⟩
      · have g1 : blk G f j = false := by
          unfold blk
          rw [c1, Bool.true_and]
          cases cx : ex (fun i => decide (f i = G j) && decide (G i = -1)) 0 80 with
          | false => rfl
          | true =>
            obtain ⟨i, _, i2, i3⟩ := ex_yes cx
            simp only [Bool.and_eq_true, decide_eq_true_eq] at i3
            exact absurd (i3.1.trans q2) (emp_t c i (by omega))
        rw [g1, Bool.false_or, ← ih]
        simp (disch := first | exact h60 | omega | with_unfolding_all exact h60) only [L_X4_isGoalBlocked_2, eq_false hnl, ↓bd_of ha, e2, e3, ↓bb_e, ↓c_sI, ↓o_sI, ↓a_sI, ↓c_sL, ↓o_sL, ↓a_sL, ↓c_rI, ↓o_rI, ↓a_rI, ↓c_rL, ↓o_rL, ↓a_rL, ↓c_rngI, ↓o_rngI, ↓a_rngI, ↓c_rngL, ↓o_rngL, ↓a_rngL, ↓bd_s, ↓cs_s, ↓cs_n, ↓gd_t, ↓gB0, ↓gB1, ↓gOT, ↓gAS, ↓gOY, ↓gAY, ↓reduceIte, d10, nI_clamp, nI_1', i0eq, ↓gO0 h60, ↓gO2 h60, ↓gO6 h60, ↓gO10 h60, ↓gO11 h60, ↓gO14 h60, ↓gO21 h60, ↓gA1 h60, ↓gA3 h60, ↓gA4 h60, ↓gA5 h60, ↓gA7 h60, ↓gA8 h60, ↓gA9 h60, ↓gA12 h60, ↓gA13 h60, ↓gA15 h60, ↓gA16 h60, ↓gA17 h60, ↓gA18 h60, ↓gA19 h60, ↓gA20 h60, ↓gA22 h60, ↓gA23 h60, ↓gA24 h60, ↓cC_0_0 hRC, ↓cC_0_1 hRC, ↓cC_0_2 hRC, ↓cC_0_3 hRC, ↓cC_0_4 hRC, ↓cC_2_0 hRC, ↓cC_2_2 hRC, ↓cC_2_3 hRC, ↓cC_6_0 hRC, ↓cC_6_1 hRC, ↓cC_6_2 hRC, ↓cC_10_0 hRC, ↓cC_10_1 hRC, ↓cC_10_2 hRC, ↓cC_10_3 hRC, ↓cC_10_4 hRC, ↓cC_10_5 hRC, ↓cC_11_0 hRC, ↓cC_11_1 hRC, ↓cC_14_0 hRC, ↓cC_14_1 hRC, ↓cC_21_0 hRC, ↓cC_21_1 hRC, ↓cC_21_2 hRC, ↓bdn7, ↓brf7, ↓bgr7, ↓ban7]
      · have m := nI_m1 (b := b) (by omega)
        have e5 := hGG b hb
        have g1 : blk G f j = decide (G b = -1) := by
          unfold blk
          rw [c1, Bool.true_and]
          by_cases cb : G b = -1
          · rw [decide_eq_true cb]
            exact ex_t 80 0 b (by omega) (by omega) (by simp only [Bool.and_eq_true, decide_eq_true_eq]; exact ⟨e4.trans q2.symm, cb⟩)
          · rw [decide_eq_false cb]
            cases cx : ex (fun i => decide (f i = G j) && decide (G i = -1)) 0 80 with
            | false => rfl
            | true =>
              obtain ⟨i, _, i2, i3⟩ := ex_yes cx
              simp only [Bool.and_eq_true, decide_eq_true_eq] at i3
              by_cases e : i = b
              · subst e; exact absurd i3.2 cb
              · exact absurd (i3.1.symm.trans (hd i b (by omega) hb e (by rw [i3.1, e4, q2]))) hgn
        rw [g1]
        by_cases cb : G b = -1
        · rw [decide_eq_true cb, Bool.true_or, if_pos rfl]
          simp (disch := first | exact h60 | omega | with_unfolding_all exact h60) only [L_X4_isGoalBlocked_2, eq_false hnl, ↓bd_of ha, e2, e3, eq_false m, e5, eq_true cb, ↓bb_e, ↓c_sI, ↓o_sI, ↓a_sI, ↓c_sL, ↓o_sL, ↓a_sL, ↓c_rI, ↓o_rI, ↓a_rI, ↓c_rL, ↓o_rL, ↓a_rL, ↓c_rngI, ↓o_rngI, ↓a_rngI, ↓c_rngL, ↓o_rngL, ↓a_rngL, ↓bd_s, ↓cs_s, ↓cs_n, ↓gd_t, ↓gB0, ↓gB1, ↓gOT, ↓gAS, ↓gOY, ↓gAY, ↓reduceIte, d10, nI_clamp, nI_1', i0eq, ↓gO0 h60, ↓gO2 h60, ↓gO6 h60, ↓gO10 h60, ↓gO11 h60, ↓gO14 h60, ↓gO21 h60, ↓gA1 h60, ↓gA3 h60, ↓gA4 h60, ↓gA5 h60, ↓gA7 h60, ↓gA8 h60, ↓gA9 h60, ↓gA12 h60, ↓gA13 h60, ↓gA15 h60, ↓gA16 h60, ↓gA17 h60, ↓gA18 h60, ↓gA19 h60, ↓gA20 h60, ↓gA22 h60, ↓gA23 h60, ↓gA24 h60, ↓cC_0_0 hRC, ↓cC_0_1 hRC, ↓cC_0_2 hRC, ↓cC_0_3 hRC, ↓cC_0_4 hRC, ↓cC_2_0 hRC, ↓cC_2_2 hRC, ↓cC_2_3 hRC, ↓cC_6_0 hRC, ↓cC_6_1 hRC, ↓cC_6_2 hRC, ↓cC_10_0 hRC, ↓cC_10_1 hRC, ↓cC_10_2 hRC, ↓cC_10_3 hRC, ↓cC_10_4 hRC, ↓cC_10_5 hRC, ↓cC_11_0 hRC, ↓cC_11_1 hRC, ↓cC_14_0 hRC, ↓cC_14_1 hRC, ↓cC_21_0 hRC, ↓cC_21_1 hRC, ↓cC_21_2 hRC, ↓bdn7, ↓brf7, ↓bgr7, ↓ban7]
        · rw [decide_eq_false cb, Bool.false_or, ← ih]
          simp (disch := first | exact h60 | omega | with_unfolding_all exact h60) only [L_X4_isGoalBlocked_2, eq_false hnl, ↓bd_of ha, e2, e3, eq_false m, e5, eq_false cb, ↓bb_e, ↓c_sI, ↓o_sI, ↓a_sI, ↓c_sL, ↓o_sL, ↓a_sL, ↓c_rI, ↓o_rI, ↓a_rI, ↓c_rL, ↓o_rL, ↓a_rL, ↓c_rngI, ↓o_rngI, ↓a_rngI, ↓c_rngL, ↓o_rngL, ↓a_rngL, ↓bd_s, ↓cs_s, ↓cs_n, ↓gd_t, ↓gB0, ↓gB1, ↓gOT, ↓gAS, ↓gOY, ↓gAY, ↓reduceIte, d10, nI_clamp, nI_1', i0eq, ↓gO0 h60, ↓gO2 h60, ↓gO6 h60, ↓gO10 h60, ↓gO11 h60, ↓gO14 h60, ↓gO21 h60, ↓gA1 h60, ↓gA3 h60, ↓gA4 h60, ↓gA5 h60, ↓gA7 h60, ↓gA8 h60, ↓gA9 h60, ↓gA12 h60, ↓gA13 h60, ↓gA15 h60, ↓gA16 h60, ↓gA17 h60, ↓gA18 h60, ↓gA19 h60, ↓gA20 h60, ↓gA22 h60, ↓gA23 h60, ↓gA24 h60, ↓cC_0_0 hRC, ↓cC_0_1 hRC, ↓cC_0_2 hRC, ↓cC_0_3 hRC, ↓cC_0_4 hRC, ↓cC_2_0 hRC, ↓cC_2_2 hRC, ↓cC_2_3 hRC, ↓cC_6_0 hRC, ↓cC_6_1 hRC, ↓cC_6_2 hRC, ↓cC_10_0 hRC, ↓cC_10_1 hRC, ↓cC_10_2 hRC, ↓cC_10_3 hRC, ↓cC_10_4 hRC, ↓cC_10_5 hRC, ↓cC_11_0 hRC, ↓cC_11_1 hRC, ↓cC_14_0 hRC, ↓cC_14_1 hRC, ↓cC_21_0 hRC, ↓cC_21_1 hRC, ↓cC_21_2 hRC, ↓bdn7, ↓brf7, ↓bgr7, ↓ban7]
theorem gb_t {v : Mm} {G f : Nat → Int32} {N : Nat} (hG : okG G N) (h : PL v 15 16 G f) (hL : Lay v 12 13 f) (hd : ∀ a b, a < 80 → b < 80 → a ≠ b → f a = f b → f a = -1) : f_X4_isGoalBlocked 10 v = some (b2i (ex (blk G f) 0 80)) := by
  have := gb_l hG h hL hd (k := fun a23 => some 0) 80 1000 0 (by omega) (by omega)
  rw [nI_0] at this
  rw [f_X4_isGoalBlocked, this]
  cases ex (blk G f) 0 80 <;> rfl
/-- the class's cells hold the plan s -/
def PC (u v : Mm) (s : PS) : Prop := scr u v ∧ Lay v 15 16 s.1 ∧ gI v 10 6 = nI s.2.1 ∧ ∀ k, k < s.2.1 → gI v 18 k = s.2.2.1 k ∧ gI v 19 k = s.2.2.2.1 k ∧ gI v 20 k = s.2.2.2.2 k
theorem PC.PL {u v : Mm} {A : Ab} {s : PS} (hW : Wf A) (hC : CR u A) (h : PC u v s) : PL v 15 16 (gol A) s.1 := by
  have h80 := hW.1.1
  obtain ⟨hRC, hN, -, -, -, -, -, -, hS⟩ := hC.scr h.1
  have := hN.1
  exact ⟨hRC, by omega, h.2.1, hS.2⟩
theorem only.scr {u v : Mm} (h : only u v 15 16) : scr u v := ⟨h.1, fun r k _ => h.2.1 r k, h.2.2.1, fun r k hr => h.2.2.2 r k (by omega) (by omega)⟩
theorem Lay.cong {u v : Mm} {rp rb : Nat} {f : Nat → Int32} (h : Lay u rp rb f) (h1 : ∀ k, gI v rp k = gI u rp k) (h2 : ∀ k, gI v rb k = gI u rb k) : Lay v rp rb f := ⟨fun i hi => by rw [h1]; exact h.1 i hi, fun p hp => by rw [h2]; exact h.2 p hp⟩
theorem addC {u v : Mm} {A : Ab} {s : PS} (hW : Wf A) (hC : CR u A) (h : PC u v s) (hF : okF (gol A) s.1 (an A)) (hc : s.2.1 < 80) {b : Nat} {p : Int32} (hb : b < 80) (hp : 0 ≤ p.toInt ∧ p.toInt < 40) : ∃ v', PC u v' (mvS s b p) ∧ f_X4_addCarry 10 (nI b) p v = some v' := by
  obtain ⟨hRC, h60, hL, -⟩ := h.PL hW hC
  obtain ⟨hs, -, h6, hr⟩ := h
  have e15 := hL.1 b hb
  have n80 := n80 hc
  generalize hv2 : sI (sI (sI (sI v 18 s.2.1 (nI b)) 19 s.2.1 (s.1 b)) 20 s.2.1 p) 10 6 (nI (s.2.1 + 1)) = v2
  have s2 : scr u v2 := by subst hv2; exact (((hs.sI (by omega)).sI (by omega)).sI (by omega)).sI (by omega)
  have hL2 : Lay v2 15 16 s.1 := by
    subst hv2
    refine hL.cong (fun k => ?_) (fun k => ?_)
    · rw [gI_n (by omega), gI_n (by omega), gI_n (by omega), gI_n (by omega)]
    · rw [gI_n (by omega), gI_n (by omega), gI_n (by omega), gI_n (by omega)]
  have hRC2 : RC v2 := by subst hv2; exact hRC
  have h602 : 60 ≤ v2.1 := by subst hv2; exact h60
  obtain ⟨v', p1, p2, p3⟩ := put14 hRC2 h602 hL2 hF.1 hF.2.1 hb (p := p) (by omega)
  refine ⟨v', ⟨s2.trans p3.scr, p2, ?_, fun k hk => ?_⟩, ?_⟩
  · rw [p3.2.2.2 10 6 (by omega) (by omega)]
    subst hv2
    exact gI_e
  · rw [p3.2.2.2 18 k (by omega) (by omega), p3.2.2.2 19 k (by omega) (by omega), p3.2.2.2 20 k (by omega) (by omega)]
    subst hv2
    have hk : k < s.2.1 + 1 := hk
    by_cases c : k = s.2.1
    · subst c
      simp (disch := omega) only [gI_e, gL_e, gR_e, gI_n, gL_n, gR_n, gI_re, gI_rn, gI_nn, gL_nn, gR_nn, gI_sR, gI_sL, gR_sI, gR_sL, gL_sI, gL_sR, gR_rngI, gL_rngI, gI_rngL, gR_rngL]
      exact ⟨u1_e.symm, u1_e.symm, u1_e.symm⟩
    · simp (disch := omega) only [gI_e, gL_e, gR_e, gI_n, gL_n, gR_n, gI_re, gI_rn, gI_nn, gL_nn, gR_nn, gI_sR, gI_sL, gR_sI, gR_sL, gL_sI, gL_sR, gR_rngI, gL_rngI, gI_rngL, gR_rngL]
      obtain ⟨r1, r2, r3⟩ := hr k (by omega)
      refine ⟨r1.trans (u1_n c).symm, r2.trans (u1_n c).symm, r3.trans (u1_n c).symm⟩
  · rw [← p1]
    subst hv2
    have m1 : ∀ x : Int32, gI (sI v 18 s.2.1 x) 10 6 = nI s.2.1 := fun x => by rw [gI_n (by omega)]; exact h6
    have m2 : ∀ x : Int32, gI (sI v 18 s.2.1 x) 15 b = s.1 b := fun x => by rw [gI_n (by omega)]; exact e15
    have m3 : ∀ x y : Int32, gI (sI (sI v 18 s.2.1 x) 19 s.2.1 y) 10 6 = nI s.2.1 := fun x y => by rw [gI_n (by omega)]; exact m1 x
    have m4 : ∀ x y z : Int32, gI (sI (sI (sI v 18 s.2.1 x) 19 s.2.1 y) 20 s.2.1 z) 10 6 = nI s.2.1 := fun x y z => by rw [gI_n (by omega)]; exact m3 x y
    simp (disch := first | exact h60 | omega | with_unfolding_all exact h60) only [f_X4_addCarry, h6, eq_false n80, m1, m2, m3, m4, nI_1, ↓bb_e, ↓c_sI, ↓o_sI, ↓a_sI, ↓c_sL, ↓o_sL, ↓a_sL, ↓c_rI, ↓o_rI, ↓a_rI, ↓c_rL, ↓o_rL, ↓a_rL, ↓c_rngI, ↓o_rngI, ↓a_rngI, ↓c_rngL, ↓o_rngL, ↓a_rngL, ↓bd_s, ↓cs_s, ↓cs_n, ↓gd_t, ↓gB0, ↓gB1, ↓gOT, ↓gAS, ↓gOY, ↓gAY, ↓reduceIte, d10, nI_clamp, nI_1', i0eq, ↓gO0 h60, ↓gO2 h60, ↓gO6 h60, ↓gO10 h60, ↓gO11 h60, ↓gO14 h60, ↓gO21 h60, ↓gA1 h60, ↓gA3 h60, ↓gA4 h60, ↓gA5 h60, ↓gA7 h60, ↓gA8 h60, ↓gA9 h60, ↓gA12 h60, ↓gA13 h60, ↓gA15 h60, ↓gA16 h60, ↓gA17 h60, ↓gA18 h60, ↓gA19 h60, ↓gA20 h60, ↓gA22 h60, ↓gA23 h60, ↓gA24 h60, ↓cC_0_0 hRC, ↓cC_0_1 hRC, ↓cC_0_2 hRC, ↓cC_0_3 hRC, ↓cC_0_4 hRC, ↓cC_2_0 hRC, ↓cC_2_2 hRC, ↓cC_2_3 hRC, ↓cC_6_0 hRC, ↓cC_6_1 hRC, ↓cC_6_2 hRC, ↓cC_10_0 hRC, ↓cC_10_1 hRC, ↓cC_10_2 hRC, ↓cC_10_3 hRC, ↓cC_10_4 hRC, ↓cC_10_5 hRC, ↓cC_11_0 hRC, ↓cC_11_1 hRC, ↓cC_14_0 hRC, ↓cC_14_1 hRC, ↓cC_21_0 hRC, ↓cC_21_1 hRC, ↓cC_21_2 hRC, ↓bdn7, ↓brf7, ↓bgr7, ↓ban7]
    rw [p1, bd_s]
