/-! WALK -/
def wP (A : Ab) (p d : Int32) (x : Nat) : Bool := !decide (aI A 46 x = -1) && seen A p d (line A x)
/-- g: those of the first j that are marked and seen, by their marks -/
def Arr (A : Ab) (p d : Int32) (j m : Nat) (g : Nat → Nat) : Prop := m ≤ j ∧ (∀ i, i < m → g i < j ∧ wP A p d (g i) = true) ∧ (∀ i i', i < i' → i' < m → (aI A 46 (g i)).toInt < (aI A 46 (g i')).toInt) ∧ ∀ x, x < j → wP A p d x = true → ∃ i, i < m ∧ g i = x
theorem wP_mk {A : Ab} {p d : Int32} {x : Nat} (h : wP A p d x = true) : aI A 46 x ≠ -1 ∧ seen A p d (line A x) = true := by
  simp only [wP, Bool.and_eq_true, Bool.not_eq_true', decide_eq_false_iff_not] at h
  exact h
theorem mk_ne {A : Ab} (hW : Wf A) {x y : Nat} (hx : x < an A) (hy : y < an A) (h : x ≠ y) (h1 : aI A 46 x ≠ -1) : (aI A 46 x).toInt ≠ (aI A 46 y).toInt := fun e => h1 (hW.2.1 x y hx hy h (by rw [i_eq]; exact e))
theorem ins_l {u : Mm} {A : Ab} (hW : Wf A) (hC : CR u A) {p d : Int32} {m x : Nat} {g : Nat → Nat} (hm : m < 80) (hx : x < an A) (hg : ∀ i, i < m → g i < an A ∧ g i ≠ x ∧ aI A 46 (g i) ≠ -1) (hsort : ∀ i i', i < i' → i' < m → (aI A 46 (g i)).toInt < (aI A 46 (g i')).toInt) {q : Int32} {k : Int32 → Mm → Option Mm} : ∀ (a n : Nat) (v : Mm), a ≤ m → a < n → scr u v → (∀ i, i < a → gR v 4 i = some (60 + 2 * g i)) → (∀ i, a ≤ i → i < m → gR v 4 (i + 1) = some (60 + 2 * g i)) → (∀ i, a ≤ i → i < m → (aI A 46 x).toInt < (aI A 46 (g i)).toInt) →
    ∃ v' b, scr u v' ∧ b ≤ m ∧ (∀ i, i < b → gR v' 4 i = some (60 + 2 * g i)) ∧ (∀ i, b ≤ i → i < m → gR v' 4 (i + 1) = some (60 + 2 * g i)) ∧ (∀ i, i < b → (aI A 46 (g i)).toInt < (aI A 46 x).toInt) ∧ (∀ i, b ≤ i → i < m → (aI A 46 x).toInt < (aI A 46 (g i)).toInt) ∧ L_X0_insertByMark_2 2 (some (60 + 2 * x)) q k n (nI a) v = k (nI b) v' := by
  have h80 := hW.1.1
  intro a
  induction a with
  | zero =>
    intro n v h1 h2 hs r1 r2 r3
    obtain ⟨n, rfl⟩ : ∃ b, n = b + 1 := ⟨n - 1, by omega⟩
    refine ⟨v, 0, hs, by omega, r1, r2, fun i hi => by omega, r3, ?_⟩
    rw [L_X0_insertByMark_2, if_pos (by decide)]
  | succ a ih =>
    intro n v h1 h2 hs r1 r2 r3
    obtain ⟨n, rfl⟩ : ∃ b, n = b + 1 := ⟨n - 1, by omega⟩
    obtain ⟨hRC, hN, -, -, hT, -⟩ := hC.scr hs
    have hn := hN.1
    have h60 : 60 ≤ v.1 := by omega
    obtain ⟨ga1, ga2, ga3⟩ := hg a (by omega)
    have tg := (hT (g a) ga1).2.2.2.2.2.2.2.2.2.2.1
    have tx := (hT x hx).2.2.2.2.2.2.2.2.2.2.1
    have e1 := r1 a (by omega)
    have n0 : ¬ nI (a + 1) ≤ 0 := nI_nle (by omega) (by omega)
    by_cases c : aI A 46 (g a) ≤ aI A 46 x
    · refine ⟨v, a + 1, hs, h1, r1, r2, fun i hi => ?_, r3, ?_⟩
      · have hne := mk_ne hW ga1 hx ga2 ga3
        rw [i_le] at c
        by_cases e : i = a
        · subst e; omega
        · have := hsort i a (by omega) (by omega)
          omega
      · simp (disch := first | exact h60 | omega | with_unfolding_all exact h60) only [L_X0_insertByMark_2, eq_false n0, nI_pred, ↓cs_of e1, tg, tx, eq_true c, ↓bb_e, ↓c_sI, ↓o_sI, ↓a_sI, ↓c_sL, ↓o_sL, ↓a_sL, ↓c_rI, ↓o_rI, ↓a_rI, ↓c_rL, ↓o_rL, ↓a_rL, ↓c_rngI, ↓o_rngI, ↓a_rngI, ↓c_rngL, ↓o_rngL, ↓a_rngL, ↓bd_s, ↓cs_s, ↓cs_n, ↓gd_t, ↓gB0, ↓gB1, ↓gOT, ↓gAS, ↓gOY, ↓gAY, ↓reduceIte, d10, nI_clamp, nI_1', i0eq, ↓gO0 h60, ↓gO2 h60, ↓gO6 h60, ↓gO10 h60, ↓gO11 h60, ↓gO14 h60, ↓gO21 h60, ↓gA1 h60, ↓gA3 h60, ↓gA4 h60, ↓gA5 h60, ↓gA7 h60, ↓gA8 h60, ↓gA9 h60, ↓gA12 h60, ↓gA13 h60, ↓gA15 h60, ↓gA16 h60, ↓gA17 h60, ↓gA18 h60, ↓gA19 h60, ↓gA20 h60, ↓gA22 h60, ↓gA23 h60, ↓gA24 h60, ↓cC_0_0 hRC, ↓cC_0_1 hRC, ↓cC_0_2 hRC, ↓cC_0_3 hRC, ↓cC_0_4 hRC, ↓cC_2_0 hRC, ↓cC_2_2 hRC, ↓cC_2_3 hRC, ↓cC_6_0 hRC, ↓cC_6_1 hRC, ↓cC_6_2 hRC, ↓cC_10_0 hRC, ↓cC_10_1 hRC, ↓cC_10_2 hRC, ↓cC_10_3 hRC, ↓cC_10_4 hRC, ↓cC_10_5 hRC, ↓cC_11_0 hRC, ↓cC_11_1 hRC, ↓cC_14_0 hRC, ↓cC_14_1 hRC, ↓cC_21_0 hRC, ↓cC_21_1 hRC, ↓cC_21_2 hRC, ↓bdn7, ↓brf7, ↓bgr7, ↓ban7]
    · obtain ⟨v', b, q1, q2, q3, q4, q5, q6, q7⟩ := ih n (sR v 4 (a + 1) (some (60 + 2 * g a))) (by omega) (by omega) hs.sR (fun i hi => by rw [gR_n (by omega)]; exact r1 i (by omega)) (fun i hi1 hi2 => by
        by_cases e : i = a
        · subst e; exact gR_e
        · rw [gR_n (by omega)]; exact r2 i (by omega) hi2) (fun i hi1 hi2 => by
        by_cases e : i = a
        · subst e; rw [i_le] at c; omega
        · exact r3 i (by omega) hi2)
      refine ⟨v', b, q1, q2, q3, q4, q5, q6, ?_⟩
      rw [← q7]
      simp (disch := first | exact h60 | omega | with_unfolding_all exact h60) only [L_X0_insertByMark_2, eq_false n0, nI_pred, sub1, ↓cs_of e1, tg, tx, eq_false c, ↓bb_e, ↓c_sI, ↓o_sI, ↓a_sI, ↓c_sL, ↓o_sL, ↓a_sL, ↓c_rI, ↓o_rI, ↓a_rI, ↓c_rL, ↓o_rL, ↓a_rL, ↓c_rngI, ↓o_rngI, ↓a_rngI, ↓c_rngL, ↓o_rngL, ↓a_rngL, ↓bd_s, ↓cs_s, ↓cs_n, ↓gd_t, ↓gB0, ↓gB1, ↓gOT, ↓gAS, ↓gOY, ↓gAY, ↓reduceIte, d10, nI_clamp, nI_1', i0eq, ↓gO0 h60, ↓gO2 h60, ↓gO6 h60, ↓gO10 h60, ↓gO11 h60, ↓gO14 h60, ↓gO21 h60, ↓gA1 h60, ↓gA3 h60, ↓gA4 h60, ↓gA5 h60, ↓gA7 h60, ↓gA8 h60, ↓gA9 h60, ↓gA12 h60, ↓gA13 h60, ↓gA15 h60, ↓gA16 h60, ↓gA17 h60, ↓gA18 h60, ↓gA19 h60, ↓gA20 h60, ↓gA22 h60, ↓gA23 h60, ↓gA24 h60, ↓cC_0_0 hRC, ↓cC_0_1 hRC, ↓cC_0_2 hRC, ↓cC_0_3 hRC, ↓cC_0_4 hRC, ↓cC_2_0 hRC, ↓cC_2_2 hRC, ↓cC_2_3 hRC, ↓cC_6_0 hRC, ↓cC_6_1 hRC, ↓cC_6_2 hRC, ↓cC_10_0 hRC, ↓cC_10_1 hRC, ↓cC_10_2 hRC, ↓cC_10_3 hRC, ↓cC_10_4 hRC, ↓cC_10_5 hRC, ↓cC_11_0 hRC, ↓cC_11_1 hRC, ↓cC_14_0 hRC, ↓cC_14_1 hRC, ↓cC_21_0 hRC, ↓cC_21_1 hRC, ↓cC_21_2 hRC, ↓bdn7, ↓brf7, ↓bgr7, ↓ban7]
theorem insM_t {u v : Mm} {A : Ab} (hW : Wf A) (hC : CR u A) {p d : Int32} {j m : Nat} {g : Nat → Nat} (hj : j < an A) (ha : Arr A p d j m g) (hp : wP A p d j = true) (hs : scr u v) (hr : ∀ i, i < m → gR v 4 i = some (60 + 2 * g i)) : ∃ v' g', scr u v' ∧ Arr A p d (j + 1) (m + 1) g' ∧ (∀ i, i < m + 1 → gR v' 4 i = some (60 + 2 * g' i)) ∧ f_X0_insertByMark 2 (some (60 + 2 * j)) (nI m) v = some v' := by
  have h80 := hW.1.1
  obtain ⟨a1, a2, a3, a4⟩ := ha
  obtain ⟨v', b, q1, q2, q3, q4, q5, q6, q7⟩ := ins_l hW hC (p := p) (d := d) (x := j) (m := m) (g := g) (by omega) hj (fun i hi => ⟨by have := (a2 i hi).1; omega, by have := (a2 i hi).1; omega, (wP_mk (a2 i hi).2).1⟩) a3 (q := nI m) (k := fun a22 u23 => gd (okO u23 2 0) (bb (gR u23 2 2) (fun x25 => cs x25 none (fun k26 => cs (some (60 + 2 * j)) none (fun k28 => gd (okO u23 k28 5) (gd (okA u23 k26 12 a22) (some (sR u23 k26 (Int32.toNatClampNeg a22) (some k28))))))))) m 1000 v (Nat.le_refl _) (by omega) hs hr (fun i h1 h2 => by omega) (fun i h1 h2 => by omega)
  refine ⟨sR v' 4 b (some (60 + 2 * j)), fun i => if i < b then g i else if i = b then j else g (i - 1), q1.sR, ⟨by omega, fun i hi => ?_, fun i i' h1 h2 => ?_, fun x hx hpx => ?_⟩, fun i hi => ?_, ?_⟩
  · simp only
    by_cases c1 : i < b
    · rw [if_pos c1]; have := a2 i (by omega); exact ⟨by omega, this.2⟩
    · rw [if_neg c1]
      by_cases c2 : i = b
      · rw [if_pos c2]; exact ⟨by omega, hp⟩
      · rw [if_neg c2]; have := a2 (i - 1) (by omega); exact ⟨by omega, this.2⟩
  · simp only
    by_cases c1 : i < b
    · rw [if_pos c1]
      by_cases c2 : i' < b
      · rw [if_pos c2]; exact a3 i i' h1 (by omega)
      · rw [if_neg c2]
        by_cases c3 : i' = b
        · rw [if_pos c3]; exact q5 i c1
        · rw [if_neg c3]; exact a3 i (i' - 1) (by omega) (by omega)
    · rw [if_neg c1, if_neg (show ¬ i' < b by omega), if_neg (show ¬ i' = b by omega)]
      by_cases c2 : i = b
      · rw [if_pos c2]; exact q6 (i' - 1) (by omega) (by omega)
      · rw [if_neg c2]; exact a3 (i - 1) (i' - 1) (by omega) (by omega)
  · by_cases c : x = j
    · exact ⟨b, by omega, by simp only [Nat.lt_irrefl, ↓reduceIte]; exact c.symm⟩
    · obtain ⟨i, hi, e⟩ := a4 x (by omega) hpx
      by_cases c1 : i < b
      · exact ⟨i, by omega, by simp only; rw [if_pos c1]; exact e⟩
      · exact ⟨i + 1, by omega, by simp only; rw [if_neg (by omega), if_neg (by omega), Nat.add_sub_cancel]; exact e⟩
  · simp only
    by_cases c1 : i < b
    · rw [gR_n (by omega), q3 i c1, if_pos c1]
    · rw [if_neg c1]
      by_cases c2 : i = b
      · rw [if_pos c2, c2]; exact gR_e
      · rw [if_neg c2, gR_n (by omega)]
        have := q4 (i - 1) (by omega) (by omega)
        rw [Nat.sub_add_cancel (by omega)] at this
        exact this
  · obtain ⟨hRC, hN, -⟩ := hC.scr q1
    have hn := hN.1
    have h60 : 60 ≤ v'.1 := by omega
    rw [f_X0_insertByMark, q7]
    simp (disch := first | exact h60 | omega | with_unfolding_all exact h60) only [↓bb_e, ↓c_sI, ↓o_sI, ↓a_sI, ↓c_sL, ↓o_sL, ↓a_sL, ↓c_rI, ↓o_rI, ↓a_rI, ↓c_rL, ↓o_rL, ↓a_rL, ↓c_rngI, ↓o_rngI, ↓a_rngI, ↓c_rngL, ↓o_rngL, ↓a_rngL, ↓bd_s, ↓cs_s, ↓cs_n, ↓gd_t, ↓gB0, ↓gB1, ↓gOT, ↓gAS, ↓gOY, ↓gAY, ↓reduceIte, d10, nI_clamp, nI_1', i0eq, ↓gO0 h60, ↓gO2 h60, ↓gO6 h60, ↓gO10 h60, ↓gO11 h60, ↓gO14 h60, ↓gO21 h60, ↓gA1 h60, ↓gA3 h60, ↓gA4 h60, ↓gA5 h60, ↓gA7 h60, ↓gA8 h60, ↓gA9 h60, ↓gA12 h60, ↓gA13 h60, ↓gA15 h60, ↓gA16 h60, ↓gA17 h60, ↓gA18 h60, ↓gA19 h60, ↓gA20 h60, ↓gA22 h60, ↓gA23 h60, ↓gA24 h60, ↓cC_0_0 hRC, ↓cC_0_1 hRC, ↓cC_0_2 hRC, ↓cC_0_3 hRC, ↓cC_0_4 hRC, ↓cC_2_0 hRC, ↓cC_2_2 hRC, ↓cC_2_3 hRC, ↓cC_6_0 hRC, ↓cC_6_1 hRC, ↓cC_6_2 hRC, ↓cC_10_0 hRC, ↓cC_10_1 hRC, ↓cC_10_2 hRC, ↓cC_10_3 hRC, ↓cC_10_4 hRC, ↓cC_10_5 hRC, ↓cC_11_0 hRC, ↓cC_11_1 hRC, ↓cC_14_0 hRC, ↓cC_14_1 hRC, ↓cC_21_0 hRC, ↓cC_21_1 hRC, ↓cC_21_2 hRC, ↓bdn7, ↓brf7, ↓bgr7, ↓ban7]
theorem lum_l {u : Mm} {A : Ab} (hW : Wf A) (hC : CR u A) {p d' : Int32} {k : Int32 → Int32 → Mm → Option (Int32 × Mm)} : ∀ (d n j m : Nat) (g : Nat → Nat) (v : Mm), j + d = an A → d < n → scr u v → Arr A p d' j m g → (∀ i, i < m → gR v 4 i = some (60 + 2 * g i)) → ∃ v' m' g', scr u v' ∧ Arr A p d' (an A) m' g' ∧ (∀ i, i < m' → gR v' 4 i = some (60 + 2 * g' i)) ∧ L_X0_lineUpByMark_5 2 p d' k n (nI m) (nI j) v = k (nI m') (nI (an A)) v' := by
  have h80 := hW.1.1
  intro d
  induction d with
  | zero =>
    intro n j m g v h1 h2 hs ha hr
    obtain ⟨n, rfl⟩ : ∃ b, n = b + 1 := ⟨n - 1, by omega⟩
    have e : j = an A := by omega
    subst e
    obtain ⟨hRC, hN, -⟩ := hC.scr hs
    have hn := hN.1
    have h60 : 60 ≤ v.1 := by omega
    refine ⟨v, m, g, hs, ha, hr, ?_⟩
    rw [L_X0_lineUpByMark_5, oO2 h60, gd_t, hN.2, if_pos (nI_le (Nat.le_refl _) (by omega))]
  | succ d ih =>
    intro n j m g v h1 h2 hs ha hr
    obtain ⟨n, rfl⟩ : ∃ b, n = b + 1 := ⟨n - 1, by omega⟩
    have hj : j < an A := by omega
    have hC' := hC.scr hs
    obtain ⟨hRC, hN, -, -, hT, -⟩ := id hC'
    have hn := hN.1
    have h60 : 60 ≤ v.1 := by omega
    have h7 := hN.2
    have hnl : ¬ nI (an A) ≤ nI j := nI_ge (by omega) (by omega)
    have t1 := (hT j hj).1
    have tm := (hT j hj).2.2.2.2.2.2.2.2.2.2.1
    have hv := isSeen_t hW hC' hj p d'
    have skipA : wP A p d' j = false → Arr A p d' (j + 1) m g := fun h => by
      obtain ⟨a1, a2, a3, a4⟩ := ha
      refine ⟨by omega, fun i hi => ⟨by have := (a2 i hi).1; omega, (a2 i hi).2⟩, a3, fun x hx hpx => ?_⟩
      by_cases c : x = j
      · subst c; rw [h] at hpx; cases hpx
      · exact a4 x (by omega) hpx
    by_cases a1 : aI A 46 j = -1
    · obtain ⟨v', m', g', q1, q2, q3, q4⟩ := ih n (j + 1) m g v (by omega) (by omega) hs (skipA (by simp [wP, a1])) hr
      refine ⟨v', m', g', q1, q2, q3, ?_⟩
      rw [← q4]
      simp (disch := first | exact h60 | omega | with_unfolding_all exact h60) only [L_X0_lineUpByMark_5, h7, eq_false hnl, ↓cs_of t1, tm, eq_true a1, ↓bb_e, ↓c_sI, ↓o_sI, ↓a_sI, ↓c_sL, ↓o_sL, ↓a_sL, ↓c_rI, ↓o_rI, ↓a_rI, ↓c_rL, ↓o_rL, ↓a_rL, ↓c_rngI, ↓o_rngI, ↓a_rngI, ↓c_rngL, ↓o_rngL, ↓a_rngL, ↓bd_s, ↓cs_s, ↓cs_n, ↓gd_t, ↓gB0, ↓gB1, ↓gOT, ↓gAS, ↓gOY, ↓gAY, ↓reduceIte, d10, nI_clamp, nI_1', i0eq, ↓gO0 h60, ↓gO2 h60, ↓gO6 h60, ↓gO10 h60, ↓gO11 h60, ↓gO14 h60, ↓gO21 h60, ↓gA1 h60, ↓gA3 h60, ↓gA4 h60, ↓gA5 h60, ↓gA7 h60, ↓gA8 h60, ↓gA9 h60, ↓gA12 h60, ↓gA13 h60, ↓gA15 h60, ↓gA16 h60, ↓gA17 h60, ↓gA18 h60, ↓gA19 h60, ↓gA20 h60, ↓gA22 h60, ↓gA23 h60, ↓gA24 h60, ↓cC_0_0 hRC, ↓cC_0_1 hRC, ↓cC_0_2 hRC, ↓cC_0_3 hRC, ↓cC_0_4 hRC, ↓cC_2_0 hRC, ↓cC_2_2 hRC, ↓cC_2_3 hRC, ↓cC_6_0 hRC, ↓cC_6_1 hRC, ↓cC_6_2 hRC, ↓cC_10_0 hRC, ↓cC_10_1 hRC, ↓cC_10_2 hRC, ↓cC_10_3 hRC, ↓cC_10_4 hRC, ↓cC_10_5 hRC, ↓cC_11_0 hRC, ↓cC_11_1 hRC, ↓cC_14_0 hRC, ↓cC_14_1 hRC, ↓cC_21_0 hRC, ↓cC_21_1 hRC, ↓cC_21_2 hRC, ↓bdn7, ↓brf7, ↓bgr7, ↓ban7]
    · cases a2 : seen A p d' (line A j) with
      | true =>
        rw [a2, b2i_t] at hv
        obtain ⟨v1, g1, s1, b1, r1, e1⟩ := insM_t hW hC hj ha (by simp [wP, a1, a2]) hs hr
        obtain ⟨v', m', g', q1, q2, q3, q4⟩ := ih n (j + 1) (m + 1) g1 v1 (by omega) (by omega) s1 b1 r1
        refine ⟨v', m', g', q1, q2, q3, ?_⟩
        rw [← q4]
        simp (disch := first | exact h60 | omega | with_unfolding_all exact h60) only [L_X0_lineUpByMark_5, h7, eq_false hnl, ↓cs_of t1, tm, eq_false a1, ↓bd_of hv, ↓bd_of e1, ↓bb_e, ↓c_sI, ↓o_sI, ↓a_sI, ↓c_sL, ↓o_sL, ↓a_sL, ↓c_rI, ↓o_rI, ↓a_rI, ↓c_rL, ↓o_rL, ↓a_rL, ↓c_rngI, ↓o_rngI, ↓a_rngI, ↓c_rngL, ↓o_rngL, ↓a_rngL, ↓bd_s, ↓cs_s, ↓cs_n, ↓gd_t, ↓gB0, ↓gB1, ↓gOT, ↓gAS, ↓gOY, ↓gAY, ↓reduceIte, d10, nI_clamp, nI_1', i0eq, ↓gO0 h60, ↓gO2 h60, ↓gO6 h60, ↓gO10 h60, ↓gO11 h60, ↓gO14 h60, ↓gO21 h60, ↓gA1 h60, ↓gA3 h60, ↓gA4 h60, ↓gA5 h60, ↓gA7 h60, ↓gA8 h60, ↓gA9 h60, ↓gA12 h60, ↓gA13 h60, ↓gA15 h60, ↓gA16 h60, ↓gA17 h60, ↓gA18 h60, ↓gA19 h60, ↓gA20 h60, ↓gA22 h60, ↓gA23 h60, ↓gA24 h60, ↓cC_0_0 hRC, ↓cC_0_1 hRC, ↓cC_0_2 hRC, ↓cC_0_3 hRC, ↓cC_0_4 hRC, ↓cC_2_0 hRC, ↓cC_2_2 hRC, ↓cC_2_3 hRC, ↓cC_6_0 hRC, ↓cC_6_1 hRC, ↓cC_6_2 hRC, ↓cC_10_0 hRC, ↓cC_10_1 hRC, ↓cC_10_2 hRC, ↓cC_10_3 hRC, ↓cC_10_4 hRC, ↓cC_10_5 hRC, ↓cC_11_0 hRC, ↓cC_11_1 hRC, ↓cC_14_0 hRC, ↓cC_14_1 hRC, ↓cC_21_0 hRC, ↓cC_21_1 hRC, ↓cC_21_2 hRC, ↓bdn7, ↓brf7, ↓bgr7, ↓ban7]
      | false =>
        rw [a2, b2i_f] at hv
        obtain ⟨v', m', g', q1, q2, q3, q4⟩ := ih n (j + 1) m g v (by omega) (by omega) hs (skipA (by simp [wP, a2])) hr
        refine ⟨v', m', g', q1, q2, q3, ?_⟩
        rw [← q4]
        simp (disch := first | exact h60 | omega | with_unfolding_all exact h60) only [L_X0_lineUpByMark_5, h7, eq_false hnl, ↓cs_of t1, tm, eq_false a1, ↓bd_of hv, ↓bb_e, ↓c_sI, ↓o_sI, ↓a_sI, ↓c_sL, ↓o_sL, ↓a_sL, ↓c_rI, ↓o_rI, ↓a_rI, ↓c_rL, ↓o_rL, ↓a_rL, ↓c_rngI, ↓o_rngI, ↓a_rngI, ↓c_rngL, ↓o_rngL, ↓a_rngL, ↓bd_s, ↓cs_s, ↓cs_n, ↓gd_t, ↓gB0, ↓gB1, ↓gOT, ↓gAS, ↓gOY, ↓gAY, ↓reduceIte, d10, nI_clamp, nI_1', i0eq, ↓gO0 h60, ↓gO2 h60, ↓gO6 h60, ↓gO10 h60, ↓gO11 h60, ↓gO14 h60, ↓gO21 h60, ↓gA1 h60, ↓gA3 h60, ↓gA4 h60, ↓gA5 h60, ↓gA7 h60, ↓gA8 h60, ↓gA9 h60, ↓gA12 h60, ↓gA13 h60, ↓gA15 h60, ↓gA16 h60, ↓gA17 h60, ↓gA18 h60, ↓gA19 h60, ↓gA20 h60, ↓gA22 h60, ↓gA23 h60, ↓gA24 h60, ↓cC_0_0 hRC, ↓cC_0_1 hRC, ↓cC_0_2 hRC, ↓cC_0_3 hRC, ↓cC_0_4 hRC, ↓cC_2_0 hRC, ↓cC_2_2 hRC, ↓cC_2_3 hRC, ↓cC_6_0 hRC, ↓cC_6_1 hRC, ↓cC_6_2 hRC, ↓cC_10_0 hRC, ↓cC_10_1 hRC, ↓cC_10_2 hRC, ↓cC_10_3 hRC, ↓cC_10_4 hRC, ↓cC_10_5 hRC, ↓cC_11_0 hRC, ↓cC_11_1 hRC, ↓cC_14_0 hRC, ↓cC_14_1 hRC, ↓cC_21_0 hRC, ↓cC_21_1 hRC, ↓cC_21_2 hRC, ↓bdn7, ↓brf7, ↓bgr7, ↓ban7]
/-- above the last one -/
def cand (A : Ab) (p d : Int32) (l : Option Nat) (x : Nat) : Prop := wP A p d x = true ∧ ∀ y, l = some y → (aI A 46 y).toInt < (aI A 46 x).toInt
/-- the lowest candidate of the first j -/
def best (A : Ab) (p d : Int32) (l : Option Nat) (j : Nat) (b : Option Nat) : Prop := match b with
  | none => ∀ x, x < j → ¬ cand A p d l x
  | some y => y < j ∧ cand A p d l y ∧ ∀ x, x < j → cand A p d l x → (aI A 46 y).toInt ≤ (aI A 46 x).toInt
theorem best_s {A : Ab} {p d : Int32} {l : Option Nat} {j : Nat} {b : Option Nat} (h : best A p d l j b) (hc : ¬ cand A p d l j ∨ ∃ y, b = some y ∧ (aI A 46 y).toInt ≤ (aI A 46 j).toInt) : best A p d l (j + 1) b := by
  unfold best at h ⊢
  cases b with
  | none =>
    intro x hx
    by_cases c : x = j
    · subst c
      rcases hc with hc | ⟨y, hy, -⟩
      · exact hc
      · cases hy
    · exact h x (by omega)
  | some y =>
    simp only at h ⊢
    refine ⟨by omega, h.2.1, fun x hx hcx => ?_⟩
    by_cases c : x = j
    · subst c
      rcases hc with hc | ⟨y', hy, hle⟩
      · exact absurd hcx hc
      · cases hy; exact hle
    · exact h.2.2 x (by omega) hcx
theorem best_n {A : Ab} {p d : Int32} {l : Option Nat} {j : Nat} {b : Option Nat} (h : best A p d l j b) (hc : cand A p d l j) (hb : ∀ y, b = some y → (aI A 46 j).toInt < (aI A 46 y).toInt) : best A p d l (j + 1) (some j) := by
  unfold best at h ⊢
  simp only
  refine ⟨by omega, hc, fun x hx hcx => ?_⟩
  by_cases c : x = j
  · subst c; exact Int.le_refl _
  · cases b with
    | none => exact absurd hcx (h x (by omega))
    | some y =>
      have := h.2.2 x (by omega) hcx
      have := hb y rfl
      omega
theorem wk_in {w : Mm} {A : Ab} (hW : Wf A) (hM : MR w A) {p d' q c5 : Int32} {l : Option Nat} (hl : ∀ y, l = some y → y < an A) {k : Int32 → Int32 → Option (Int32 × Mm)} : ∀ (d n j : Nat) (b : Option Nat), j + d = an A → d < n → best A p d' l j b → ∃ b', best A p d' l (an A) b' ∧ L_X8_walk_58 33 q p d' (pI l) c5 w k n (pI b) (nI j) = k (pI b') (nI (an A)) := by
  have h80 := hW.1.1
  obtain ⟨hRM, h60, h7, -, -, hT, -⟩ := id hM
  intro d
  induction d with
  | zero =>
    intro n j b h1 h2 hb
    obtain ⟨n, rfl⟩ : ∃ b, n = b + 1 := ⟨n - 1, by omega⟩
    have e : j = an A := by omega
    subst e
    refine ⟨b, hb, ?_⟩
    rw [L_X8_walk_58, oO33 h60, gd_t, h7, if_pos (nI_le (Nat.le_refl _) (by omega))]
  | succ d ih =>
    intro n j b h1 h2 hb
    obtain ⟨n, rfl⟩ : ∃ b, n = b + 1 := ⟨n - 1, by omega⟩
    have hj : j < an A := by omega
    have hnl : ¬ nI (an A) ≤ nI j := nI_ge (by omega) (by omega)
    have k9 := (hT.1 j hj).2.2.2.2.2.2.2.2.1
    have hv := seesOf_t hW hM hj p d'
    have hr := (hW.1.2 j hj).2.2.2.2.2.2.2.1
    have skip : best A p d' l (j + 1) b → (L_X8_walk_58 33 q p d' (pI l) c5 w k (n + 1) (pI b) (nI j) = L_X8_walk_58 33 q p d' (pI l) c5 w k n (pI b) (nI (j + 1))) → ∃ b', best A p d' l (an A) b' ∧ L_X8_walk_58 33 q p d' (pI l) c5 w k (n + 1) (pI b) (nI j) = k (pI b') (nI (an A)) := fun hb2 e => by
      obtain ⟨b', q1, q2⟩ := ih n (j + 1) b (by omega) (by omega) hb2
      exact ⟨b', q1, by rw [e, q2]⟩
    have take : best A p d' l (j + 1) (some j) → (L_X8_walk_58 33 q p d' (pI l) c5 w k (n + 1) (pI b) (nI j) = L_X8_walk_58 33 q p d' (pI l) c5 w k n (nI j) (nI (j + 1))) → ∃ b', best A p d' l (an A) b' ∧ L_X8_walk_58 33 q p d' (pI l) c5 w k (n + 1) (pI b) (nI j) = k (pI b') (nI (an A)) := fun hb2 e => by
      obtain ⟨b', q1, q2⟩ := ih n (j + 1) (some j) (by omega) (by omega) hb2
      exact ⟨b', q1, by rw [e]; exact q2⟩
    by_cases a1 : aI A 46 j < 0
    · have a1' : aI A 46 j = -1 := by rw [i_lt, li_0] at a1; rw [i_eq, li_m1]; omega
      refine skip (best_s hb (Or.inl (fun hc => (wP_mk hc.1).1 a1'))) ?_
      simp (disch := first | exact h60 | omega | with_unfolding_all exact h60) only [L_X8_walk_58, h7, eq_false hnl, k9, eq_true a1, ↓bb_e, ↓c_sI, ↓o_sI, ↓a_sI, ↓c_sL, ↓o_sL, ↓a_sL, ↓c_rI, ↓o_rI, ↓a_rI, ↓c_rL, ↓o_rL, ↓a_rL, ↓c_rngI, ↓o_rngI, ↓a_rngI, ↓c_rngL, ↓o_rngL, ↓a_rngL, ↓bd_s, ↓cs_s, ↓cs_n, ↓gd_t, ↓gB0, ↓gB1, ↓gOT, ↓gAS, ↓gOY, ↓gAY, ↓reduceIte, d10, nI_clamp, nI_1', i0eq, ↓gO33 h60, ↓gA34 h60, ↓gA35 h60, ↓gA36 h60, ↓gA37 h60, ↓gA38 h60, ↓gA39 h60, ↓gA40 h60, ↓gA41 h60, ↓gA42 h60, ↓gA43 h60, ↓gA44 h60, ↓gA45 h60, ↓gA46 h60, ↓gA47 h60, ↓gA48 h60, ↓gA49 h60, ↓gA50 h60, ↓gA51 h60, ↓gA52 h60, ↓gA53 h60, ↓gA54 h60, ↓gA55 h60, ↓gA56 h60, ↓gA57 h60, ↓gA58 h60, ↓gA59 h60, ↓cM_4 hRM, ↓cM_5 hRM, ↓cM_6 hRM, ↓cM_8 hRM, ↓cM_9 hRM, ↓cM_10 hRM, ↓cM_11 hRM, ↓cM_12 hRM, ↓cM_13 hRM, ↓cM_14 hRM, ↓cM_15 hRM, ↓cM_16 hRM, ↓cM_17 hRM, ↓cM_18 hRM, ↓cM_19 hRM, ↓cM_20 hRM, ↓cM_21 hRM, ↓cM_23 hRM, ↓cM_24 hRM, ↓cM_25 hRM, ↓cM_26 hRM, ↓cM_27 hRM, ↓cM_28 hRM, ↓cM_29 hRM, ↓cM_30 hRM, ↓cM_32 hRM, ↓bno8, ↓brf8]
    · have a1' : aI A 46 j ≠ -1 := fun e => a1 (by rw [e]; decide)
      have wPj : wP A p d' j = seen A p d' (line A j) := by simp [wP, a1']
      -- above the last one or not
      have hlast : (∀ y, l = some y → (aI A 46 y).toInt < (aI A 46 j).toInt) ∨ ∃ y, l = some y ∧ y < an A ∧ ¬ (aI A 46 y).toInt < (aI A 46 j).toInt := by
        cases l with
        | none => exact Or.inl (fun y h => by cases h)
        | some y =>
          by_cases c : (aI A 46 y).toInt < (aI A 46 j).toInt
          · exact Or.inl (fun y' h => by cases h; exact c)
          · exact Or.inr ⟨y, rfl, hl y rfl, c⟩
      rcases hlast with hlast | ⟨y, rfl, hy, hny⟩
      · have hby : ∀ y, b = some y → y < an A := fun y h => by subst h; have := hb.1; omega
        cases l with
        | none =>
          have l0 : (-1 : Int32) < 0 := by decide
          cases b with
          | none =>
            have b0 : (-1 : Int32) < 0 := by decide
            cases a4 : seen A p d' (line A j) with
            | true =>
              rw [a4, b2i_t] at hv
              refine take (best_n hb ⟨by rw [wPj, a4], hlast⟩ (fun y h => by cases h)) ?_
              simp (disch := first | exact h60 | omega | with_unfolding_all exact h60) only [show pI none = -1 from rfl, L_X8_walk_58, h7, eq_false hnl, k9, eq_false a1, eq_true l0, eq_true b0, ↓bd_of hv, ↓bb_e, ↓c_sI, ↓o_sI, ↓a_sI, ↓c_sL, ↓o_sL, ↓a_sL, ↓c_rI, ↓o_rI, ↓a_rI, ↓c_rL, ↓o_rL, ↓a_rL, ↓c_rngI, ↓o_rngI, ↓a_rngI, ↓c_rngL, ↓o_rngL, ↓a_rngL, ↓bd_s, ↓cs_s, ↓cs_n, ↓gd_t, ↓gB0, ↓gB1, ↓gOT, ↓gAS, ↓gOY, ↓gAY, ↓reduceIte, d10, nI_clamp, nI_1', i0eq, ↓gO33 h60, ↓gA34 h60, ↓gA35 h60, ↓gA36 h60, ↓gA37 h60, ↓gA38 h60, ↓gA39 h60, ↓gA40 h60, ↓gA41 h60, ↓gA42 h60, ↓gA43 h60, ↓gA44 h60, ↓gA45 h60, ↓gA46 h60, ↓gA47 h60, ↓gA48 h60, ↓gA49 h60, ↓gA50 h60, ↓gA51 h60, ↓gA52 h60, ↓gA53 h60, ↓gA54 h60, ↓gA55 h60, ↓gA56 h60, ↓gA57 h60, ↓gA58 h60, ↓gA59 h60, ↓cM_4 hRM, ↓cM_5 hRM, ↓cM_6 hRM, ↓cM_8 hRM, ↓cM_9 hRM, ↓cM_10 hRM, ↓cM_11 hRM, ↓cM_12 hRM, ↓cM_13 hRM, ↓cM_14 hRM, ↓cM_15 hRM, ↓cM_16 hRM, ↓cM_17 hRM, ↓cM_18 hRM, ↓cM_19 hRM, ↓cM_20 hRM, ↓cM_21 hRM, ↓cM_23 hRM, ↓cM_24 hRM, ↓cM_25 hRM, ↓cM_26 hRM, ↓cM_27 hRM, ↓cM_28 hRM, ↓cM_29 hRM, ↓cM_30 hRM, ↓cM_32 hRM, ↓bno8, ↓brf8]
            | false =>
              rw [a4, b2i_f] at hv
              refine skip (best_s hb (Or.inl (fun hc => by have := hc.1; rw [wPj, a4] at this; cases this))) ?_
              simp (disch := first | exact h60 | omega | with_unfolding_all exact h60) only [show pI none = -1 from rfl, L_X8_walk_58, h7, eq_false hnl, k9, eq_false a1, eq_true l0, eq_true b0, ↓bd_of hv, ↓bb_e, ↓c_sI, ↓o_sI, ↓a_sI, ↓c_sL, ↓o_sL, ↓a_sL, ↓c_rI, ↓o_rI, ↓a_rI, ↓c_rL, ↓o_rL, ↓a_rL, ↓c_rngI, ↓o_rngI, ↓a_rngI, ↓c_rngL, ↓o_rngL, ↓a_rngL, ↓bd_s, ↓cs_s, ↓cs_n, ↓gd_t, ↓gB0, ↓gB1, ↓gOT, ↓gAS, ↓gOY, ↓gAY, ↓reduceIte, d10, nI_clamp, nI_1', i0eq, ↓gO33 h60, ↓gA34 h60, ↓gA35 h60, ↓gA36 h60, ↓gA37 h60, ↓gA38 h60, ↓gA39 h60, ↓gA40 h60, ↓gA41 h60, ↓gA42 h60, ↓gA43 h60, ↓gA44 h60, ↓gA45 h60, ↓gA46 h60, ↓gA47 h60, ↓gA48 h60, ↓gA49 h60, ↓gA50 h60, ↓gA51 h60, ↓gA52 h60, ↓gA53 h60, ↓gA54 h60, ↓gA55 h60, ↓gA56 h60, ↓gA57 h60, ↓gA58 h60, ↓gA59 h60, ↓cM_4 hRM, ↓cM_5 hRM, ↓cM_6 hRM, ↓cM_8 hRM, ↓cM_9 hRM, ↓cM_10 hRM, ↓cM_11 hRM, ↓cM_12 hRM, ↓cM_13 hRM, ↓cM_14 hRM, ↓cM_15 hRM, ↓cM_16 hRM, ↓cM_17 hRM, ↓cM_18 hRM, ↓cM_19 hRM, ↓cM_20 hRM, ↓cM_21 hRM, ↓cM_23 hRM, ↓cM_24 hRM, ↓cM_25 hRM, ↓cM_26 hRM, ↓cM_27 hRM, ↓cM_28 hRM, ↓cM_29 hRM, ↓cM_30 hRM, ↓cM_32 hRM, ↓bno8, ↓brf8]
          | some z =>
            have hz := hby z rfl
            have kz := (hT.1 z hz).2.2.2.2.2.2.2.2.1
            have z0 : ¬ nI z < 0 := nI_pos (by omega)
            by_cases c : aI A 46 z ≤ aI A 46 j
            · refine skip (best_s hb (Or.inr ⟨z, rfl, by rw [i_le] at c; exact c⟩)) ?_
              simp (disch := first | exact h60 | omega | with_unfolding_all exact h60) only [show pI none = -1 from rfl, show pI (some z) = nI z from rfl, L_X8_walk_58, h7, eq_false hnl, k9, eq_false a1, eq_true l0, eq_false z0, kz, eq_true c, ↓bb_e, ↓c_sI, ↓o_sI, ↓a_sI, ↓c_sL, ↓o_sL, ↓a_sL, ↓c_rI, ↓o_rI, ↓a_rI, ↓c_rL, ↓o_rL, ↓a_rL, ↓c_rngI, ↓o_rngI, ↓a_rngI, ↓c_rngL, ↓o_rngL, ↓a_rngL, ↓bd_s, ↓cs_s, ↓cs_n, ↓gd_t, ↓gB0, ↓gB1, ↓gOT, ↓gAS, ↓gOY, ↓gAY, ↓reduceIte, d10, nI_clamp, nI_1', i0eq, ↓gO33 h60, ↓gA34 h60, ↓gA35 h60, ↓gA36 h60, ↓gA37 h60, ↓gA38 h60, ↓gA39 h60, ↓gA40 h60, ↓gA41 h60, ↓gA42 h60, ↓gA43 h60, ↓gA44 h60, ↓gA45 h60, ↓gA46 h60, ↓gA47 h60, ↓gA48 h60, ↓gA49 h60, ↓gA50 h60, ↓gA51 h60, ↓gA52 h60, ↓gA53 h60, ↓gA54 h60, ↓gA55 h60, ↓gA56 h60, ↓gA57 h60, ↓gA58 h60, ↓gA59 h60, ↓cM_4 hRM, ↓cM_5 hRM, ↓cM_6 hRM, ↓cM_8 hRM, ↓cM_9 hRM, ↓cM_10 hRM, ↓cM_11 hRM, ↓cM_12 hRM, ↓cM_13 hRM, ↓cM_14 hRM, ↓cM_15 hRM, ↓cM_16 hRM, ↓cM_17 hRM, ↓cM_18 hRM, ↓cM_19 hRM, ↓cM_20 hRM, ↓cM_21 hRM, ↓cM_23 hRM, ↓cM_24 hRM, ↓cM_25 hRM, ↓cM_26 hRM, ↓cM_27 hRM, ↓cM_28 hRM, ↓cM_29 hRM, ↓cM_30 hRM, ↓cM_32 hRM, ↓bno8, ↓brf8]
            · have c' : (aI A 46 j).toInt < (aI A 46 z).toInt := by rw [i_le] at c; omega
              cases a4 : seen A p d' (line A j) with
              | true =>
                rw [a4, b2i_t] at hv
                refine take (best_n hb ⟨by rw [wPj, a4], hlast⟩ (fun y h => by cases h; exact c')) ?_
                simp (disch := first | exact h60 | omega | with_unfolding_all exact h60) only [show pI none = -1 from rfl, show pI (some z) = nI z from rfl, L_X8_walk_58, h7, eq_false hnl, k9, eq_false a1, eq_true l0, eq_false z0, kz, eq_false c, ↓bd_of hv, ↓bb_e, ↓c_sI, ↓o_sI, ↓a_sI, ↓c_sL, ↓o_sL, ↓a_sL, ↓c_rI, ↓o_rI, ↓a_rI, ↓c_rL, ↓o_rL, ↓a_rL, ↓c_rngI, ↓o_rngI, ↓a_rngI, ↓c_rngL, ↓o_rngL, ↓a_rngL, ↓bd_s, ↓cs_s, ↓cs_n, ↓gd_t, ↓gB0, ↓gB1, ↓gOT, ↓gAS, ↓gOY, ↓gAY, ↓reduceIte, d10, nI_clamp, nI_1', i0eq, ↓gO33 h60, ↓gA34 h60, ↓gA35 h60, ↓gA36 h60, ↓gA37 h60, ↓gA38 h60, ↓gA39 h60, ↓gA40 h60, ↓gA41 h60, ↓gA42 h60, ↓gA43 h60, ↓gA44 h60, ↓gA45 h60, ↓gA46 h60, ↓gA47 h60, ↓gA48 h60, ↓gA49 h60, ↓gA50 h60, ↓gA51 h60, ↓gA52 h60, ↓gA53 h60, ↓gA54 h60, ↓gA55 h60, ↓gA56 h60, ↓gA57 h60, ↓gA58 h60, ↓gA59 h60, ↓cM_4 hRM, ↓cM_5 hRM, ↓cM_6 hRM, ↓cM_8 hRM, ↓cM_9 hRM, ↓cM_10 hRM, ↓cM_11 hRM, ↓cM_12 hRM, ↓cM_13 hRM, ↓cM_14 hRM, ↓cM_15 hRM, ↓cM_16 hRM, ↓cM_17 hRM, ↓cM_18 hRM, ↓cM_19 hRM, ↓cM_20 hRM, ↓cM_21 hRM, ↓cM_23 hRM, ↓cM_24 hRM, ↓cM_25 hRM, ↓cM_26 hRM, ↓cM_27 hRM, ↓cM_28 hRM, ↓cM_29 hRM, ↓cM_30 hRM, ↓cM_32 hRM, ↓bno8, ↓brf8]
              | false =>
                rw [a4, b2i_f] at hv
                refine skip (best_s hb (Or.inl (fun hc => by have := hc.1; rw [wPj, a4] at this; cases this))) ?_
                simp (disch := first | exact h60 | omega | with_unfolding_all exact h60) only [show pI none = -1 from rfl, show pI (some z) = nI z from rfl, L_X8_walk_58, h7, eq_false hnl, k9, eq_false a1, eq_true l0, eq_false z0, kz, eq_false c, ↓bd_of hv, ↓bb_e, ↓c_sI, ↓o_sI, ↓a_sI, ↓c_sL, ↓o_sL, ↓a_sL, ↓c_rI, ↓o_rI, ↓a_rI, ↓c_rL, ↓o_rL, ↓a_rL, ↓c_rngI, ↓o_rngI, ↓a_rngI, ↓c_rngL, ↓o_rngL, ↓a_rngL, ↓bd_s, ↓cs_s, ↓cs_n, ↓gd_t, ↓gB0, ↓gB1, ↓gOT, ↓gAS, ↓gOY, ↓gAY, ↓reduceIte, d10, nI_clamp, nI_1', i0eq, ↓gO33 h60, ↓gA34 h60, ↓gA35 h60, ↓gA36 h60, ↓gA37 h60, ↓gA38 h60, ↓gA39 h60, ↓gA40 h60, ↓gA41 h60, ↓gA42 h60, ↓gA43 h60, ↓gA44 h60, ↓gA45 h60, ↓gA46 h60, ↓gA47 h60, ↓gA48 h60, ↓gA49 h60, ↓gA50 h60, ↓gA51 h60, ↓gA52 h60, ↓gA53 h60, ↓gA54 h60, ↓gA55 h60, ↓gA56 h60, ↓gA57 h60, ↓gA58 h60, ↓gA59 h60, ↓cM_4 hRM, ↓cM_5 hRM, ↓cM_6 hRM, ↓cM_8 hRM, ↓cM_9 hRM, ↓cM_10 hRM, ↓cM_11 hRM, ↓cM_12 hRM, ↓cM_13 hRM, ↓cM_14 hRM, ↓cM_15 hRM, ↓cM_16 hRM, ↓cM_17 hRM, ↓cM_18 hRM, ↓cM_19 hRM, ↓cM_20 hRM, ↓cM_21 hRM, ↓cM_23 hRM, ↓cM_24 hRM, ↓cM_25 hRM, ↓cM_26 hRM, ↓cM_27 hRM, ↓cM_28 hRM, ↓cM_29 hRM, ↓cM_30 hRM, ↓cM_32 hRM, ↓bno8, ↓brf8]
        | some y =>
          have hy := hl y rfl
          have ky := (hT.1 y hy).2.2.2.2.2.2.2.2.1
          have l0 : ¬ nI y < 0 := nI_pos (by omega)
          have l1 : ¬ aI A 46 j ≤ aI A 46 y := by have := hlast y rfl; rw [i_le]; omega
          cases b with
          | none =>
            have b0 : (-1 : Int32) < 0 := by decide
            cases a4 : seen A p d' (line A j) with
            | true =>
              rw [a4, b2i_t] at hv
              refine take (best_n hb ⟨by rw [wPj, a4], hlast⟩ (fun y h => by cases h)) ?_
              simp (disch := first | exact h60 | omega | with_unfolding_all exact h60) only [show pI (some y) = nI y from rfl, show pI none = -1 from rfl, L_X8_walk_58, h7, eq_false hnl, k9, eq_false a1, eq_false l0, eq_false l1, ky, eq_true b0, ↓bd_of hv, ↓bb_e, ↓c_sI, ↓o_sI, ↓a_sI, ↓c_sL, ↓o_sL, ↓a_sL, ↓c_rI, ↓o_rI, ↓a_rI, ↓c_rL, ↓o_rL, ↓a_rL, ↓c_rngI, ↓o_rngI, ↓a_rngI, ↓c_rngL, ↓o_rngL, ↓a_rngL, ↓bd_s, ↓cs_s, ↓cs_n, ↓gd_t, ↓gB0, ↓gB1, ↓gOT, ↓gAS, ↓gOY, ↓gAY, ↓reduceIte, d10, nI_clamp, nI_1', i0eq, ↓gO33 h60, ↓gA34 h60, ↓gA35 h60, ↓gA36 h60, ↓gA37 h60, ↓gA38 h60, ↓gA39 h60, ↓gA40 h60, ↓gA41 h60, ↓gA42 h60, ↓gA43 h60, ↓gA44 h60, ↓gA45 h60, ↓gA46 h60, ↓gA47 h60, ↓gA48 h60, ↓gA49 h60, ↓gA50 h60, ↓gA51 h60, ↓gA52 h60, ↓gA53 h60, ↓gA54 h60, ↓gA55 h60, ↓gA56 h60, ↓gA57 h60, ↓gA58 h60, ↓gA59 h60, ↓cM_4 hRM, ↓cM_5 hRM, ↓cM_6 hRM, ↓cM_8 hRM, ↓cM_9 hRM, ↓cM_10 hRM, ↓cM_11 hRM, ↓cM_12 hRM, ↓cM_13 hRM, ↓cM_14 hRM, ↓cM_15 hRM, ↓cM_16 hRM, ↓cM_17 hRM, ↓cM_18 hRM, ↓cM_19 hRM, ↓cM_20 hRM, ↓cM_21 hRM, ↓cM_23 hRM, ↓cM_24 hRM, ↓cM_25 hRM, ↓cM_26 hRM, ↓cM_27 hRM, ↓cM_28 hRM, ↓cM_29 hRM, ↓cM_30 hRM, ↓cM_32 hRM, ↓bno8, ↓brf8]
            | false =>
              rw [a4, b2i_f] at hv
              refine skip (best_s hb (Or.inl (fun hc => by have := hc.1; rw [wPj, a4] at this; cases this))) ?_
              simp (disch := first | exact h60 | omega | with_unfolding_all exact h60) only [show pI (some y) = nI y from rfl, show pI none = -1 from rfl, L_X8_walk_58, h7, eq_false hnl, k9, eq_false a1, eq_false l0, eq_false l1, ky, eq_true b0, ↓bd_of hv, ↓bb_e, ↓c_sI, ↓o_sI, ↓a_sI, ↓c_sL, ↓o_sL, ↓a_sL, ↓c_rI, ↓o_rI, ↓a_rI, ↓c_rL, ↓o_rL, ↓a_rL, ↓c_rngI, ↓o_rngI, ↓a_rngI, ↓c_rngL, ↓o_rngL, ↓a_rngL, ↓bd_s, ↓cs_s, ↓cs_n, ↓gd_t, ↓gB0, ↓gB1, ↓gOT, ↓gAS, ↓gOY, ↓gAY, ↓reduceIte, d10, nI_clamp, nI_1', i0eq, ↓gO33 h60, ↓gA34 h60, ↓gA35 h60, ↓gA36 h60, ↓gA37 h60, ↓gA38 h60, ↓gA39 h60, ↓gA40 h60, ↓gA41 h60, ↓gA42 h60, ↓gA43 h60, ↓gA44 h60, ↓gA45 h60, ↓gA46 h60, ↓gA47 h60, ↓gA48 h60, ↓gA49 h60, ↓gA50 h60, ↓gA51 h60, ↓gA52 h60, ↓gA53 h60, ↓gA54 h60, ↓gA55 h60, ↓gA56 h60, ↓gA57 h60, ↓gA58 h60, ↓gA59 h60, ↓cM_4 hRM, ↓cM_5 hRM, ↓cM_6 hRM, ↓cM_8 hRM, ↓cM_9 hRM, ↓cM_10 hRM, ↓cM_11 hRM, ↓cM_12 hRM, ↓cM_13 hRM, ↓cM_14 hRM, ↓cM_15 hRM, ↓cM_16 hRM, ↓cM_17 hRM, ↓cM_18 hRM, ↓cM_19 hRM, ↓cM_20 hRM, ↓cM_21 hRM, ↓cM_23 hRM, ↓cM_24 hRM, ↓cM_25 hRM, ↓cM_26 hRM, ↓cM_27 hRM, ↓cM_28 hRM, ↓cM_29 hRM, ↓cM_30 hRM, ↓cM_32 hRM, ↓bno8, ↓brf8]
          | some z =>
            have hz := hby z rfl
            have kz := (hT.1 z hz).2.2.2.2.2.2.2.2.1
            have z0 : ¬ nI z < 0 := nI_pos (by omega)
            by_cases c : aI A 46 z ≤ aI A 46 j
            · refine skip (best_s hb (Or.inr ⟨z, rfl, by rw [i_le] at c; exact c⟩)) ?_
              simp (disch := first | exact h60 | omega | with_unfolding_all exact h60) only [show pI (some y) = nI y from rfl, show pI (some z) = nI z from rfl, L_X8_walk_58, h7, eq_false hnl, k9, eq_false a1, eq_false l0, eq_false l1, ky, eq_false z0, kz, eq_true c, ↓bb_e, ↓c_sI, ↓o_sI, ↓a_sI, ↓c_sL, ↓o_sL, ↓a_sL, ↓c_rI, ↓o_rI, ↓a_rI, ↓c_rL, ↓o_rL, ↓a_rL, ↓c_rngI, ↓o_rngI, ↓a_rngI, ↓c_rngL, ↓o_rngL, ↓a_rngL, ↓bd_s, ↓cs_s, ↓cs_n, ↓gd_t, ↓gB0, ↓gB1, ↓gOT, ↓gAS, ↓gOY, ↓gAY, ↓reduceIte, d10, nI_clamp, nI_1', i0eq, ↓gO33 h60, ↓gA34 h60, ↓gA35 h60, ↓gA36 h60, ↓gA37 h60, ↓gA38 h60, ↓gA39 h60, ↓gA40 h60, ↓gA41 h60, ↓gA42 h60, ↓gA43 h60, ↓gA44 h60, ↓gA45 h60, ↓gA46 h60, ↓gA47 h60, ↓gA48 h60, ↓gA49 h60, ↓gA50 h60, ↓gA51 h60, ↓gA52 h60, ↓gA53 h60, ↓gA54 h60, ↓gA55 h60, ↓gA56 h60, ↓gA57 h60, ↓gA58 h60, ↓gA59 h60, ↓cM_4 hRM, ↓cM_5 hRM, ↓cM_6 hRM, ↓cM_8 hRM, ↓cM_9 hRM, ↓cM_10 hRM, ↓cM_11 hRM, ↓cM_12 hRM, ↓cM_13 hRM, ↓cM_14 hRM, ↓cM_15 hRM, ↓cM_16 hRM, ↓cM_17 hRM, ↓cM_18 hRM, ↓cM_19 hRM, ↓cM_20 hRM, ↓cM_21 hRM, ↓cM_23 hRM, ↓cM_24 hRM, ↓cM_25 hRM, ↓cM_26 hRM, ↓cM_27 hRM, ↓cM_28 hRM, ↓cM_29 hRM, ↓cM_30 hRM, ↓cM_32 hRM, ↓bno8, ↓brf8]
            · have c' : (aI A 46 j).toInt < (aI A 46 z).toInt := by rw [i_le] at c; omega
              cases a4 : seen A p d' (line A j) with
              | true =>
                rw [a4, b2i_t] at hv
                refine take (best_n hb ⟨by rw [wPj, a4], hlast⟩ (fun y h => by cases h; exact c')) ?_
                simp (disch := first | exact h60 | omega | with_unfolding_all exact h60) only [show pI (some y) = nI y from rfl, show pI (some z) = nI z from rfl, L_X8_walk_58, h7, eq_false hnl, k9, eq_false a1, eq_false l0, eq_false l1, ky, eq_false z0, kz, eq_false c, ↓bd_of hv, ↓bb_e, ↓c_sI, ↓o_sI, ↓a_sI, ↓c_sL, ↓o_sL, ↓a_sL, ↓c_rI, ↓o_rI, ↓a_rI, ↓c_rL, ↓o_rL, ↓a_rL, ↓c_rngI, ↓o_rngI, ↓a_rngI, ↓c_rngL, ↓o_rngL, ↓a_rngL, ↓bd_s, ↓cs_s, ↓cs_n, ↓gd_t, ↓gB0, ↓gB1, ↓gOT, ↓gAS, ↓gOY, ↓gAY, ↓reduceIte, d10, nI_clamp, nI_1', i0eq, ↓gO33 h60, ↓gA34 h60, ↓gA35 h60, ↓gA36 h60, ↓gA37 h60, ↓gA38 h60, ↓gA39 h60, ↓gA40 h60, ↓gA41 h60, ↓gA42 h60, ↓gA43 h60, ↓gA44 h60, ↓gA45 h60, ↓gA46 h60, ↓gA47 h60, ↓gA48 h60, ↓gA49 h60, ↓gA50 h60, ↓gA51 h60, ↓gA52 h60, ↓gA53 h60, ↓gA54 h60, ↓gA55 h60, ↓gA56 h60, ↓gA57 h60, ↓gA58 h60, ↓gA59 h60, ↓cM_4 hRM, ↓cM_5 hRM, ↓cM_6 hRM, ↓cM_8 hRM, ↓cM_9 hRM, ↓cM_10 hRM, ↓cM_11 hRM, ↓cM_12 hRM, ↓cM_13 hRM, ↓cM_14 hRM, ↓cM_15 hRM, ↓cM_16 hRM, ↓cM_17 hRM, ↓cM_18 hRM, ↓cM_19 hRM, ↓cM_20 hRM, ↓cM_21 hRM, ↓cM_23 hRM, ↓cM_24 hRM, ↓cM_25 hRM, ↓cM_26 hRM, ↓cM_27 hRM, ↓cM_28 hRM, ↓cM_29 hRM, ↓cM_30 hRM, ↓cM_32 hRM, ↓bno8, ↓brf8]
              | false =>
                rw [a4, b2i_f] at hv
                refine skip (best_s hb (Or.inl (fun hc => by have := hc.1; rw [wPj, a4] at this; cases this))) ?_
                simp (disch := first | exact h60 | omega | with_unfolding_all exact h60) only [show pI (some y) = nI y from rfl, show pI (some z) = nI z from rfl, L_X8_walk_58, h7, eq_false hnl, k9, eq_false a1, eq_false l0, eq_false l1, ky, eq_false z0, kz, eq_false c, ↓bd_of hv, ↓bb_e, ↓c_sI, ↓o_sI, ↓a_sI, ↓c_sL, ↓o_sL, ↓a_sL, ↓c_rI, ↓o_rI, ↓a_rI, ↓c_rL, ↓o_rL, ↓a_rL, ↓c_rngI, ↓o_rngI, ↓a_rngI, ↓c_rngL, ↓o_rngL, ↓a_rngL, ↓bd_s, ↓cs_s, ↓cs_n, ↓gd_t, ↓gB0, ↓gB1, ↓gOT, ↓gAS, ↓gOY, ↓gAY, ↓reduceIte, d10, nI_clamp, nI_1', i0eq, ↓gO33 h60, ↓gA34 h60, ↓gA35 h60, ↓gA36 h60, ↓gA37 h60, ↓gA38 h60, ↓gA39 h60, ↓gA40 h60, ↓gA41 h60, ↓gA42 h60, ↓gA43 h60, ↓gA44 h60, ↓gA45 h60, ↓gA46 h60, ↓gA47 h60, ↓gA48 h60, ↓gA49 h60, ↓gA50 h60, ↓gA51 h60, ↓gA52 h60, ↓gA53 h60, ↓gA54 h60, ↓gA55 h60, ↓gA56 h60, ↓gA57 h60, ↓gA58 h60, ↓gA59 h60, ↓cM_4 hRM, ↓cM_5 hRM, ↓cM_6 hRM, ↓cM_8 hRM, ↓cM_9 hRM, ↓cM_10 hRM, ↓cM_11 hRM, ↓cM_12 hRM, ↓cM_13 hRM, ↓cM_14 hRM, ↓cM_15 hRM, ↓cM_16 hRM, ↓cM_17 hRM, ↓cM_18 hRM, ↓cM_19 hRM, ↓cM_20 hRM, ↓cM_21 hRM, ↓cM_23 hRM, ↓cM_24 hRM, ↓cM_25 hRM, ↓cM_26 hRM, ↓cM_27 hRM, ↓cM_28 hRM, ↓cM_29 hRM, ↓cM_30 hRM, ↓cM_32 hRM, ↓bno8, ↓brf8]
      · have ky := (hT.1 y hy).2.2.2.2.2.2.2.2.1
        have l0 : ¬ nI y < 0 := nI_pos (by omega)
        have l1 : aI A 46 j ≤ aI A 46 y := by rw [i_le]; omega
        refine skip (best_s hb (Or.inl (fun hc => hny (hc.2 y rfl)))) ?_
        rw [show pI (some y) = nI y from rfl]
        simp (disch := first | exact h60 | omega | with_unfolding_all exact h60) only [L_X8_walk_58, h7, eq_false hnl, k9, ky, eq_false a1, eq_false l0, eq_true l1, ↓bb_e, ↓c_sI, ↓o_sI, ↓a_sI, ↓c_sL, ↓o_sL, ↓a_sL, ↓c_rI, ↓o_rI, ↓a_rI, ↓c_rL, ↓o_rL, ↓a_rL, ↓c_rngI, ↓o_rngI, ↓a_rngI, ↓c_rngL, ↓o_rngL, ↓a_rngL, ↓bd_s, ↓cs_s, ↓cs_n, ↓gd_t, ↓gB0, ↓gB1, ↓gOT, ↓gAS, ↓gOY, ↓gAY, ↓reduceIte, d10, nI_clamp, nI_1', i0eq, ↓gO33 h60, ↓gA34 h60, ↓gA35 h60, ↓gA36 h60, ↓gA37 h60, ↓gA38 h60, ↓gA39 h60, ↓gA40 h60, ↓gA41 h60, ↓gA42 h60, ↓gA43 h60, ↓gA44 h60, ↓gA45 h60, ↓gA46 h60, ↓gA47 h60, ↓gA48 h60, ↓gA49 h60, ↓gA50 h60, ↓gA51 h60, ↓gA52 h60, ↓gA53 h60, ↓gA54 h60, ↓gA55 h60, ↓gA56 h60, ↓gA57 h60, ↓gA58 h60, ↓gA59 h60, ↓cM_4 hRM, ↓cM_5 hRM, ↓cM_6 hRM, ↓cM_8 hRM, ↓cM_9 hRM, ↓cM_10 hRM, ↓cM_11 hRM, ↓cM_12 hRM, ↓cM_13 hRM, ↓cM_14 hRM, ↓cM_15 hRM, ↓cM_16 hRM, ↓cM_17 hRM, ↓cM_18 hRM, ↓cM_19 hRM, ↓cM_20 hRM, ↓cM_21 hRM, ↓cM_23 hRM, ↓cM_24 hRM, ↓cM_25 hRM, ↓cM_26 hRM, ↓cM_27 hRM, ↓cM_28 hRM, ↓cM_29 hRM, ↓cM_30 hRM, ↓cM_32 hRM, ↓bno8, ↓brf8]
/-- the model's rounds -/
def lst (g : Nat → Nat) : Nat → Option Nat
  | 0 => none
  | a + 1 => some (g a)
theorem best_arr {A : Ab} {p d : Int32} {m : Nat} {g : Nat → Nat} (ha : Arr A p d (an A) m g) {a : Nat} (h : a ≤ m) {b : Option Nat} (hb : best A p d (lst g a) (an A) b) : b = if a < m then some (g a) else none := by
  obtain ⟨a1, a2, a3, a4⟩ := ha
  have low : ∀ i, a ≤ i → i < m → cand A p d (lst g a) (g i) := fun i h1 h2 => by
    refine ⟨(a2 i h2).2, fun y hy => ?_⟩
    cases a with
    | zero => cases hy
    | succ a => cases hy; exact a3 a i (by omega) h2
  have up : ∀ x, x < an A → cand A p d (lst g a) x → ∃ i, a ≤ i ∧ i < m ∧ g i = x := fun x hx hc => by
    obtain ⟨i, hi, e⟩ := a4 x hx hc.1
    refine ⟨i, ?_, hi, e⟩
    cases a with
    | zero => omega
    | succ a =>
      have := hc.2 (g a) rfl
      rw [← e] at this
      by_cases c : i ≤ a
      · by_cases c2 : i = a
        · subst c2; omega
        · have := a3 i a (by omega) (by omega); omega
      · omega
  cases b with
  | none =>
    rw [if_neg]
    intro c
    exact hb (g a) (a2 a c).1 (low a (Nat.le_refl _) c)
  | some y =>
    obtain ⟨b1, b2, b3⟩ := hb
    obtain ⟨i, i1, i2, e⟩ := up y b1 b2
    have c : a < m := by omega
    rw [if_pos c]
    have := b3 (g a) (a2 a c).1 (low a (Nat.le_refl _) c)
    by_cases c2 : i = a
    · rw [← e, c2]
    · have := a3 a i (by omega) i2
      rw [e] at this
      omega
theorem wk_out {w : Mm} {A : Ab} (hW : Wf A) (hM : MR w A) {p d' : Int32} {P m : Nat} (hP : P < 2 ^ 31) {g : Nat → Nat} (ha : Arr A p d' (an A) m g) {k : Int32 → Int32 → Option (Int32 × Mm)} : ∀ (e n a : Nat), a + e = m → a ≤ P + 1 → e + 1 < n → L_X8_walk_46 33 (nI P) p d' w k n (pI (lst g a)) (nI a) = if P < m then k (nI (g P)) (nI (P + 1)) else some (-1, sI w 33 0 9) := by
  have h80 := hW.1.1
  have hm : m ≤ an A := ha.1
  obtain ⟨hRM, h60, -⟩ := id hM
  intro e
  induction e with
  | zero =>
    intro n a h1 h2 h3
    obtain ⟨n, rfl⟩ : ∃ b, n = b + 1 := ⟨n - 1, by omega⟩
    rw [L_X8_walk_46]
    by_cases c : P < a
    · rw [if_pos (nI_lt c (by omega)), if_pos (by omega)]
      have : a = P + 1 := by omega
      subst this
      rfl
    · rw [if_neg (nI_nlt (by omega) (by omega)), if_neg (by omega)]
      obtain ⟨b, q1, q2⟩ := wk_in hW hM (p := p) (d' := d') (q := nI P) (c5 := nI a) (l := lst g a) (fun y hy => by
        cases a with
        | zero => cases hy
        | succ a => cases hy; exact (ha.2.1 a (by omega)).1) (k := fun a59 a60 => (if 0 ≤ a59 then bb (nI a + (1)) (fun v62 => L_X8_walk_46 33 (nI P) p d' w k n a59 v62) else gd (okO w 33 8) (bd (f_X8_refuse 33 9 w) (fun w64 => some (w64.1, w64.2))))) (an A) 1000 0 none (by omega) (by omega) (fun x hx => by omega)
      have hb := best_arr ha (by omega) q1
      rw [if_neg (by omega)] at hb
      subst hb
      rw [nI_0] at q2
      refine q2.trans ?_
      rw [if_neg (by decide), oO33 h60, gd_t, rf8 h60, bd_s]
  | succ e ih =>
    intro n a h1 h2 h3
    obtain ⟨n, rfl⟩ : ∃ b, n = b + 1 := ⟨n - 1, by omega⟩
    rw [L_X8_walk_46]
    by_cases c : P < a
    · rw [if_pos (nI_lt c (by omega)), if_pos (by omega)]
      have : a = P + 1 := by omega
      subst this
      rfl
    · rw [if_neg (nI_nlt (by omega) (by omega))]
      obtain ⟨b, q1, q2⟩ := wk_in hW hM (p := p) (d' := d') (q := nI P) (c5 := nI a) (l := lst g a) (fun y hy => by
        cases a with
        | zero => cases hy
        | succ a => cases hy; exact (ha.2.1 a (by omega)).1) (k := fun a59 a60 => (if 0 ≤ a59 then bb (nI a + (1)) (fun v62 => L_X8_walk_46 33 (nI P) p d' w k n a59 v62) else gd (okO w 33 8) (bd (f_X8_refuse 33 9 w) (fun w64 => some (w64.1, w64.2))))) (an A) 1000 0 none (by omega) (by omega) (fun x hx => by omega)
      have hb := best_arr ha (by omega) q1
      rw [if_pos (by omega)] at hb
      subst hb
      have hga := (ha.2.1 a (by omega)).1
      rw [nI_0] at q2
      refine q2.trans ?_
      rw [show pI (some (g a)) = nI (g a) from rfl, if_pos (nI_pos' (by omega)), bb_e, nI_1']
      exact ih n (a + 1) (by omega) (by omega) (by omega)
theorem Arr_st {A : Ab} {c p d : Int32} {j m : Nat} {g : Nat → Nat} (h : Arr A p d j m g) : Arr (st A c) p d j m g := by
  have e : wP (st A c) p d = wP A p d := by
    funext x
    unfold wP
    rw [aI_st (by omega), line_st, seen_st]
  unfold Arr at h ⊢
  simp only [e, aI_st (show 46 ≠ 33 by omega)]
  exact h
-- WALK
theorem P_walk {u : Mm} (hI : Inv u) (p1 p2 p3 : Int32) : Pq (f_X7_walk 0 p1 p2 p3) (f_X8_walk 33 p1 p2 p3) u := by
  obtain ⟨A, hW, hC, hM⟩ := hI
  obtain ⟨hRC, hN, hS, hF, hT, hPc, hY, hLg, hSh⟩ := id hC
  obtain ⟨hRM, h60, h7, hMs, hMf, hMt, hMy, hMl⟩ := id hM
  have h80 : an A ≤ 80 := hW.1.1
  have hn := hN.1
  have model : ∀ (v : Mm), MR v A → ∀ (c : Int32), ((¬ (0 ≤ p2.toInt ∧ p2.toInt < 16) ∧ c = 2) ∨ ((0 ≤ p2.toInt ∧ p2.toInt < 16) ∧ ¬ (0 ≤ p1.toInt ∧ 0 ≤ p3.toInt ∧ p3.toInt ≤ 300000) ∧ c = 5)) → f_X8_walk 33 p1 p2 p3 v = some (-1, sI (m0 v) 33 0 c) := fun v hM c h => by
    rw [f_X8_walk, oO33 hM.2.1, gd_t]
    have hM' := MR_m0 hM
    unfold m0 at hM' ⊢
    generalize sI (sI v 33 1 0) 33 0 0 = w at *
    clear h60 hRM
    obtain ⟨hRM, h60, -⟩ := hM'
    rcases h with ⟨a1, rfl⟩ | ⟨a1, a2, rfl⟩
    · simp (disch := first | exact h60 | omega | with_unfolding_all exact h60) only [↓bd_of (mP_f w a1), ↓bb_e, ↓c_sI, ↓o_sI, ↓a_sI, ↓c_sL, ↓o_sL, ↓a_sL, ↓c_rI, ↓o_rI, ↓a_rI, ↓c_rL, ↓o_rL, ↓a_rL, ↓c_rngI, ↓o_rngI, ↓a_rngI, ↓c_rngL, ↓o_rngL, ↓a_rngL, ↓bd_s, ↓cs_s, ↓cs_n, ↓gd_t, ↓gB0, ↓gB1, ↓gOT, ↓gAS, ↓gOY, ↓gAY, ↓reduceIte, d10, nI_clamp, nI_1', i0eq, ↓gO33 h60, ↓gA34 h60, ↓gA35 h60, ↓gA36 h60, ↓gA37 h60, ↓gA38 h60, ↓gA39 h60, ↓gA40 h60, ↓gA41 h60, ↓gA42 h60, ↓gA43 h60, ↓gA44 h60, ↓gA45 h60, ↓gA46 h60, ↓gA47 h60, ↓gA48 h60, ↓gA49 h60, ↓gA50 h60, ↓gA51 h60, ↓gA52 h60, ↓gA53 h60, ↓gA54 h60, ↓gA55 h60, ↓gA56 h60, ↓gA57 h60, ↓gA58 h60, ↓gA59 h60, ↓cM_4 hRM, ↓cM_5 hRM, ↓cM_6 hRM, ↓cM_8 hRM, ↓cM_9 hRM, ↓cM_10 hRM, ↓cM_11 hRM, ↓cM_12 hRM, ↓cM_13 hRM, ↓cM_14 hRM, ↓cM_15 hRM, ↓cM_16 hRM, ↓cM_17 hRM, ↓cM_18 hRM, ↓cM_19 hRM, ↓cM_20 hRM, ↓cM_21 hRM, ↓cM_23 hRM, ↓cM_24 hRM, ↓cM_25 hRM, ↓cM_26 hRM, ↓cM_27 hRM, ↓cM_28 hRM, ↓cM_29 hRM, ↓cM_30 hRM, ↓cM_32 hRM, ↓bno8, ↓brf8]
    · by_cases b1 : p1 < 0
      · simp (disch := first | exact h60 | omega | with_unfolding_all exact h60) only [↓bd_of (mP_t w a1), eq_true b1, ↓bb_e, ↓c_sI, ↓o_sI, ↓a_sI, ↓c_sL, ↓o_sL, ↓a_sL, ↓c_rI, ↓o_rI, ↓a_rI, ↓c_rL, ↓o_rL, ↓a_rL, ↓c_rngI, ↓o_rngI, ↓a_rngI, ↓c_rngL, ↓o_rngL, ↓a_rngL, ↓bd_s, ↓cs_s, ↓cs_n, ↓gd_t, ↓gB0, ↓gB1, ↓gOT, ↓gAS, ↓gOY, ↓gAY, ↓reduceIte, d10, nI_clamp, nI_1', i0eq, ↓gO33 h60, ↓gA34 h60, ↓gA35 h60, ↓gA36 h60, ↓gA37 h60, ↓gA38 h60, ↓gA39 h60, ↓gA40 h60, ↓gA41 h60, ↓gA42 h60, ↓gA43 h60, ↓gA44 h60, ↓gA45 h60, ↓gA46 h60, ↓gA47 h60, ↓gA48 h60, ↓gA49 h60, ↓gA50 h60, ↓gA51 h60, ↓gA52 h60, ↓gA53 h60, ↓gA54 h60, ↓gA55 h60, ↓gA56 h60, ↓gA57 h60, ↓gA58 h60, ↓gA59 h60, ↓cM_4 hRM, ↓cM_5 hRM, ↓cM_6 hRM, ↓cM_8 hRM, ↓cM_9 hRM, ↓cM_10 hRM, ↓cM_11 hRM, ↓cM_12 hRM, ↓cM_13 hRM, ↓cM_14 hRM, ↓cM_15 hRM, ↓cM_16 hRM, ↓cM_17 hRM, ↓cM_18 hRM, ↓cM_19 hRM, ↓cM_20 hRM, ↓cM_21 hRM, ↓cM_23 hRM, ↓cM_24 hRM, ↓cM_25 hRM, ↓cM_26 hRM, ↓cM_27 hRM, ↓cM_28 hRM, ↓cM_29 hRM, ↓cM_30 hRM, ↓cM_32 hRM, ↓bno8, ↓brf8]
      · have b2 : ¬ (0 ≤ p3.toInt ∧ p3.toInt ≤ 300000) := fun q => a2 ⟨by rw [i_lt, li_0] at b1; omega, q⟩
        simp (disch := first | exact h60 | omega | with_unfolding_all exact h60) only [↓bd_of (mP_t w a1), eq_false b1, ↓bd_of (mD_f w b2), ↓bb_e, ↓c_sI, ↓o_sI, ↓a_sI, ↓c_sL, ↓o_sL, ↓a_sL, ↓c_rI, ↓o_rI, ↓a_rI, ↓c_rL, ↓o_rL, ↓a_rL, ↓c_rngI, ↓o_rngI, ↓a_rngI, ↓c_rngL, ↓o_rngL, ↓a_rngL, ↓bd_s, ↓cs_s, ↓cs_n, ↓gd_t, ↓gB0, ↓gB1, ↓gOT, ↓gAS, ↓gOY, ↓gAY, ↓reduceIte, d10, nI_clamp, nI_1', i0eq, ↓gO33 h60, ↓gA34 h60, ↓gA35 h60, ↓gA36 h60, ↓gA37 h60, ↓gA38 h60, ↓gA39 h60, ↓gA40 h60, ↓gA41 h60, ↓gA42 h60, ↓gA43 h60, ↓gA44 h60, ↓gA45 h60, ↓gA46 h60, ↓gA47 h60, ↓gA48 h60, ↓gA49 h60, ↓gA50 h60, ↓gA51 h60, ↓gA52 h60, ↓gA53 h60, ↓gA54 h60, ↓gA55 h60, ↓gA56 h60, ↓gA57 h60, ↓gA58 h60, ↓gA59 h60, ↓cM_4 hRM, ↓cM_5 hRM, ↓cM_6 hRM, ↓cM_8 hRM, ↓cM_9 hRM, ↓cM_10 hRM, ↓cM_11 hRM, ↓cM_12 hRM, ↓cM_13 hRM, ↓cM_14 hRM, ↓cM_15 hRM, ↓cM_16 hRM, ↓cM_17 hRM, ↓cM_18 hRM, ↓cM_19 hRM, ↓cM_20 hRM, ↓cM_21 hRM, ↓cM_23 hRM, ↓cM_24 hRM, ↓cM_25 hRM, ↓cM_26 hRM, ↓cM_27 hRM, ↓cM_28 hRM, ↓cM_29 hRM, ↓cM_30 hRM, ↓cM_32 hRM, ↓bno8, ↓brf8]
  by_cases a1 : 0 ≤ p2.toInt ∧ p2.toInt < 16
  · by_cases a2 : 0 ≤ p1.toInt ∧ 0 ≤ p3.toInt ∧ p3.toInt ≤ 300000
    · obtain ⟨P, e1, e2, hP⟩ := i_ex a2.1
      subst e1
      obtain ⟨v, m, g, s, ar, r, e⟩ := lum_l hW hC (p := p2) (d' := p3) (k := fun a17 a18 u19 => some (a17, u19)) (an A) 1000 0 0 (fun _ => 0) u (by omega) (by omega) scr.rf ⟨by omega, fun i hi => by omega, fun i i' _ h => by omega, fun x hx => by omega⟩ (fun i hi => by omega)
      have e' : f_X0_lineUpByMark 2 p2 p3 u = some (nI m, v) := e
      have hC' := hC.scr s
      have am := ar.1
      have b1 : ¬ nI P < 0 := nI_pos hP
      have g60 : 60 ≤ v.1 := by rw [s.1]; exact h60
      have gRC := hC'.1
      have mod : ∀ c : Int32, ∀ k, (k = fun a65 a66 => some (a65, m0 (sI v 0 5 c))) → L_X8_walk_46 33 (nI P) p2 p3 (m0 (sI v 0 5 c)) k 1000 (-1) 0 = if P < m then k (nI (g P)) (nI (P + 1)) else some (-1, sI (m0 (sI v 0 5 c)) 33 0 9) := fun c k hk => by
        have hM1 : MR (sI v 0 5 c) A := hM.keep (s.keepM.sI (by omega))
        exact wk_out (Wf_st 0 hW) (MR_m0 hM1) hP (Arr_st ar) m 1000 0 (by omega) (by omega) (by omega)
      have modR : ∀ c : Int32, f_X8_walk 33 (nI P) p2 p3 (sI v 0 5 c) = if P < m then some (nI (g P), m0 (sI v 0 5 c)) else some (-1, sI (m0 (sI v 0 5 c)) 33 0 9) := fun c => by
        have hM1 : MR (sI v 0 5 c) A := hM.keep (s.keepM.sI (by omega))
        have m1 := mod c _ rfl
        rw [f_X8_walk, oO33 hM1.2.1, gd_t]
        have hM' := MR_m0 hM1
        unfold m0 at hM' m1 ⊢
        generalize sI (sI (sI v 0 5 c) 33 1 0) 33 0 0 = w at *
        clear h60 hRM
        obtain ⟨hRM, h60, -⟩ := hM'
        simp (disch := first | exact h60 | omega | with_unfolding_all exact h60) only [↓bd_of (mP_t w a1), eq_false b1, ↓bd_of (mD_t w a2.2), ↓m1, ↓bb_e, ↓c_sI, ↓o_sI, ↓a_sI, ↓c_sL, ↓o_sL, ↓a_sL, ↓c_rI, ↓o_rI, ↓a_rI, ↓c_rL, ↓o_rL, ↓a_rL, ↓c_rngI, ↓o_rngI, ↓a_rngI, ↓c_rngL, ↓o_rngL, ↓a_rngL, ↓bd_s, ↓cs_s, ↓cs_n, ↓gd_t, ↓gB0, ↓gB1, ↓gOT, ↓gAS, ↓gOY, ↓gAY, ↓reduceIte, d10, nI_clamp, nI_1', i0eq, ↓gO33 h60, ↓gA34 h60, ↓gA35 h60, ↓gA36 h60, ↓gA37 h60, ↓gA38 h60, ↓gA39 h60, ↓gA40 h60, ↓gA41 h60, ↓gA42 h60, ↓gA43 h60, ↓gA44 h60, ↓gA45 h60, ↓gA46 h60, ↓gA47 h60, ↓gA48 h60, ↓gA49 h60, ↓gA50 h60, ↓gA51 h60, ↓gA52 h60, ↓gA53 h60, ↓gA54 h60, ↓gA55 h60, ↓gA56 h60, ↓gA57 h60, ↓gA58 h60, ↓gA59 h60, ↓cM_4 hRM, ↓cM_5 hRM, ↓cM_6 hRM, ↓cM_8 hRM, ↓cM_9 hRM, ↓cM_10 hRM, ↓cM_11 hRM, ↓cM_12 hRM, ↓cM_13 hRM, ↓cM_14 hRM, ↓cM_15 hRM, ↓cM_16 hRM, ↓cM_17 hRM, ↓cM_18 hRM, ↓cM_19 hRM, ↓cM_20 hRM, ↓cM_21 hRM, ↓cM_23 hRM, ↓cM_24 hRM, ↓cM_25 hRM, ↓cM_26 hRM, ↓cM_27 hRM, ↓cM_28 hRM, ↓cM_29 hRM, ↓cM_30 hRM, ↓cM_32 hRM, ↓bno8, ↓brf8]
      by_cases c : P < m
      · have hgP := (ar.2.1 P c).1
        have rP := r P c
        have tP := (hC'.2.2.2.2.1 (g P) hgP).2.1
        have nle : ¬ nI m ≤ nI P := nI_ge c (by omega)
        have vn : v.1 = 60 + 2 * an A := by rw [s.1]; exact hn
        have hm := modR 0
        rw [if_pos c] at hm
        refine leaf_ok (A' := A) (nI (g P)) ?_ hm hW hC' (MR_m0 (hM.keep (s.keepM.sI (by omega)))) ((keepC.rf.sI (by omega)).sI (by omega))
        simp (disch := first | exact h60 | omega | with_unfolding_all exact h60) only [f_X7_walk, ↓bd_of (isP_t u a1), eq_false b1, ↓bd_of (isD_t u a2.2), ↓bd_of e', eq_false nle, ↓gO0 g60, ↓gO2 g60, ↓cC_0_1 gRC, ↓cC_2_2 gRC, ↓gA4 g60, ↓cs_of rP, tP, ↓ban7 g60, ↓bb_e, ↓c_sI, ↓o_sI, ↓a_sI, ↓c_sL, ↓o_sL, ↓a_sL, ↓c_rI, ↓o_rI, ↓a_rI, ↓c_rL, ↓o_rL, ↓a_rL, ↓c_rngI, ↓o_rngI, ↓a_rngI, ↓c_rngL, ↓o_rngL, ↓a_rngL, ↓bd_s, ↓cs_s, ↓cs_n, ↓gd_t, ↓gB0, ↓gB1, ↓gOT, ↓gAS, ↓gOY, ↓gAY, ↓reduceIte, d10, nI_clamp, nI_1', i0eq, ↓gO0 h60, ↓gO2 h60, ↓gO6 h60, ↓gO10 h60, ↓gO11 h60, ↓gO14 h60, ↓gO21 h60, ↓gA1 h60, ↓gA3 h60, ↓gA4 h60, ↓gA5 h60, ↓gA7 h60, ↓gA8 h60, ↓gA9 h60, ↓gA12 h60, ↓gA13 h60, ↓gA15 h60, ↓gA16 h60, ↓gA17 h60, ↓gA18 h60, ↓gA19 h60, ↓gA20 h60, ↓gA22 h60, ↓gA23 h60, ↓gA24 h60, ↓cC_0_0 hRC, ↓cC_0_1 hRC, ↓cC_0_2 hRC, ↓cC_0_3 hRC, ↓cC_0_4 hRC, ↓cC_2_0 hRC, ↓cC_2_2 hRC, ↓cC_2_3 hRC, ↓cC_6_0 hRC, ↓cC_6_1 hRC, ↓cC_6_2 hRC, ↓cC_10_0 hRC, ↓cC_10_1 hRC, ↓cC_10_2 hRC, ↓cC_10_3 hRC, ↓cC_10_4 hRC, ↓cC_10_5 hRC, ↓cC_11_0 hRC, ↓cC_11_1 hRC, ↓cC_14_0 hRC, ↓cC_14_1 hRC, ↓cC_21_0 hRC, ↓cC_21_1 hRC, ↓cC_21_2 hRC, ↓bdn7, ↓brf7, ↓bgr7, ↓ban7]
      · have nle : nI m ≤ nI P := nI_le (by omega) hP
        have hm := modR 9
        rw [if_neg c] at hm
        have hC7 : f_X7_walk 0 (nI P) p2 p3 u = some (-1, sI v 0 5 9) := by
          simp (disch := first | exact h60 | omega | with_unfolding_all exact h60) only [f_X7_walk, ↓bd_of (isP_t u a1), eq_false b1, ↓bd_of (isD_t u a2.2), ↓bd_of e', eq_true nle, ↓gO0 g60, ↓brf7 g60, ↓bb_e, ↓c_sI, ↓o_sI, ↓a_sI, ↓c_sL, ↓o_sL, ↓a_sL, ↓c_rI, ↓o_rI, ↓a_rI, ↓c_rL, ↓o_rL, ↓a_rL, ↓c_rngI, ↓o_rngI, ↓a_rngI, ↓c_rngL, ↓o_rngL, ↓a_rngL, ↓bd_s, ↓cs_s, ↓cs_n, ↓gd_t, ↓gB0, ↓gB1, ↓gOT, ↓gAS, ↓gOY, ↓gAY, ↓reduceIte, d10, nI_clamp, nI_1', i0eq, ↓gO0 h60, ↓gO2 h60, ↓gO6 h60, ↓gO10 h60, ↓gO11 h60, ↓gO14 h60, ↓gO21 h60, ↓gA1 h60, ↓gA3 h60, ↓gA4 h60, ↓gA5 h60, ↓gA7 h60, ↓gA8 h60, ↓gA9 h60, ↓gA12 h60, ↓gA13 h60, ↓gA15 h60, ↓gA16 h60, ↓gA17 h60, ↓gA18 h60, ↓gA19 h60, ↓gA20 h60, ↓gA22 h60, ↓gA23 h60, ↓gA24 h60, ↓cC_0_0 hRC, ↓cC_0_1 hRC, ↓cC_0_2 hRC, ↓cC_0_3 hRC, ↓cC_0_4 hRC, ↓cC_2_0 hRC, ↓cC_2_2 hRC, ↓cC_2_3 hRC, ↓cC_6_0 hRC, ↓cC_6_1 hRC, ↓cC_6_2 hRC, ↓cC_10_0 hRC, ↓cC_10_1 hRC, ↓cC_10_2 hRC, ↓cC_10_3 hRC, ↓cC_10_4 hRC, ↓cC_10_5 hRC, ↓cC_11_0 hRC, ↓cC_11_1 hRC, ↓cC_14_0 hRC, ↓cC_14_1 hRC, ↓cC_21_0 hRC, ↓cC_21_1 hRC, ↓cC_21_2 hRC, ↓bdn7, ↓brf7, ↓bgr7, ↓ban7]
        have hM1 : MR (sI v 0 5 9) A := hM.keep (s.keepM.sI (by omega))
        refine leaf (-1) _ _ (st A 9) hC7 hm (Wf_st 9 hW) (CR_st 9 hC') ?_ (((keepC.rf.sI (by omega)).sI (by omega)).sI (by omega))
        have := MR_st 9 (MR_m0 hM1)
        rw [st_st] at this
        exact this
    · refine leaf_st (A := A) (-1) 5 0 hW hC hM ?_ (model _ (hM.keep (keepM.rf.sI (by omega))) 5 (Or.inr ⟨a1, a2, rfl⟩))
      by_cases b1 : p1 < 0
      · simp (disch := first | exact h60 | omega | with_unfolding_all exact h60) only [f_X7_walk, ↓bd_of (isP_t u a1), eq_true b1, ↓bb_e, ↓c_sI, ↓o_sI, ↓a_sI, ↓c_sL, ↓o_sL, ↓a_sL, ↓c_rI, ↓o_rI, ↓a_rI, ↓c_rL, ↓o_rL, ↓a_rL, ↓c_rngI, ↓o_rngI, ↓a_rngI, ↓c_rngL, ↓o_rngL, ↓a_rngL, ↓bd_s, ↓cs_s, ↓cs_n, ↓gd_t, ↓gB0, ↓gB1, ↓gOT, ↓gAS, ↓gOY, ↓gAY, ↓reduceIte, d10, nI_clamp, nI_1', i0eq, ↓gO0 h60, ↓gO2 h60, ↓gO6 h60, ↓gO10 h60, ↓gO11 h60, ↓gO14 h60, ↓gO21 h60, ↓gA1 h60, ↓gA3 h60, ↓gA4 h60, ↓gA5 h60, ↓gA7 h60, ↓gA8 h60, ↓gA9 h60, ↓gA12 h60, ↓gA13 h60, ↓gA15 h60, ↓gA16 h60, ↓gA17 h60, ↓gA18 h60, ↓gA19 h60, ↓gA20 h60, ↓gA22 h60, ↓gA23 h60, ↓gA24 h60, ↓cC_0_0 hRC, ↓cC_0_1 hRC, ↓cC_0_2 hRC, ↓cC_0_3 hRC, ↓cC_0_4 hRC, ↓cC_2_0 hRC, ↓cC_2_2 hRC, ↓cC_2_3 hRC, ↓cC_6_0 hRC, ↓cC_6_1 hRC, ↓cC_6_2 hRC, ↓cC_10_0 hRC, ↓cC_10_1 hRC, ↓cC_10_2 hRC, ↓cC_10_3 hRC, ↓cC_10_4 hRC, ↓cC_10_5 hRC, ↓cC_11_0 hRC, ↓cC_11_1 hRC, ↓cC_14_0 hRC, ↓cC_14_1 hRC, ↓cC_21_0 hRC, ↓cC_21_1 hRC, ↓cC_21_2 hRC, ↓bdn7, ↓brf7, ↓bgr7, ↓ban7]
      · have b2 : ¬ (0 ≤ p3.toInt ∧ p3.toInt ≤ 300000) := fun q => a2 ⟨by rw [i_lt, li_0] at b1; omega, q⟩
        simp (disch := first | exact h60 | omega | with_unfolding_all exact h60) only [f_X7_walk, ↓bd_of (isP_t u a1), eq_false b1, ↓bd_of (isD_f u b2), ↓bb_e, ↓c_sI, ↓o_sI, ↓a_sI, ↓c_sL, ↓o_sL, ↓a_sL, ↓c_rI, ↓o_rI, ↓a_rI, ↓c_rL, ↓o_rL, ↓a_rL, ↓c_rngI, ↓o_rngI, ↓a_rngI, ↓c_rngL, ↓o_rngL, ↓a_rngL, ↓bd_s, ↓cs_s, ↓cs_n, ↓gd_t, ↓gB0, ↓gB1, ↓gOT, ↓gAS, ↓gOY, ↓gAY, ↓reduceIte, d10, nI_clamp, nI_1', i0eq, ↓gO0 h60, ↓gO2 h60, ↓gO6 h60, ↓gO10 h60, ↓gO11 h60, ↓gO14 h60, ↓gO21 h60, ↓gA1 h60, ↓gA3 h60, ↓gA4 h60, ↓gA5 h60, ↓gA7 h60, ↓gA8 h60, ↓gA9 h60, ↓gA12 h60, ↓gA13 h60, ↓gA15 h60, ↓gA16 h60, ↓gA17 h60, ↓gA18 h60, ↓gA19 h60, ↓gA20 h60, ↓gA22 h60, ↓gA23 h60, ↓gA24 h60, ↓cC_0_0 hRC, ↓cC_0_1 hRC, ↓cC_0_2 hRC, ↓cC_0_3 hRC, ↓cC_0_4 hRC, ↓cC_2_0 hRC, ↓cC_2_2 hRC, ↓cC_2_3 hRC, ↓cC_6_0 hRC, ↓cC_6_1 hRC, ↓cC_6_2 hRC, ↓cC_10_0 hRC, ↓cC_10_1 hRC, ↓cC_10_2 hRC, ↓cC_10_3 hRC, ↓cC_10_4 hRC, ↓cC_10_5 hRC, ↓cC_11_0 hRC, ↓cC_11_1 hRC, ↓cC_14_0 hRC, ↓cC_14_1 hRC, ↓cC_21_0 hRC, ↓cC_21_1 hRC, ↓cC_21_2 hRC, ↓bdn7, ↓brf7, ↓bgr7, ↓ban7]
  · refine leaf_st (A := A) (-1) 2 0 hW hC hM ?_ (model _ (hM.keep (keepM.rf.sI (by omega))) 2 (Or.inl ⟨a1, rfl⟩))
    simp (disch := first | exact h60 | omega | with_unfolding_all exact h60) only [f_X7_walk, ↓bd_of (isP_f u a1), ↓bb_e, ↓c_sI, ↓o_sI, ↓a_sI, ↓c_sL, ↓o_sL, ↓a_sL, ↓c_rI, ↓o_rI, ↓a_rI, ↓c_rL, ↓o_rL, ↓a_rL, ↓c_rngI, ↓o_rngI, ↓a_rngI, ↓c_rngL, ↓o_rngL, ↓a_rngL, ↓bd_s, ↓cs_s, ↓cs_n, ↓gd_t, ↓gB0, ↓gB1, ↓gOT, ↓gAS, ↓gOY, ↓gAY, ↓reduceIte, d10, nI_clamp, nI_1', i0eq, ↓gO0 h60, ↓gO2 h60, ↓gO6 h60, ↓gO10 h60, ↓gO11 h60, ↓gO14 h60, ↓gO21 h60, ↓gA1 h60, ↓gA3 h60, ↓gA4 h60, ↓gA5 h60, ↓gA7 h60, ↓gA8 h60, ↓gA9 h60, ↓gA12 h60, ↓gA13 h60, ↓gA15 h60, ↓gA16 h60, ↓gA17 h60, ↓gA18 h60, ↓gA19 h60, ↓gA20 h60, ↓gA22 h60, ↓gA23 h60, ↓gA24 h60, ↓cC_0_0 hRC, ↓cC_0_1 hRC, ↓cC_0_2 hRC, ↓cC_0_3 hRC, ↓cC_0_4 hRC, ↓cC_2_0 hRC, ↓cC_2_2 hRC, ↓cC_2_3 hRC, ↓cC_6_0 hRC, ↓cC_6_1 hRC, ↓cC_6_2 hRC, ↓cC_10_0 hRC, ↓cC_10_1 hRC, ↓cC_10_2 hRC, ↓cC_10_3 hRC, ↓cC_10_4 hRC, ↓cC_10_5 hRC, ↓cC_11_0 hRC, ↓cC_11_1 hRC, ↓cC_14_0 hRC, ↓cC_14_1 hRC, ↓cC_21_0 hRC, ↓cC_21_1 hRC, ↓cC_21_2 hRC, ↓bdn7, ↓brf7, ↓bgr7, ↓ban7]
