/-! SEARCH: the class -/
def scrL (u v : Mm) : Prop := v.1 = u.1 ∧ (∀ r k, r ≠ 4 → gR v r k = gR u r k) ∧ (∀ r k, r ≠ 23 → r ≠ 24 → gL v r k = gL u r k) ∧ ∀ r k, r < 4 ∨ (6 ≤ r ∧ r ≤ 9) ∨ r = 12 ∨ r = 13 ∨ r = 17 ∨ 25 ≤ r → gI v r k = gI u r k
theorem scrL.rf {u : Mm} : scrL u u := ⟨rfl, fun _ _ _ => rfl, fun _ _ _ _ => rfl, fun _ _ _ => rfl⟩
theorem scrL.sI {u v : Mm} {r k : Nat} {x : Int32} (h : scrL u v) (hr : 18 ≤ r ∧ r ≤ 24) : scrL u (sI v r k x) := ⟨h.1, h.2.1, h.2.2.1, fun a j ha => by rw [gI_sI, if_neg (by omega)]; exact h.2.2.2 a j ha⟩
theorem scrL.sL {u v : Mm} {r k : Nat} {x : Int64} (h : scrL u v) (hr : r = 23 ∨ r = 24) : scrL u (sL v r k x) := ⟨h.1, h.2.1, fun a j h1 h2 => by rw [gL_sL, if_neg (by omega)]; exact h.2.2.1 a j h1 h2, h.2.2.2⟩
theorem scrL.only {u v w : Mm} (h : scrL u v) (h2 : only v w 22 22) : scrL u w := ⟨h2.1.trans h.1, fun r k hr => (h2.2.1 r k).trans (h.2.1 r k hr), fun r k a b => (h2.2.2.1 r k).trans (h.2.2.1 r k a b), fun r k hr => (h2.2.2.2 r k (by omega) (by omega)).trans (h.2.2.2 r k hr)⟩
theorem CR.scrL {u v : Mm} {A : Ab} (hC : CR u A) (k : scrL u v) : CR v A := by
  obtain ⟨h1, h2, h3, h4, h5, h6, h7, h8, h9⟩ := hC
  obtain ⟨k0, kR, kL, kI⟩ := k
  refine ⟨RC_cong h1 (fun r j _ _ h => kR r j h), ⟨by rw [k0]; exact h2.1, by rw [kI 2 1 (by omega)]; exact h2.2⟩, by rw [kI 0 5 (by omega)]; exact h3, ⟨by rw [kL 0 6 (by omega) (by omega)]; exact h4.1, by rw [kL 0 7 (by omega) (by omega)]; exact h4.2⟩, ?_, ?_, ?_, ?_, ?_⟩
  · exact GT_cong h5 rfl (fun r j hr => kI r j (by omega)) (fun r j hr => kR r j (by omega)) (fun j => kR 3 j (by omega)) (fun _ _ _ _ => rfl)
  · exact GP_cong h6 rfl (fun i => kI _ _ (by omega)) (fun _ => rfl)
  · exact GY_cong h7 (fun r j _ _ => kI r j (by omega)) (fun r j _ _ => kL r j (by omega) (by omega)) (fun _ _ _ _ => rfl) (fun _ => rfl)
  · exact GL_cong h8 rfl (fun r j _ _ => kI r j (by omega)) (fun _ _ _ _ => rfl)
  · exact GS_cong h9 rfl (fun r j _ => kI r j (by omega)) (fun _ _ _ _ => rfl)
theorem scrL.keepM {u v : Mm} (h : scrL u v) : keepM u v := ⟨Nat.le_of_eq h.1.symm, fun r h1 h2 => ⟨fun k => h.2.2.2 r k (by omega), fun k => h.2.2.1 r k (by omega) (by omega), fun k => h.2.1 r k (by omega)⟩⟩
theorem ix2 (i : Nat) : (2 : Int32) * nI i = nI (2 * i) := by rw [show (2 : Int32) = nI 2 from rfl, pk_mul]
theorem l1 : (1 : Int64).toInt = 1 := by decide
theorem l999 : (999 : Int64).toInt = 999 := by decide
theorem fit_t {x : Int64} (u : Mm) (h : fit x) : f_X3_isFit x u = some 1 := by
  unfold fit at h
  rw [f_X3_isFit, if_neg (by rw [lg_cmp_lt, Int64.lt_iff_toInt_lt, l1]; omega), if_neg (by rw [lg_cmp_gt, Int64.lt_iff_toInt_lt, l999]; omega)]
theorem fit_f {x : Int64} (u : Mm) (h : ¬ fit x) : f_X3_isFit x u = some 0 := by
  unfold fit at h
  by_cases c : x.toInt < 1
  · rw [f_X3_isFit, if_pos (by rw [lg_cmp_lt, Int64.lt_iff_toInt_lt, l1]; omega)]
  · rw [f_X3_isFit, if_neg (by rw [lg_cmp_lt, Int64.lt_iff_toInt_lt, l1]; omega), if_pos (by rw [lg_cmp_gt, Int64.lt_iff_toInt_lt, l999]; omega)]
theorem fit_d (x : Int64) : fit x ∨ ¬ fit x := by
  unfold fit
  omega
theorem tks_l {u : Mm} {t K m : Nat} {N : Nat → Int64} (hRC : RC u) (h60 : 60 ≤ u.1) (ht : t < 4) (hK : K ≤ 40) (hm : 2 * m ≤ K) (hN : ∀ j, j < K → gL u (26 + 2 * t) j = N j) {k : Int32 → Mm → Option (Int32 × Mm)} : ∀ (d n j : Nat) (v : Mm), j + d = m → d < n → scrL u v → (∀ i, i < j → (gL v 23 i = N (2 * i) ∧ gL v 24 i = N (2 * i + 1)) ∧ fit (N (2 * i)) ∧ fit (N (2 * i + 1))) →
    ((∃ v', scrL u v' ∧ (∀ i, i < m → (gL v' 23 i = N (2 * i) ∧ gL v' 24 i = N (2 * i + 1)) ∧ fit (N (2 * i)) ∧ fit (N (2 * i + 1))) ∧ L_X3_takes_7 21 (some (26 + 2 * t)) (nI m) k n (nI j) v = k (nI m) v') ∨ (∃ v', scrL u v' ∧ (∃ i, i < 2 * m ∧ ¬ fit (N i)) ∧ L_X3_takes_7 21 (some (26 + 2 * t)) (nI m) k n (nI j) v = some (0, v'))) := by
  intro d
  induction d with
  | zero =>
    intro n j v h1 h2 hs hr
    obtain ⟨n, rfl⟩ : ∃ b, n = b + 1 := ⟨n - 1, by omega⟩
    have e : j = m := by omega
    subst e
    refine Or.inl ⟨v, hs, hr, ?_⟩
    rw [L_X3_takes_7, if_pos (nI_le (Nat.le_refl _) (by omega))]
  | succ d ih =>
    intro n j v h1 h2 hs hr
    obtain ⟨n, rfl⟩ : ∃ b, n = b + 1 := ⟨n - 1, by omega⟩
    have gRC : RC v := RC_cong hRC (fun r k _ _ h => hs.2.1 r k h)
    have g60 : 60 ≤ v.1 := by rw [hs.1]; exact h60
    have e0 : gL v (26 + 2 * t) (2 * j) = N (2 * j) := by rw [hs.2.2.1 _ _ (by omega) (by omega)]; exact hN _ (by omega)
    have e1 : gL v (26 + 2 * t) (2 * j + 1) = N (2 * j + 1) := by rw [hs.2.2.1 _ _ (by omega) (by omega)]; exact hN _ (by omega)
    have hnl : ¬ nI m ≤ nI j := nI_ge (by omega) (by omega)
    have s2 : scrL u (sL (sL v 23 j (N (2 * j))) 24 j (N (2 * j + 1))) := (hs.sL (by omega)).sL (by omega)
    have m1 : ∀ x : Int64, gL (sL v 23 j x) (26 + 2 * t) (2 * j + 1) = N (2 * j + 1) := fun x => by rw [gL_n (by omega)]; exact e1
    have m2 : ∀ x y : Int64, gL (sL (sL v 23 j x) 24 j y) 23 j = x := fun x y => by rw [gL_n (by omega)]; exact gL_e
    have m3 : ∀ x y : Int64, gL (sL (sL v 23 j x) 24 j y) 24 j = y := fun x y => gL_e
    clear h60 hRC
    have h60 := g60
    have hRC := gRC
    rcases fit_d (N (2 * j)) with f0 | f0
    · have i0 := fun w => fit_t w f0
      rcases fit_d (N (2 * j + 1)) with f1 | f1
      · have i1 := fun w => fit_t w f1
        rcases ih n (j + 1) (sL (sL v 23 j (N (2 * j))) 24 j (N (2 * j + 1))) (by omega) (by omega) s2 (fun i hi => by
          by_cases c : i = j
          · subst c; exact ⟨⟨m2 _ _, m3 _ _⟩, f0, f1⟩
          · rw [gL_n (by omega), gL_n (by omega), gL_n (by omega), gL_n (by omega)]
            exact hr i (by omega)) with ⟨v', q1, q2, q3⟩ | ⟨v', q1, q2, q3⟩
        · refine Or.inl ⟨v', q1, q2, ?_⟩
          rw [← q3]
          simp (disch := first | exact h60 | omega | with_unfolding_all exact h60) only [L_X3_takes_7, eq_false hnl, ix2, nI_1, e0, m1, m2, m3, ↓bd_of (i0 _), ↓bd_of (i1 _), ↓bb_e, ↓c_sI, ↓o_sI, ↓a_sI, ↓c_sL, ↓o_sL, ↓a_sL, ↓c_rI, ↓o_rI, ↓a_rI, ↓c_rL, ↓o_rL, ↓a_rL, ↓c_rngI, ↓o_rngI, ↓a_rngI, ↓c_rngL, ↓o_rngL, ↓a_rngL, ↓bd_s, ↓cs_s, ↓cs_n, ↓gd_t, ↓gB0, ↓gB1, ↓gOT, ↓gAS, ↓gOY, ↓gAY, ↓reduceIte, d10, nI_clamp, nI_1', i0eq, ↓gO0 h60, ↓gO2 h60, ↓gO6 h60, ↓gO10 h60, ↓gO11 h60, ↓gO14 h60, ↓gO21 h60, ↓gA1 h60, ↓gA3 h60, ↓gA4 h60, ↓gA5 h60, ↓gA7 h60, ↓gA8 h60, ↓gA9 h60, ↓gA12 h60, ↓gA13 h60, ↓gA15 h60, ↓gA16 h60, ↓gA17 h60, ↓gA18 h60, ↓gA19 h60, ↓gA20 h60, ↓gA22 h60, ↓gA23 h60, ↓gA24 h60, ↓cC_0_0 hRC, ↓cC_0_1 hRC, ↓cC_0_2 hRC, ↓cC_0_3 hRC, ↓cC_0_4 hRC, ↓cC_2_0 hRC, ↓cC_2_2 hRC, ↓cC_2_3 hRC, ↓cC_6_0 hRC, ↓cC_6_1 hRC, ↓cC_6_2 hRC, ↓cC_10_0 hRC, ↓cC_10_1 hRC, ↓cC_10_2 hRC, ↓cC_10_3 hRC, ↓cC_10_4 hRC, ↓cC_10_5 hRC, ↓cC_11_0 hRC, ↓cC_11_1 hRC, ↓cC_14_0 hRC, ↓cC_14_1 hRC, ↓cC_21_0 hRC, ↓cC_21_1 hRC, ↓cC_21_2 hRC, ↓bdn7, ↓brf7, ↓bgr7, ↓ban7]
        · refine Or.inr ⟨v', q1, q2, ?_⟩
          rw [← q3]
          simp (disch := first | exact h60 | omega | with_unfolding_all exact h60) only [L_X3_takes_7, eq_false hnl, ix2, nI_1, e0, m1, m2, m3, ↓bd_of (i0 _), ↓bd_of (i1 _), ↓bb_e, ↓c_sI, ↓o_sI, ↓a_sI, ↓c_sL, ↓o_sL, ↓a_sL, ↓c_rI, ↓o_rI, ↓a_rI, ↓c_rL, ↓o_rL, ↓a_rL, ↓c_rngI, ↓o_rngI, ↓a_rngI, ↓c_rngL, ↓o_rngL, ↓a_rngL, ↓bd_s, ↓cs_s, ↓cs_n, ↓gd_t, ↓gB0, ↓gB1, ↓gOT, ↓gAS, ↓gOY, ↓gAY, ↓reduceIte, d10, nI_clamp, nI_1', i0eq, ↓gO0 h60, ↓gO2 h60, ↓gO6 h60, ↓gO10 h60, ↓gO11 h60, ↓gO14 h60, ↓gO21 h60, ↓gA1 h60, ↓gA3 h60, ↓gA4 h60, ↓gA5 h60, ↓gA7 h60, ↓gA8 h60, ↓gA9 h60, ↓gA12 h60, ↓gA13 h60, ↓gA15 h60, ↓gA16 h60, ↓gA17 h60, ↓gA18 h60, ↓gA19 h60, ↓gA20 h60, ↓gA22 h60, ↓gA23 h60, ↓gA24 h60, ↓cC_0_0 hRC, ↓cC_0_1 hRC, ↓cC_0_2 hRC, ↓cC_0_3 hRC, ↓cC_0_4 hRC, ↓cC_2_0 hRC, ↓cC_2_2 hRC, ↓cC_2_3 hRC, ↓cC_6_0 hRC, ↓cC_6_1 hRC, ↓cC_6_2 hRC, ↓cC_10_0 hRC, ↓cC_10_1 hRC, ↓cC_10_2 hRC, ↓cC_10_3 hRC, ↓cC_10_4 hRC, ↓cC_10_5 hRC, ↓cC_11_0 hRC, ↓cC_11_1 hRC, ↓cC_14_0 hRC, ↓cC_14_1 hRC, ↓cC_21_0 hRC, ↓cC_21_1 hRC, ↓cC_21_2 hRC, ↓bdn7, ↓brf7, ↓bgr7, ↓ban7]
      · have i1 := fun w => fit_f w f1
        refine Or.inr ⟨_, s2, ⟨2 * j + 1, by omega, f1⟩, ?_⟩
        simp (disch := first | exact h60 | omega | with_unfolding_all exact h60) only [L_X3_takes_7, eq_false hnl, ix2, nI_1, e0, m1, m2, m3, ↓bd_of (i0 _), ↓bd_of (i1 _), ↓bb_e, ↓c_sI, ↓o_sI, ↓a_sI, ↓c_sL, ↓o_sL, ↓a_sL, ↓c_rI, ↓o_rI, ↓a_rI, ↓c_rL, ↓o_rL, ↓a_rL, ↓c_rngI, ↓o_rngI, ↓a_rngI, ↓c_rngL, ↓o_rngL, ↓a_rngL, ↓bd_s, ↓cs_s, ↓cs_n, ↓gd_t, ↓gB0, ↓gB1, ↓gOT, ↓gAS, ↓gOY, ↓gAY, ↓reduceIte, d10, nI_clamp, nI_1', i0eq, ↓gO0 h60, ↓gO2 h60, ↓gO6 h60, ↓gO10 h60, ↓gO11 h60, ↓gO14 h60, ↓gO21 h60, ↓gA1 h60, ↓gA3 h60, ↓gA4 h60, ↓gA5 h60, ↓gA7 h60, ↓gA8 h60, ↓gA9 h60, ↓gA12 h60, ↓gA13 h60, ↓gA15 h60, ↓gA16 h60, ↓gA17 h60, ↓gA18 h60, ↓gA19 h60, ↓gA20 h60, ↓gA22 h60, ↓gA23 h60, ↓gA24 h60, ↓cC_0_0 hRC, ↓cC_0_1 hRC, ↓cC_0_2 hRC, ↓cC_0_3 hRC, ↓cC_0_4 hRC, ↓cC_2_0 hRC, ↓cC_2_2 hRC, ↓cC_2_3 hRC, ↓cC_6_0 hRC, ↓cC_6_1 hRC, ↓cC_6_2 hRC, ↓cC_10_0 hRC, ↓cC_10_1 hRC, ↓cC_10_2 hRC, ↓cC_10_3 hRC, ↓cC_10_4 hRC, ↓cC_10_5 hRC, ↓cC_11_0 hRC, ↓cC_11_1 hRC, ↓cC_14_0 hRC, ↓cC_14_1 hRC, ↓cC_21_0 hRC, ↓cC_21_1 hRC, ↓cC_21_2 hRC, ↓bdn7, ↓brf7, ↓bgr7, ↓ban7]
    · have i0 := fun w => fit_f w f0
      refine Or.inr ⟨_, s2, ⟨2 * j, by omega, f0⟩, ?_⟩
      simp (disch := first | exact h60 | omega | with_unfolding_all exact h60) only [L_X3_takes_7, eq_false hnl, ix2, nI_1, e0, m1, m2, m3, ↓bd_of (i0 _), ↓bb_e, ↓c_sI, ↓o_sI, ↓a_sI, ↓c_sL, ↓o_sL, ↓a_sL, ↓c_rI, ↓o_rI, ↓a_rI, ↓c_rL, ↓o_rL, ↓a_rL, ↓c_rngI, ↓o_rngI, ↓a_rngI, ↓c_rngL, ↓o_rngL, ↓a_rngL, ↓bd_s, ↓cs_s, ↓cs_n, ↓gd_t, ↓gB0, ↓gB1, ↓gOT, ↓gAS, ↓gOY, ↓gAY, ↓reduceIte, d10, nI_clamp, nI_1', i0eq, ↓gO0 h60, ↓gO2 h60, ↓gO6 h60, ↓gO10 h60, ↓gO11 h60, ↓gO14 h60, ↓gO21 h60, ↓gA1 h60, ↓gA3 h60, ↓gA4 h60, ↓gA5 h60, ↓gA7 h60, ↓gA8 h60, ↓gA9 h60, ↓gA12 h60, ↓gA13 h60, ↓gA15 h60, ↓gA16 h60, ↓gA17 h60, ↓gA18 h60, ↓gA19 h60, ↓gA20 h60, ↓gA22 h60, ↓gA23 h60, ↓gA24 h60, ↓cC_0_0 hRC, ↓cC_0_1 hRC, ↓cC_0_2 hRC, ↓cC_0_3 hRC, ↓cC_0_4 hRC, ↓cC_2_0 hRC, ↓cC_2_2 hRC, ↓cC_2_3 hRC, ↓cC_6_0 hRC, ↓cC_6_1 hRC, ↓cC_6_2 hRC, ↓cC_10_0 hRC, ↓cC_10_1 hRC, ↓cC_10_2 hRC, ↓cC_10_3 hRC, ↓cC_10_4 hRC, ↓cC_10_5 hRC, ↓cC_11_0 hRC, ↓cC_11_1 hRC, ↓cC_14_0 hRC, ↓cC_14_1 hRC, ↓cC_21_0 hRC, ↓cC_21_1 hRC, ↓cC_21_2 hRC, ↓bdn7, ↓brf7, ↓bgr7, ↓ban7]
/-- the class's cells hold what is to be searched -/
def SC (u v : Mm) (m : Nat) (wt ct : Nat → Int64) : Prop := RC v ∧ 60 ≤ v.1 ∧ scrL u v ∧ gI v 21 3 = nI m ∧ ∀ i, i < m → gL v 23 i = wt i ∧ gL v 24 i = ct i
theorem SC.only {u v w : Mm} {m : Nat} {wt ct : Nat → Int64} (h : SC u v m wt ct) (h2 : only v w 22 22) : SC u w m wt ct := by
  obtain ⟨a1, a2, a3, a4, a5⟩ := h
  exact ⟨RC_cong a1 (fun r k _ _ _ => h2.2.1 r k), by rw [h2.1]; exact a2, a3.only h2, by rw [h2.2.2.2 21 3 (by omega) (by omega)]; exact a4, fun i hi => by rw [h2.2.2.1, h2.2.2.1]; exact a5 i hi⟩
theorem only.trans {u v w : Mm} {a b : Nat} (h : only u v a b) (h2 : only v w a b) : only u w a b := ⟨h2.1.trans h.1, fun r k => (h2.2.1 r k).trans (h.2.1 r k), fun r k => (h2.2.2.1 r k).trans (h.2.2.1 r k), fun r k p q => (h2.2.2.2 r k p q).trans (h.2.2.2 r k p q)⟩
theorem chp7 {u v : Mm} {m : Nat} {wt ct : Nat → Int64} (hm : m ≤ 20) (h : SC u v m wt ct) {x y : Nat} (hx : x < m) (hy : y < m) : f_X3_isCheaper 21 (nI x) (nI y) v = some (b2i (chp wt ct x y)) := by
  obtain ⟨hRC, h60, -, -, hr⟩ := h
  obtain ⟨x1, x2⟩ := hr x hx
  obtain ⟨y1, y2⟩ := hr y hy
  by_cases c : ct x * wt y < ct y * wt x
  · have c' : ¬ 0 ≤ lg_cmp (ct x * wt y) (ct y * wt x) := by rw [lg_cmp_ge, Int64.le_iff_toInt_le]; rw [Int64.lt_iff_toInt_lt] at c; omega
    simp (disch := first | exact h60 | omega | with_unfolding_all exact h60) only [f_X3_isCheaper, x1, x2, y1, y2, eq_false c', ↓bb_e, ↓c_sI, ↓o_sI, ↓a_sI, ↓c_sL, ↓o_sL, ↓a_sL, ↓c_rI, ↓o_rI, ↓a_rI, ↓c_rL, ↓o_rL, ↓a_rL, ↓c_rngI, ↓o_rngI, ↓a_rngI, ↓c_rngL, ↓o_rngL, ↓a_rngL, ↓bd_s, ↓cs_s, ↓cs_n, ↓gd_t, ↓gB0, ↓gB1, ↓gOT, ↓gAS, ↓gOY, ↓gAY, ↓reduceIte, d10, nI_clamp, nI_1', i0eq, ↓gO0 h60, ↓gO2 h60, ↓gO6 h60, ↓gO10 h60, ↓gO11 h60, ↓gO14 h60, ↓gO21 h60, ↓gA1 h60, ↓gA3 h60, ↓gA4 h60, ↓gA5 h60, ↓gA7 h60, ↓gA8 h60, ↓gA9 h60, ↓gA12 h60, ↓gA13 h60, ↓gA15 h60, ↓gA16 h60, ↓gA17 h60, ↓gA18 h60, ↓gA19 h60, ↓gA20 h60, ↓gA22 h60, ↓gA23 h60, ↓gA24 h60, ↓cC_0_0 hRC, ↓cC_0_1 hRC, ↓cC_0_2 hRC, ↓cC_0_3 hRC, ↓cC_0_4 hRC, ↓cC_2_0 hRC, ↓cC_2_2 hRC, ↓cC_2_3 hRC, ↓cC_6_0 hRC, ↓cC_6_1 hRC, ↓cC_6_2 hRC, ↓cC_10_0 hRC, ↓cC_10_1 hRC, ↓cC_10_2 hRC, ↓cC_10_3 hRC, ↓cC_10_4 hRC, ↓cC_10_5 hRC, ↓cC_11_0 hRC, ↓cC_11_1 hRC, ↓cC_14_0 hRC, ↓cC_14_1 hRC, ↓cC_21_0 hRC, ↓cC_21_1 hRC, ↓cC_21_2 hRC, ↓bdn7, ↓brf7, ↓bgr7, ↓ban7]
    simp [chp, c, b2i]
  · have c' : 0 ≤ lg_cmp (ct x * wt y) (ct y * wt x) := by rw [lg_cmp_ge, Int64.le_iff_toInt_le]; rw [Int64.lt_iff_toInt_lt] at c; omega
    simp (disch := first | exact h60 | omega | with_unfolding_all exact h60) only [f_X3_isCheaper, x1, x2, y1, y2, eq_true c', ↓bb_e, ↓c_sI, ↓o_sI, ↓a_sI, ↓c_sL, ↓o_sL, ↓a_sL, ↓c_rI, ↓o_rI, ↓a_rI, ↓c_rL, ↓o_rL, ↓a_rL, ↓c_rngI, ↓o_rngI, ↓a_rngI, ↓c_rngL, ↓o_rngL, ↓a_rngL, ↓bd_s, ↓cs_s, ↓cs_n, ↓gd_t, ↓gB0, ↓gB1, ↓gOT, ↓gAS, ↓gOY, ↓gAY, ↓reduceIte, d10, nI_clamp, nI_1', i0eq, ↓gO0 h60, ↓gO2 h60, ↓gO6 h60, ↓gO10 h60, ↓gO11 h60, ↓gO14 h60, ↓gO21 h60, ↓gA1 h60, ↓gA3 h60, ↓gA4 h60, ↓gA5 h60, ↓gA7 h60, ↓gA8 h60, ↓gA9 h60, ↓gA12 h60, ↓gA13 h60, ↓gA15 h60, ↓gA16 h60, ↓gA17 h60, ↓gA18 h60, ↓gA19 h60, ↓gA20 h60, ↓gA22 h60, ↓gA23 h60, ↓gA24 h60, ↓cC_0_0 hRC, ↓cC_0_1 hRC, ↓cC_0_2 hRC, ↓cC_0_3 hRC, ↓cC_0_4 hRC, ↓cC_2_0 hRC, ↓cC_2_2 hRC, ↓cC_2_3 hRC, ↓cC_6_0 hRC, ↓cC_6_1 hRC, ↓cC_6_2 hRC, ↓cC_10_0 hRC, ↓cC_10_1 hRC, ↓cC_10_2 hRC, ↓cC_10_3 hRC, ↓cC_10_4 hRC, ↓cC_10_5 hRC, ↓cC_11_0 hRC, ↓cC_11_1 hRC, ↓cC_14_0 hRC, ↓cC_14_1 hRC, ↓cC_21_0 hRC, ↓cC_21_1 hRC, ↓cC_21_2 hRC, ↓bdn7, ↓brf7, ↓bgr7, ↓ban7]
    simp [chp, c, b2i]
theorem ar1_l {u v0 : Mm} {M : Nat} {wt ct : Nat → Int64} (hM : M ≤ 20) (h : SC u v0 M wt ct) {m : Nat} {g : Nat → Nat} (hm : m < M) (hg : ∀ i, i < m → g i < m) {k : Int32 → Mm → Option Mm} : ∀ (a n : Nat) (v : Mm), a ≤ m → a < n → only v0 v 22 22 → (∀ i, i < a → gI v 22 i = nI (g i)) → (∀ i, a ≤ i → i < m → gI v 22 (i + 1) = nI (g i)) →
    ∃ v', only v0 v' 22 22 ∧ (∀ i, i < pos (chp wt ct m) g a → gI v' 22 i = nI (g i)) ∧ (∀ i, pos (chp wt ct m) g a ≤ i → i < m → gI v' 22 (i + 1) = nI (g i)) ∧ L_X3_arrange_12 21 (nI m) k n (nI a) v = k (nI (pos (chp wt ct m) g a)) v' := by
  intro a
  induction a with
  | zero =>
    intro n v h1 h2 ho r1 r2
    obtain ⟨n, rfl⟩ : ∃ b, n = b + 1 := ⟨n - 1, by omega⟩
    refine ⟨v, ho, r1, r2, ?_⟩
    rw [L_X3_arrange_12, nI_0, if_pos (by decide)]
    rfl
  | succ a ih =>
    intro n v h1 h2 ho r1 r2
    obtain ⟨n, rfl⟩ : ∃ b, n = b + 1 := ⟨n - 1, by omega⟩
    have hS := h.only ho
    obtain ⟨hRC, h60, -⟩ := id hS
    have n0 : ¬ nI (a + 1) ≤ 0 := nI_nle (by omega) (by omega)
    have ga := hg a (by omega)
    have hc := chp7 hM hS (x := m) (y := g a) hm (by omega)
    have e1 := r1 a (by omega)
    cases c : chp wt ct m (g a) with
    | true =>
      rw [c, b2i_t] at hc
      have e : pos (chp wt ct m) g (a + 1) = pos (chp wt ct m) g a := if_pos c
      rw [e]
      obtain ⟨v', q1, q2, q3, q4⟩ := ih n (sI v 22 (a + 1) (nI (g a))) (by omega) (by omega) (ho.sI (by omega)) (fun i hi => by rw [gI_n (by omega)]; exact r1 i (by omega)) (fun i a1 a2 => by
        by_cases c : i = a
        · subst c; exact gI_e
        · rw [gI_n (by omega)]; exact r2 i (by omega) a2)
      refine ⟨v', q1, q2, q3, ?_⟩
      rw [← q4]
      simp (disch := first | exact h60 | omega | with_unfolding_all exact h60) only [L_X3_arrange_12, eq_false n0, nI_pred, sub1, e1, ↓bd_of hc, ↓bb_e, ↓c_sI, ↓o_sI, ↓a_sI, ↓c_sL, ↓o_sL, ↓a_sL, ↓c_rI, ↓o_rI, ↓a_rI, ↓c_rL, ↓o_rL, ↓a_rL, ↓c_rngI, ↓o_rngI, ↓a_rngI, ↓c_rngL, ↓o_rngL, ↓a_rngL, ↓bd_s, ↓cs_s, ↓cs_n, ↓gd_t, ↓gB0, ↓gB1, ↓gOT, ↓gAS, ↓gOY, ↓gAY, ↓reduceIte, d10, nI_clamp, nI_1', i0eq, ↓gO0 h60, ↓gO2 h60, ↓gO6 h60, ↓gO10 h60, ↓gO11 h60, ↓gO14 h60, ↓gO21 h60, ↓gA1 h60, ↓gA3 h60, ↓gA4 h60, ↓gA5 h60, ↓gA7 h60, ↓gA8 h60, ↓gA9 h60, ↓gA12 h60, ↓gA13 h60, ↓gA15 h60, ↓gA16 h60, ↓gA17 h60, ↓gA18 h60, ↓gA19 h60, ↓gA20 h60, ↓gA22 h60, ↓gA23 h60, ↓gA24 h60, ↓cC_0_0 hRC, ↓cC_0_1 hRC, ↓cC_0_2 hRC, ↓cC_0_3 hRC, ↓cC_0_4 hRC, ↓cC_2_0 hRC, ↓cC_2_2 hRC, ↓cC_2_3 hRC, ↓cC_6_0 hRC, ↓cC_6_1 hRC, ↓cC_6_2 hRC, ↓cC_10_0 hRC, ↓cC_10_1 hRC, ↓cC_10_2 hRC, ↓cC_10_3 hRC, ↓cC_10_4 hRC, ↓cC_10_5 hRC, ↓cC_11_0 hRC, ↓cC_11_1 hRC, ↓cC_14_0 hRC, ↓cC_14_1 hRC, ↓cC_21_0 hRC, ↓cC_21_1 hRC, ↓cC_21_2 hRC, ↓bdn7, ↓brf7, ↓bgr7, ↓ban7]
    | false =>
      rw [c, b2i_f] at hc
      have e : pos (chp wt ct m) g (a + 1) = a + 1 := if_neg (by rw [c]; decide)
      rw [e]
      refine ⟨v, ho, r1, r2, ?_⟩
      simp (disch := first | exact h60 | omega | with_unfolding_all exact h60) only [L_X3_arrange_12, eq_false n0, nI_pred, sub1, e1, ↓bd_of hc, ↓bb_e, ↓c_sI, ↓o_sI, ↓a_sI, ↓c_sL, ↓o_sL, ↓a_sL, ↓c_rI, ↓o_rI, ↓a_rI, ↓c_rL, ↓o_rL, ↓a_rL, ↓c_rngI, ↓o_rngI, ↓a_rngI, ↓c_rngL, ↓o_rngL, ↓a_rngL, ↓bd_s, ↓cs_s, ↓cs_n, ↓gd_t, ↓gB0, ↓gB1, ↓gOT, ↓gAS, ↓gOY, ↓gAY, ↓reduceIte, d10, nI_clamp, nI_1', i0eq, ↓gO0 h60, ↓gO2 h60, ↓gO6 h60, ↓gO10 h60, ↓gO11 h60, ↓gO14 h60, ↓gO21 h60, ↓gA1 h60, ↓gA3 h60, ↓gA4 h60, ↓gA5 h60, ↓gA7 h60, ↓gA8 h60, ↓gA9 h60, ↓gA12 h60, ↓gA13 h60, ↓gA15 h60, ↓gA16 h60, ↓gA17 h60, ↓gA18 h60, ↓gA19 h60, ↓gA20 h60, ↓gA22 h60, ↓gA23 h60, ↓gA24 h60, ↓cC_0_0 hRC, ↓cC_0_1 hRC, ↓cC_0_2 hRC, ↓cC_0_3 hRC, ↓cC_0_4 hRC, ↓cC_2_0 hRC, ↓cC_2_2 hRC, ↓cC_2_3 hRC, ↓cC_6_0 hRC, ↓cC_6_1 hRC, ↓cC_6_2 hRC, ↓cC_10_0 hRC, ↓cC_10_1 hRC, ↓cC_10_2 hRC, ↓cC_10_3 hRC, ↓cC_10_4 hRC, ↓cC_10_5 hRC, ↓cC_11_0 hRC, ↓cC_11_1 hRC, ↓cC_14_0 hRC, ↓cC_14_1 hRC, ↓cC_21_0 hRC, ↓cC_21_1 hRC, ↓cC_21_2 hRC, ↓bdn7, ↓brf7, ↓bgr7, ↓ban7]
theorem ins_row {v : Mm} {R m b : Nat} {g : Nat → Nat} (hb : b ≤ m) (q2 : ∀ i, i < b → gI v R i = nI (g i)) (q3 : ∀ i, b ≤ i → i < m → gI v R (i + 1) = nI (g i)) : ∀ i, i < m + 1 → gI (sI v R b (nI m)) R i = nI (ins g b m i) := fun i hi => by
  unfold ins
  by_cases c1 : i < b
  · rw [if_pos c1, gI_n (by omega)]; exact q2 i c1
  · rw [if_neg c1]
    by_cases c2 : i = b
    · subst c2; rw [if_pos rfl]; exact gI_e
    · rw [if_neg c2, gI_n (by omega)]
      have := q3 (i - 1) (by omega) (by omega)
      rw [Nat.sub_add_cancel (by omega)] at this
      exact this
theorem ar2_l {u v0 : Mm} {M : Nat} {wt ct : Nat → Int64} (hM : M ≤ 20) (h : SC u v0 M wt ct) {k : Int32 → Mm → Option Mm} : ∀ (d n m : Nat) (v : Mm), m + d = M → d < n → only v0 v 22 22 → (∀ i, i < m → gI v 22 i = nI (ord wt ct m i)) → ∃ v', only v0 v' 22 22 ∧ (∀ i, i < M → gI v' 22 i = nI (ord wt ct M i)) ∧ L_X3_arrange_2 21 k n (nI m) v = k (nI M) v' := by
  intro d
  induction d with
  | zero =>
    intro n m v h1 h2 ho r1
    obtain ⟨n, rfl⟩ : ∃ b, n = b + 1 := ⟨n - 1, by omega⟩
    have e : m = M := by omega
    subst e
    obtain ⟨hRC, h60, -, h3, -⟩ := h.only ho
    refine ⟨v, ho, r1, ?_⟩
    rw [L_X3_arrange_2, oO21 h60, gd_t, h3, if_pos (nI_le (Nat.le_refl _) (by omega))]
  | succ d ih =>
    intro n m v h1 h2 ho r1
    obtain ⟨n, rfl⟩ : ∃ b, n = b + 1 := ⟨n - 1, by omega⟩
    obtain ⟨hRC, h60, -, h3, -⟩ := h.only ho
    have hnl : ¬ nI M ≤ nI m := nI_ge (by omega) (by omega)
    obtain ⟨v1, q1, q2, q3, q4⟩ := ar1_l hM h (m := m) (g := ord wt ct m) (by omega) (fun i hi => ord_lt wt ct m i hi) (k := fun a17 u18 => gd (okO u18 21 3) (bb (gR u18 21 0) (fun x20 => cs x20 none (fun k21 => gd (okA u18 k21 9 a17) (bb (nI m + (1)) (fun v23 => L_X3_arrange_2 21 k n v23 (sI u18 k21 (Int32.toNatClampNeg a17) (nI m)))))))) m 1000 v (Nat.le_refl _) (by omega) ho r1 (fun i a1 a2 => by omega)
    have hp := pos_le (chp wt ct m) (ord wt ct m) m
    obtain ⟨gRC, g60, -⟩ := h.only q1
    obtain ⟨v', p1, p2, p3⟩ := ih n (m + 1) (sI v1 22 (pos (chp wt ct m) (ord wt ct m) m) (nI m)) (by omega) (by omega) (q1.sI (by omega)) (ins_row hp q2 q3)
    refine ⟨v', p1, p2, ?_⟩
    rw [← p3, L_X3_arrange_2, oO21 h60, gd_t, h3, if_neg hnl, q4]
    clear h60 hRC
    have h60 := g60
    have hRC := gRC
    simp (disch := first | exact h60 | omega | with_unfolding_all exact h60) only [↓bb_e, ↓c_sI, ↓o_sI, ↓a_sI, ↓c_sL, ↓o_sL, ↓a_sL, ↓c_rI, ↓o_rI, ↓a_rI, ↓c_rL, ↓o_rL, ↓a_rL, ↓c_rngI, ↓o_rngI, ↓a_rngI, ↓c_rngL, ↓o_rngL, ↓a_rngL, ↓bd_s, ↓cs_s, ↓cs_n, ↓gd_t, ↓gB0, ↓gB1, ↓gOT, ↓gAS, ↓gOY, ↓gAY, ↓reduceIte, d10, nI_clamp, nI_1', i0eq, ↓gO0 h60, ↓gO2 h60, ↓gO6 h60, ↓gO10 h60, ↓gO11 h60, ↓gO14 h60, ↓gO21 h60, ↓gA1 h60, ↓gA3 h60, ↓gA4 h60, ↓gA5 h60, ↓gA7 h60, ↓gA8 h60, ↓gA9 h60, ↓gA12 h60, ↓gA13 h60, ↓gA15 h60, ↓gA16 h60, ↓gA17 h60, ↓gA18 h60, ↓gA19 h60, ↓gA20 h60, ↓gA22 h60, ↓gA23 h60, ↓gA24 h60, ↓cC_0_0 hRC, ↓cC_0_1 hRC, ↓cC_0_2 hRC, ↓cC_0_3 hRC, ↓cC_0_4 hRC, ↓cC_2_0 hRC, ↓cC_2_2 hRC, ↓cC_2_3 hRC, ↓cC_6_0 hRC, ↓cC_6_1 hRC, ↓cC_6_2 hRC, ↓cC_10_0 hRC, ↓cC_10_1 hRC, ↓cC_10_2 hRC, ↓cC_10_3 hRC, ↓cC_10_4 hRC, ↓cC_10_5 hRC, ↓cC_11_0 hRC, ↓cC_11_1 hRC, ↓cC_14_0 hRC, ↓cC_14_1 hRC, ↓cC_21_0 hRC, ↓cC_21_1 hRC, ↓cC_21_2 hRC, ↓bdn7, ↓brf7, ↓bgr7, ↓ban7]
theorem wc7_l {u v : Mm} {M : Nat} {wt ct : Nat → Int64} {g : Nat → Nat} (hM : M ≤ 20) (h : SC u v M wt ct) (hg : ∀ i, i < M → g i < M) (hr : ∀ i, i < M → gI v 22 i = nI (g i)) {k : Int64 → Int64 → Int32 → Option Int64} : ∀ (d n i : Nat), i + d = M → d < n → L_X3_weightedCosts_7 21 v k n (cc ct g i) (wc wt ct g i) (nI i) = k (cc ct g M) (wc wt ct g M) (nI M) := by
  obtain ⟨hRC, h60, -, h3, hn⟩ := id h
  intro d
  induction d with
  | zero =>
    intro n i h1 h2
    obtain ⟨n, rfl⟩ : ∃ b, n = b + 1 := ⟨n - 1, by omega⟩
    have e : i = M := by omega
    subst e
    rw [L_X3_weightedCosts_7, oO21 h60, gd_t, h3, if_pos (nI_le (Nat.le_refl _) (by omega))]
  | succ d ih =>
    intro n i h1 h2
    obtain ⟨n, rfl⟩ : ∃ b, n = b + 1 := ⟨n - 1, by omega⟩
    have hnl : ¬ nI M ≤ nI i := nI_ge (by omega) (by omega)
    have gi := hg i (by omega)
    have e1 := hr i (by omega)
    obtain ⟨e2, e3⟩ := hn (g i) gi
    have ih := ih n (i + 1) (by omega) (by omega)
    rw [← ih]
    simp (disch := first | exact h60 | omega | with_unfolding_all exact h60) only [L_X3_weightedCosts_7, h3, eq_false hnl, e1, e2, e3, ↓bb_e, ↓c_sI, ↓o_sI, ↓a_sI, ↓c_sL, ↓o_sL, ↓a_sL, ↓c_rI, ↓o_rI, ↓a_rI, ↓c_rL, ↓o_rL, ↓a_rL, ↓c_rngI, ↓o_rngI, ↓a_rngI, ↓c_rngL, ↓o_rngL, ↓a_rngL, ↓bd_s, ↓cs_s, ↓cs_n, ↓gd_t, ↓gB0, ↓gB1, ↓gOT, ↓gAS, ↓gOY, ↓gAY, ↓reduceIte, d10, nI_clamp, nI_1', i0eq, ↓gO0 h60, ↓gO2 h60, ↓gO6 h60, ↓gO10 h60, ↓gO11 h60, ↓gO14 h60, ↓gO21 h60, ↓gA1 h60, ↓gA3 h60, ↓gA4 h60, ↓gA5 h60, ↓gA7 h60, ↓gA8 h60, ↓gA9 h60, ↓gA12 h60, ↓gA13 h60, ↓gA15 h60, ↓gA16 h60, ↓gA17 h60, ↓gA18 h60, ↓gA19 h60, ↓gA20 h60, ↓gA22 h60, ↓gA23 h60, ↓gA24 h60, ↓cC_0_0 hRC, ↓cC_0_1 hRC, ↓cC_0_2 hRC, ↓cC_0_3 hRC, ↓cC_0_4 hRC, ↓cC_2_0 hRC, ↓cC_2_2 hRC, ↓cC_2_3 hRC, ↓cC_6_0 hRC, ↓cC_6_1 hRC, ↓cC_6_2 hRC, ↓cC_10_0 hRC, ↓cC_10_1 hRC, ↓cC_10_2 hRC, ↓cC_10_3 hRC, ↓cC_10_4 hRC, ↓cC_10_5 hRC, ↓cC_11_0 hRC, ↓cC_11_1 hRC, ↓cC_14_0 hRC, ↓cC_14_1 hRC, ↓cC_21_0 hRC, ↓cC_21_1 hRC, ↓cC_21_2 hRC, ↓bdn7, ↓brf7, ↓bgr7, ↓ban7]
    rfl
theorem ws7_l {u v : Mm} {M : Nat} {wt ct : Nat → Int64} (hM : M ≤ 20) (h : SC u v M wt ct) {k : Int64 → Int32 → Option Int64} : ∀ (d n i : Nat), i + d = M → d < n → L_X3_weights_4 21 v k n (cc wt (fun i => i) i) (nI i) = k (cc wt (fun i => i) M) (nI M) := by
  obtain ⟨hRC, h60, -, h3, hn⟩ := id h
  intro d
  induction d with
  | zero =>
    intro n i h1 h2
    obtain ⟨n, rfl⟩ : ∃ b, n = b + 1 := ⟨n - 1, by omega⟩
    have e : i = M := by omega
    subst e
    rw [L_X3_weights_4, oO21 h60, gd_t, h3, if_pos (nI_le (Nat.le_refl _) (by omega))]
  | succ d ih =>
    intro n i h1 h2
    obtain ⟨n, rfl⟩ : ∃ b, n = b + 1 := ⟨n - 1, by omega⟩
    have hnl : ¬ nI M ≤ nI i := nI_ge (by omega) (by omega)
    obtain ⟨e2, e3⟩ := hn i (by omega)
    have ih := ih n (i + 1) (by omega) (by omega)
    rw [← ih]
    simp (disch := first | exact h60 | omega | with_unfolding_all exact h60) only [L_X3_weights_4, h3, eq_false hnl, e2, ↓bb_e, ↓c_sI, ↓o_sI, ↓a_sI, ↓c_sL, ↓o_sL, ↓a_sL, ↓c_rI, ↓o_rI, ↓a_rI, ↓c_rL, ↓o_rL, ↓a_rL, ↓c_rngI, ↓o_rngI, ↓a_rngI, ↓c_rngL, ↓o_rngL, ↓a_rngL, ↓bd_s, ↓cs_s, ↓cs_n, ↓gd_t, ↓gB0, ↓gB1, ↓gOT, ↓gAS, ↓gOY, ↓gAY, ↓reduceIte, d10, nI_clamp, nI_1', i0eq, ↓gO0 h60, ↓gO2 h60, ↓gO6 h60, ↓gO10 h60, ↓gO11 h60, ↓gO14 h60, ↓gO21 h60, ↓gA1 h60, ↓gA3 h60, ↓gA4 h60, ↓gA5 h60, ↓gA7 h60, ↓gA8 h60, ↓gA9 h60, ↓gA12 h60, ↓gA13 h60, ↓gA15 h60, ↓gA16 h60, ↓gA17 h60, ↓gA18 h60, ↓gA19 h60, ↓gA20 h60, ↓gA22 h60, ↓gA23 h60, ↓gA24 h60, ↓cC_0_0 hRC, ↓cC_0_1 hRC, ↓cC_0_2 hRC, ↓cC_0_3 hRC, ↓cC_0_4 hRC, ↓cC_2_0 hRC, ↓cC_2_2 hRC, ↓cC_2_3 hRC, ↓cC_6_0 hRC, ↓cC_6_1 hRC, ↓cC_6_2 hRC, ↓cC_10_0 hRC, ↓cC_10_1 hRC, ↓cC_10_2 hRC, ↓cC_10_3 hRC, ↓cC_10_4 hRC, ↓cC_10_5 hRC, ↓cC_11_0 hRC, ↓cC_11_1 hRC, ↓cC_14_0 hRC, ↓cC_14_1 hRC, ↓cC_21_0 hRC, ↓cC_21_1 hRC, ↓cC_21_2 hRC, ↓bdn7, ↓brf7, ↓bgr7, ↓ban7]
    rfl
