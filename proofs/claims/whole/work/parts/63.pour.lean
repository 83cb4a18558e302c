/-! POUR -/
theorem l_toInt (a b : Int32) : (Int32.toInt64 a + Int32.toInt64 b).toInt = a.toInt + b.toInt := by
  have h1 := i_range a
  have h2 := i_range b
  rw [Int64.toInt_add, Int32.toInt_toInt64, Int32.toInt_toInt64]
  simp only [Int.bmod]
  omega
theorem i_sub {a b : Int32} (h : -2147483648 ≤ a.toInt - b.toInt ∧ a.toInt - b.toInt ≤ 2147483647) : (a - b).toInt = a.toInt - b.toInt := by
  rw [Int32.toInt_sub]
  simp only [Int.bmod]
  omega
theorem sL_rL (w : Mm) (r k : Nat) (g : Nat → Int64) (v : Int64) : sL (rL w r g) r k v = rL w r (fun j => if j = k then v else g j) := by
  obtain ⟨n, i, l, q⟩ := w
  simp only [sL, rL, Prod.mk.injEq, true_and, and_true]
  funext a j
  simp only [up2, upr]
  by_cases h : a = r
  · simp only [h, true_and, ↓reduceIte]
  · simp only [h, false_and, ↓reduceIte]
theorem rL_self (w : Mm) (r : Nat) (g : Nat → Int64) (h : ∀ j, g j = gL w r j) : rL w r g = w := by
  obtain ⟨n, i, l, q⟩ := w
  simp only [rL, Prod.mk.injEq, true_and, and_true]
  funext a j
  simp only [upr]
  by_cases e : a = r
  · rw [if_pos e, e]; exact h j
  · rw [if_neg e]
theorem gL_rL_e (w : Mm) (r : Nat) (g : Nat → Int64) (j : Nat) : gL (rL w r g) r j = g j := by rw [gL_rL, if_pos rfl]
theorem ix40b (t p a : Nat) : (40 : Int32) * nI t + nI p + nI a = nI (40 * t + p + a) := by rw [ix40, nI_add]
/-- the reference's loop, upwards -/
theorem pr_up {w : Mm} (hRM : RM w) (h60 : 60 ≤ w.1) {t p s q m : Nat} (h1 : 40 * t + p + m ≤ 160) (h2 : 40 * s + q + m ≤ 160) (hd : ∀ a, a < m → ¬ (40 * s + q ≤ 40 * t + p + a ∧ 40 * t + p + a < 40 * s + q + a)) {k : Int32 → Mm → Option (Int32 × Mm)} : ∀ (d n a : Nat), a + d = m → d < n → L_X8_pour_158 33 (nI t) (nI p) (nI s) (nI q) (nI m) 0 k n (nI a) (rL w 36 (va_cpy (gL w 36) (gL w 36) (40 * t + p) (40 * s + q) a)) = k (nI m) (rL w 36 (va_cpy (gL w 36) (gL w 36) (40 * t + p) (40 * s + q) m)) := by
  intro d
  induction d with
  | zero =>
    intro n a e1 e2
    obtain ⟨n, rfl⟩ : ∃ b, n = b + 1 := ⟨n - 1, by omega⟩
    have e : a = m := by omega
    subst e
    rw [L_X8_pour_158, if_pos (nI_le (Nat.le_refl _) (by omega))]
  | succ d ih =>
    intro n a e1 e2
    obtain ⟨n, rfl⟩ : ∃ b, n = b + 1 := ⟨n - 1, by omega⟩
    have hx := hd a (by omega)
    rw [L_X8_pour_158, if_neg (nI_ge (by omega) (by omega)), if_pos rfl]
    simp (disch := first | exact h60 | omega | with_unfolding_all exact h60) only [↓bb_e, ↓c_sI, ↓o_sI, ↓a_sI, ↓c_sL, ↓o_sL, ↓a_sL, ↓c_rI, ↓o_rI, ↓a_rI, ↓c_rL, ↓o_rL, ↓a_rL, ↓c_rngI, ↓o_rngI, ↓a_rngI, ↓c_rngL, ↓o_rngL, ↓a_rngL, ↓bd_s, ↓cs_s, ↓cs_n, ↓gd_t, ↓gB0, ↓gB1, ↓gOT, ↓gAS, ↓gOY, ↓gAY, ↓reduceIte, d10, nI_clamp, nI_1', i0eq, ↓gO33 h60, ↓gA34 h60, ↓gA35 h60, ↓gA36 h60, ↓gA37 h60, ↓gA38 h60, ↓gA39 h60, ↓gA40 h60, ↓gA41 h60, ↓gA42 h60, ↓gA43 h60, ↓gA44 h60, ↓gA45 h60, ↓gA46 h60, ↓gA47 h60, ↓gA48 h60, ↓gA49 h60, ↓gA50 h60, ↓gA51 h60, ↓gA52 h60, ↓gA53 h60, ↓gA54 h60, ↓gA55 h60, ↓gA56 h60, ↓gA57 h60, ↓gA58 h60, ↓gA59 h60, ↓cM_4 hRM, ↓cM_5 hRM, ↓cM_6 hRM, ↓cM_8 hRM, ↓cM_9 hRM, ↓cM_10 hRM, ↓cM_11 hRM, ↓cM_12 hRM, ↓cM_13 hRM, ↓cM_14 hRM, ↓cM_15 hRM, ↓cM_16 hRM, ↓cM_17 hRM, ↓cM_18 hRM, ↓cM_19 hRM, ↓cM_20 hRM, ↓cM_21 hRM, ↓cM_23 hRM, ↓cM_24 hRM, ↓cM_25 hRM, ↓cM_26 hRM, ↓cM_27 hRM, ↓cM_28 hRM, ↓cM_29 hRM, ↓cM_30 hRM, ↓cM_32 hRM, ↓bno8, ↓brf8, ix40b, gL_rL_e, sL_rL]
    rw [pk_cpy_out (by omega)]
    have e : (fun j => if j = 40 * s + q + a then gL w 36 (40 * t + p + a) else va_cpy (gL w 36) (gL w 36) (40 * t + p) (40 * s + q) a j) = va_cpy (gL w 36) (gL w 36) (40 * t + p) (40 * s + q) (a + 1) := by
      funext j
      by_cases c : j = 40 * s + q + a
      · rw [if_pos c, pk_cpy_in (by omega) (by omega)]
        congr 1
        omega
      · rw [if_neg c]
        by_cases c2 : 40 * s + q ≤ j ∧ j < 40 * s + q + a
        · rw [pk_cpy_in (by omega) (by omega), pk_cpy_in (by omega) (by omega)]
        · rw [pk_cpy_out (by omega), pk_cpy_out (by omega)]
    rw [e]
    exact ih n (a + 1) (by omega) (by omega)
theorem nI_sub' {a b : Nat} (h : b ≤ a) : nI a - nI b = nI (a - b) := by
  have := nI_add (a - b) b
  rw [Nat.sub_add_cancel h] at this
  rw [← this, Int32.add_sub_cancel]
/-- downwards -/
theorem pr_dn {w : Mm} (hRM : RM w) (h60 : 60 ≤ w.1) {t p s q m : Nat} (h1 : 40 * t + p + m ≤ 160) (h2 : 40 * s + q + m ≤ 160) (hd : ∀ a, a < m → ¬ (40 * s + q + m - a ≤ 40 * t + p + (m - 1 - a) ∧ 40 * t + p + (m - 1 - a) < 40 * s + q + m)) {k : Int32 → Mm → Option (Int32 × Mm)} : ∀ (d n a : Nat), a + d = m → d < n → L_X8_pour_158 33 (nI t) (nI p) (nI s) (nI q) (nI m) 1 k n (nI a) (rL w 36 (va_cpy (gL w 36) (gL w 36) (40 * t + p + m - a) (40 * s + q + m - a) a)) = k (nI m) (rL w 36 (va_cpy (gL w 36) (gL w 36) (40 * t + p) (40 * s + q) m)) := by
  intro d
  induction d with
  | zero =>
    intro n a e1 e2
    obtain ⟨n, rfl⟩ : ∃ b, n = b + 1 := ⟨n - 1, by omega⟩
    have e : a = m := by omega
    subst e
    rw [L_X8_pour_158, if_pos (nI_le (Nat.le_refl _) (by omega)), Nat.add_sub_cancel, Nat.add_sub_cancel]
  | succ d ih =>
    intro n a e1 e2
    obtain ⟨n, rfl⟩ : ∃ b, n = b + 1 := ⟨n - 1, by omega⟩
    have hx := hd a (by omega)
    have em : nI m - 1 - nI a = nI (m - 1 - a) := by
      rw [show (1 : Int32) = nI 1 from rfl, nI_sub' (by omega), nI_sub' (by omega)]
    rw [L_X8_pour_158, if_neg (nI_ge (by omega) (by omega)), if_neg (by decide), em]
    simp (disch := first | exact h60 | omega | with_unfolding_all exact h60) only [↓bb_e, ↓c_sI, ↓o_sI, ↓a_sI, ↓c_sL, ↓o_sL, ↓a_sL, ↓c_rI, ↓o_rI, ↓a_rI, ↓c_rL, ↓o_rL, ↓a_rL, ↓c_rngI, ↓o_rngI, ↓a_rngI, ↓c_rngL, ↓o_rngL, ↓a_rngL, ↓bd_s, ↓cs_s, ↓cs_n, ↓gd_t, ↓gB0, ↓gB1, ↓gOT, ↓gAS, ↓gOY, ↓gAY, ↓reduceIte, d10, nI_clamp, nI_1', i0eq, ↓gO33 h60, ↓gA34 h60, ↓gA35 h60, ↓gA36 h60, ↓gA37 h60, ↓gA38 h60, ↓gA39 h60, ↓gA40 h60, ↓gA41 h60, ↓gA42 h60, ↓gA43 h60, ↓gA44 h60, ↓gA45 h60, ↓gA46 h60, ↓gA47 h60, ↓gA48 h60, ↓gA49 h60, ↓gA50 h60, ↓gA51 h60, ↓gA52 h60, ↓gA53 h60, ↓gA54 h60, ↓gA55 h60, ↓gA56 h60, ↓gA57 h60, ↓gA58 h60, ↓gA59 h60, ↓cM_4 hRM, ↓cM_5 hRM, ↓cM_6 hRM, ↓cM_8 hRM, ↓cM_9 hRM, ↓cM_10 hRM, ↓cM_11 hRM, ↓cM_12 hRM, ↓cM_13 hRM, ↓cM_14 hRM, ↓cM_15 hRM, ↓cM_16 hRM, ↓cM_17 hRM, ↓cM_18 hRM, ↓cM_19 hRM, ↓cM_20 hRM, ↓cM_21 hRM, ↓cM_23 hRM, ↓cM_24 hRM, ↓cM_25 hRM, ↓cM_26 hRM, ↓cM_27 hRM, ↓cM_28 hRM, ↓cM_29 hRM, ↓cM_30 hRM, ↓cM_32 hRM, ↓bno8, ↓brf8, ix40b, gL_rL_e, sL_rL]
    rw [pk_cpy_out (by omega)]
    have e : (fun j => if j = 40 * s + q + (m - 1 - a) then gL w 36 (40 * t + p + (m - 1 - a)) else va_cpy (gL w 36) (gL w 36) (40 * t + p + m - a) (40 * s + q + m - a) a j) = va_cpy (gL w 36) (gL w 36) (40 * t + p + m - (a + 1)) (40 * s + q + m - (a + 1)) (a + 1) := by
      funext j
      by_cases c : j = 40 * s + q + (m - 1 - a)
      · rw [if_pos c, pk_cpy_in (by omega) (by omega)]
        congr 1
        omega
      · rw [if_neg c]
        by_cases c2 : 40 * s + q + m - a ≤ j ∧ j < 40 * s + q + m
        · rw [pk_cpy_in (by omega) (by omega), pk_cpy_in (by omega) (by omega)]
          congr 1
          omega
        · rw [pk_cpy_out (by omega), pk_cpy_out (by omega)]
    rw [e]
    exact ih n (a + 1) (by omega) (by omega)
abbrev poA (A : Ab) (t p s q m : Nat) : Ab := qL A 36 (va_cpy (aL A 36) (aL A 36) (40 * t + p) (40 * s + q) m)
theorem CR_pour {u : Mm} {A : Ab} (hC : CR u A) {t p s q m k l : Nat} (ht : t < 4) (hs : s < 4) (hk : aI A 35 t = nI k) (hk4 : k ≤ 40) (hl : aI A 35 s = nI l) (hl4 : l ≤ 40) (h1 : p + m ≤ k) (h2 : q + m ≤ l) : CR (rL u (26 + 2 * s) (va_cpy (gL u (26 + 2 * t)) (gL u (26 + 2 * s)) p q m)) (poA A t p s q m) := by
  refine CR_y hC rfl (fun _ _ => rfl) (fun _ _ _ => rfl) (by intro r k h; rw [gL_rL, if_neg (by omega)]) rfl rfl (fun _ _ _ => rfl) (by intro r k h; rw [aL_qL, if_neg h]) ?_
  have hsrc : ∀ j, j < k → gL u (26 + 2 * t) j = aL A 36 (40 * t + j) := fun j hj => by
    rcases y_cases hC ht with ⟨y1, -⟩ | ⟨k', y0, y1, -, -, y2⟩
    · rw [hk] at y1
      exact absurd y1 (by rw [i_eq, li_m1, nI_toInt (by omega)]; omega)
    · rw [hk, nI_eq (by omega) (by omega)] at y1
      exact y2 j (by omega)
  intro x hx
  rcases y_cases hC hx with y | ⟨k', q1, q2, q3, q4, q5⟩
  · exact Or.inl y
  · refine Or.inr ⟨k', q1, q2, q3, q4, fun j hj => ?_⟩
    rw [gL_rL, aL_qL, if_pos rfl]
    by_cases e : x = s
    · subst e
      rw [if_pos rfl]
      by_cases c : q ≤ j ∧ j < q + m
      · rw [pk_cpy_in c.1 c.2, pk_cpy_in (by omega) (by omega), hsrc _ (by omega)]
        congr 1
        omega
      · rw [pk_cpy_out (by omega), pk_cpy_out (by omega)]
        exact q5 j hj
    · rw [if_neg (by omega), pk_cpy_out (by omega)]
      exact q5 j hj
theorem MR_pour {w : Mm} {A : Ab} (hM : MR w A) {t p s q m k l : Nat} (ht : t < 4) (hs : s < 4) (hk : aI A 35 t = nI k) (hk4 : k ≤ 40) (hl : aI A 35 s = nI l) (hl4 : l ≤ 40) (h1 : p + m ≤ k) (h2 : q + m ≤ l) : MR (rL w 36 (va_cpy (gL w 36) (gL w 36) (40 * t + p) (40 * s + q) m)) (poA A t p s q m) := by
  refine MR_y hM rfl (fun _ _ => rfl) (fun _ _ _ => rfl) (by intro r k h; rw [gL_rL, if_neg h]) rfl rfl (fun _ _ _ => rfl) (by intro r k h; rw [aL_qL, if_neg h]) ?_
  obtain ⟨-, -, -, -, -, -, hy, -⟩ := hM
  intro x hx
  obtain ⟨q1, q2, q3⟩ := hy x hx
  refine ⟨q1, q2, fun k' e1 e2 j hj => ?_⟩
  rw [gL_rL_e, aL_qL, if_pos rfl]
  by_cases c : 40 * s + q ≤ 40 * x + j ∧ 40 * x + j < 40 * s + q + m
  · rw [pk_cpy_in c.1 c.2, pk_cpy_in c.1 c.2]
    have := (hy t ht).2.2 k hk hk4 (p + (40 * x + j - (40 * s + q))) (by omega)
    rw [Nat.add_assoc]
    exact this
  · rw [pk_cpy_out (by omega), pk_cpy_out (by omega)]
    exact q3 k' e1 e2 j hj
theorem run_t {u : Mm} {A : Ab} (hC : CR u A) {t k : Nat} (ht : t < 4) (hk : gI u (25 + 2 * t) 2 = nI k) (hk4 : k ≤ 40) {p q : Int32} (hq : 0 ≤ q.toInt) : f_X6_hasRun (25 + 2 * t) p q u = some (if 0 ≤ p.toInt ∧ p.toInt + q.toInt ≤ k then 1 else 0) := by
  have hn := hC.2.1.1
  have h1 := i_range q
  have e : (nI k - q).toInt = k - q.toInt := by rw [i_sub (by rw [nI_toInt (by omega)]; omega), nI_toInt (by omega)]
  rw [f_X6_hasRun]
  by_cases c : p < 0
  · rw [if_pos c, if_neg (by rw [i_lt, li_0] at c; omega)]
  · rw [if_neg c, oY (by omega) ht, gd_t, hk]
    rw [i_lt, li_0] at c
    by_cases c2 : nI k - q < p
    · rw [if_pos c2, if_neg (by rw [i_lt, e] at c2; omega)]
    · rw [if_neg c2, if_pos (by rw [i_lt, e] at c2; omega)]
theorem yl {u : Mm} {A : Ab} (hC : CR u A) {t k : Nat} (ht : t < 4) (hk4 : k ≤ 40) (hk : aI A 35 t = nI k) : gI u (25 + 2 * t) 1 = aI A 34 t ∧ gI u (25 + 2 * t) 2 = nI k := by
  rcases y_cases hC ht with ⟨y1, -⟩ | ⟨k', y0, y1, y2, y3, -⟩
  · rw [hk] at y1
    exact absurd y1 (by rw [i_eq, li_m1, nI_toInt (by omega)]; omega)
  · rw [hk] at y1
    rw [← y1] at y3
    exact ⟨y2, y3⟩
/-- what stands against a pouring -/
def poR (A : Ab) (p1 p2 p3 p4 p5 c : Int32) : Prop :=
  (¬ (0 ≤ p1.toInt ∧ p1.toInt < 4) ∧ c = 1) ∨ ((0 ≤ p1.toInt ∧ p1.toInt < 4) ∧ ¬ (0 ≤ p3.toInt ∧ p3.toInt < 4) ∧ c = 1) ∨ ∃ t s, t < 4 ∧ s < 4 ∧ p1 = nI t ∧ p3 = nI s ∧
    ((aI A 35 t = -1 ∧ c = 3) ∨ (∃ k, k ≤ 40 ∧ aI A 35 t = nI k ∧ ((aI A 35 s = -1 ∧ c = 3) ∨ ∃ l, l ≤ 40 ∧ aI A 35 s = nI l ∧ ((¬ aI A 34 t = aI A 34 s ∧ c = 11) ∨ (aI A 34 t = aI A 34 s ∧ ((p5.toInt < 0 ∧ c = 6) ∨ (0 ≤ p5.toInt ∧ ¬ ((0 ≤ p2.toInt ∧ p2.toInt + p5.toInt ≤ k) ∧ (0 ≤ p4.toInt ∧ p4.toInt + p5.toInt ≤ l)) ∧ c = 4)))))))
def poG (A : Ab) (p1 p2 p3 p4 p5 : Int32) : Prop := ∃ t s k l p q m, t < 4 ∧ s < 4 ∧ p1 = nI t ∧ p3 = nI s ∧ k ≤ 40 ∧ aI A 35 t = nI k ∧ l ≤ 40 ∧ aI A 35 s = nI l ∧ aI A 34 t = aI A 34 s ∧ p2 = nI p ∧ p4 = nI q ∧ p5 = nI m ∧ p + m ≤ k ∧ q + m ≤ l
theorem po_cases {A : Ab} (hW : Wf A) (p1 p2 p3 p4 p5 : Int32) : (∃ c, poR A p1 p2 p3 p4 p5 c) ∨ poG A p1 p2 p3 p4 p5 := by
  have hy : ∀ t, t < 4 → aI A 35 t = -1 ∨ ∃ k, k ≤ 40 ∧ aI A 35 t = nI k := fun t ht => by
    have := (hW.2.2.2.2.1 t ht).2
    by_cases c : aI A 35 t = -1
    · exact Or.inl c
    · have := i_ne c
      obtain ⟨k, hk, e⟩ := i_ex2 (p := aI A 35 t) (n := 41) (by omega)
      exact Or.inr ⟨k, by omega, e⟩
  by_cases h1 : 0 ≤ p1.toInt ∧ p1.toInt < 4
  · by_cases h3 : 0 ≤ p3.toInt ∧ p3.toInt < 4
    · obtain ⟨t, ht, rfl⟩ := i_ex2 (n := 4) h1
      obtain ⟨s, hs, rfl⟩ := i_ex2 (n := 4) h3
      rcases hy t ht with yt | ⟨k, hk, yt⟩
      · exact Or.inl ⟨3, Or.inr (Or.inr ⟨t, s, ht, hs, rfl, rfl, Or.inl ⟨yt, rfl⟩⟩)⟩
      · rcases hy s hs with ys | ⟨l, hl, ys⟩
        · exact Or.inl ⟨3, Or.inr (Or.inr ⟨t, s, ht, hs, rfl, rfl, Or.inr ⟨k, hk, yt, Or.inl ⟨ys, rfl⟩⟩⟩)⟩
        · by_cases h4 : aI A 34 t = aI A 34 s
          · by_cases h5 : 0 ≤ p5.toInt
            · by_cases h6 : (0 ≤ p2.toInt ∧ p2.toInt + p5.toInt ≤ k) ∧ (0 ≤ p4.toInt ∧ p4.toInt + p5.toInt ≤ l)
              · obtain ⟨p, hp, rfl⟩ := i_ex2 (p := p2) (n := 41) (by omega)
                obtain ⟨q, hq, rfl⟩ := i_ex2 (p := p4) (n := 41) (by omega)
                obtain ⟨m, hm, rfl⟩ := i_ex2 (p := p5) (n := 41) (by rw [nI_toInt (by omega)] at h6; omega)
                simp (disch := omega) only [nI_toInt] at h6
                exact Or.inr ⟨t, s, k, l, p, q, m, ht, hs, rfl, rfl, hk, yt, hl, ys, h4, rfl, rfl, rfl, by omega, by omega⟩
              · exact Or.inl ⟨4, Or.inr (Or.inr ⟨t, s, ht, hs, rfl, rfl, Or.inr ⟨k, hk, yt, Or.inr ⟨l, hl, ys, Or.inr ⟨h4, Or.inr ⟨h5, h6, rfl⟩⟩⟩⟩⟩)⟩
            · exact Or.inl ⟨6, Or.inr (Or.inr ⟨t, s, ht, hs, rfl, rfl, Or.inr ⟨k, hk, yt, Or.inr ⟨l, hl, ys, Or.inr ⟨h4, Or.inl ⟨by omega, rfl⟩⟩⟩⟩⟩)⟩
          · exact Or.inl ⟨11, Or.inr (Or.inr ⟨t, s, ht, hs, rfl, rfl, Or.inr ⟨k, hk, yt, Or.inr ⟨l, hl, ys, Or.inl ⟨h4, rfl⟩⟩⟩⟩)⟩
    · exact Or.inl ⟨1, Or.inr (Or.inl ⟨h1, h3, rfl⟩)⟩
  · exact Or.inl ⟨1, Or.inl ⟨h1, rfl⟩⟩
theorem miss_t {u : Mm} {A : Ab} (hC : CR u A) {t : Nat} (ht : t < 4) (h : aI A 35 t = -1) : f_X6_isMissing (25 + 2 * t) u = some 1 := by
  have hn := hC.2.1.1
  rcases y_cases hC ht with ⟨y1, y2, -⟩ | ⟨k', y0, y1, -⟩
  · rw [f_X6_isMissing, oY (by omega) ht, gd_t, y2, if_pos rfl]
  · rw [h] at y1
    exact absurd y1.symm (by rw [i_eq, li_m1, nI_toInt (by omega)]; omega)
theorem miss_f {u : Mm} {A : Ab} (hW : Wf A) (hC : CR u A) {t k : Nat} (ht : t < 4) (hk4 : k ≤ 40) (h : aI A 35 t = nI k) : f_X6_isMissing (25 + 2 * t) u = some 0 := by
  have hn := hC.2.1.1
  have := (hW.2.2.2.2.1 t ht).1
  rw [f_X6_isMissing, oY (by omega) ht, gd_t, (yl hC ht hk4 h).1, if_neg (fun q => by rw [q, li_m1] at this; omega)]
theorem C_pourR {u : Mm} {A : Ab} (hW : Wf A) (hC : CR u A) {p1 p2 p3 p4 p5 c : Int32} (h : poR A p1 p2 p3 p4 p5 c) : f_X7_pour 0 p1 p2 p3 p4 p5 u = some (0, sI u 0 5 c) := by
  obtain ⟨hRC, hN, -⟩ := id hC
  have hn1 := hN.1
  have h60 : 60 ≤ u.1 := by omega
  rcases h with ⟨a1, rfl⟩ | ⟨a1, a2, rfl⟩ | ⟨t, s, ht, hs, rfl, rfl, h⟩
  · by_cases a2 : 0 ≤ p3.toInt ∧ p3.toInt < 4
    · obtain ⟨s, hs, rfl⟩ := i_ex2 (n := 4) a2
      simp (disch := first | exact h60 | omega | with_unfolding_all exact h60) only [f_X7_pour, ↓bd_of (ta_none hC a1), ↓bd_of (ta_some hC hs), ↓bb_e, ↓c_sI, ↓o_sI, ↓a_sI, ↓c_sL, ↓o_sL, ↓a_sL, ↓c_rI, ↓o_rI, ↓a_rI, ↓c_rL, ↓o_rL, ↓a_rL, ↓c_rngI, ↓o_rngI, ↓a_rngI, ↓c_rngL, ↓o_rngL, ↓a_rngL, ↓bd_s, ↓cs_s, ↓cs_n, ↓gd_t, ↓gB0, ↓gB1, ↓gOT, ↓gAS, ↓gOY, ↓gAY, ↓reduceIte, d10, nI_clamp, nI_1', i0eq, ↓gO0 h60, ↓gO2 h60, ↓gO6 h60, ↓gO10 h60, ↓gO11 h60, ↓gO14 h60, ↓gO21 h60, ↓gA1 h60, ↓gA3 h60, ↓gA4 h60, ↓gA5 h60, ↓gA7 h60, ↓gA8 h60, ↓gA9 h60, ↓gA12 h60, ↓gA13 h60, ↓gA15 h60, ↓gA16 h60, ↓gA17 h60, ↓gA18 h60, ↓gA19 h60, ↓gA20 h60, ↓gA22 h60, ↓gA23 h60, ↓gA24 h60, ↓cC_0_0 hRC, ↓cC_0_1 hRC, ↓cC_0_2 hRC, ↓cC_0_3 hRC, ↓cC_0_4 hRC, ↓cC_2_0 hRC, ↓cC_2_2 hRC, ↓cC_2_3 hRC, ↓cC_6_0 hRC, ↓cC_6_1 hRC, ↓cC_6_2 hRC, ↓cC_10_0 hRC, ↓cC_10_1 hRC, ↓cC_10_2 hRC, ↓cC_10_3 hRC, ↓cC_10_4 hRC, ↓cC_10_5 hRC, ↓cC_11_0 hRC, ↓cC_11_1 hRC, ↓cC_14_0 hRC, ↓cC_14_1 hRC, ↓cC_21_0 hRC, ↓cC_21_1 hRC, ↓cC_21_2 hRC, ↓bdn7, ↓brf7, ↓bgr7, ↓ban7]
    · simp (disch := first | exact h60 | omega | with_unfolding_all exact h60) only [f_X7_pour, ↓bd_of (ta_none hC a1), ↓bd_of (ta_none hC a2), ↓bb_e, ↓c_sI, ↓o_sI, ↓a_sI, ↓c_sL, ↓o_sL, ↓a_sL, ↓c_rI, ↓o_rI, ↓a_rI, ↓c_rL, ↓o_rL, ↓a_rL, ↓c_rngI, ↓o_rngI, ↓a_rngI, ↓c_rngL, ↓o_rngL, ↓a_rngL, ↓bd_s, ↓cs_s, ↓cs_n, ↓gd_t, ↓gB0, ↓gB1, ↓gOT, ↓gAS, ↓gOY, ↓gAY, ↓reduceIte, d10, nI_clamp, nI_1', i0eq, ↓gO0 h60, ↓gO2 h60, ↓gO6 h60, ↓gO10 h60, ↓gO11 h60, ↓gO14 h60, ↓gO21 h60, ↓gA1 h60, ↓gA3 h60, ↓gA4 h60, ↓gA5 h60, ↓gA7 h60, ↓gA8 h60, ↓gA9 h60, ↓gA12 h60, ↓gA13 h60, ↓gA15 h60, ↓gA16 h60, ↓gA17 h60, ↓gA18 h60, ↓gA19 h60, ↓gA20 h60, ↓gA22 h60, ↓gA23 h60, ↓gA24 h60, ↓cC_0_0 hRC, ↓cC_0_1 hRC, ↓cC_0_2 hRC, ↓cC_0_3 hRC, ↓cC_0_4 hRC, ↓cC_2_0 hRC, ↓cC_2_2 hRC, ↓cC_2_3 hRC, ↓cC_6_0 hRC, ↓cC_6_1 hRC, ↓cC_6_2 hRC, ↓cC_10_0 hRC, ↓cC_10_1 hRC, ↓cC_10_2 hRC, ↓cC_10_3 hRC, ↓cC_10_4 hRC, ↓cC_10_5 hRC, ↓cC_11_0 hRC, ↓cC_11_1 hRC, ↓cC_14_0 hRC, ↓cC_14_1 hRC, ↓cC_21_0 hRC, ↓cC_21_1 hRC, ↓cC_21_2 hRC, ↓bdn7, ↓brf7, ↓bgr7, ↓ban7]
  · obtain ⟨t, ht, rfl⟩ := i_ex2 (n := 4) a1
    simp (disch := first | exact h60 | omega | with_unfolding_all exact h60) only [f_X7_pour, ↓bd_of (ta_some hC ht), ↓bd_of (ta_none hC a2), ↓bb_e, ↓c_sI, ↓o_sI, ↓a_sI, ↓c_sL, ↓o_sL, ↓a_sL, ↓c_rI, ↓o_rI, ↓a_rI, ↓c_rL, ↓o_rL, ↓a_rL, ↓c_rngI, ↓o_rngI, ↓a_rngI, ↓c_rngL, ↓o_rngL, ↓a_rngL, ↓bd_s, ↓cs_s, ↓cs_n, ↓gd_t, ↓gB0, ↓gB1, ↓gOT, ↓gAS, ↓gOY, ↓gAY, ↓reduceIte, d10, nI_clamp, nI_1', i0eq, ↓gO0 h60, ↓gO2 h60, ↓gO6 h60, ↓gO10 h60, ↓gO11 h60, ↓gO14 h60, ↓gO21 h60, ↓gA1 h60, ↓gA3 h60, ↓gA4 h60, ↓gA5 h60, ↓gA7 h60, ↓gA8 h60, ↓gA9 h60, ↓gA12 h60, ↓gA13 h60, ↓gA15 h60, ↓gA16 h60, ↓gA17 h60, ↓gA18 h60, ↓gA19 h60, ↓gA20 h60, ↓gA22 h60, ↓gA23 h60, ↓gA24 h60, ↓cC_0_0 hRC, ↓cC_0_1 hRC, ↓cC_0_2 hRC, ↓cC_0_3 hRC, ↓cC_0_4 hRC, ↓cC_2_0 hRC, ↓cC_2_2 hRC, ↓cC_2_3 hRC, ↓cC_6_0 hRC, ↓cC_6_1 hRC, ↓cC_6_2 hRC, ↓cC_10_0 hRC, ↓cC_10_1 hRC, ↓cC_10_2 hRC, ↓cC_10_3 hRC, ↓cC_10_4 hRC, ↓cC_10_5 hRC, ↓cC_11_0 hRC, ↓cC_11_1 hRC, ↓cC_14_0 hRC, ↓cC_14_1 hRC, ↓cC_21_0 hRC, ↓cC_21_1 hRC, ↓cC_21_2 hRC, ↓bdn7, ↓brf7, ↓bgr7, ↓ban7]
  · have b1 := ta_some hC ht
    have b2 := ta_some hC hs
    rcases h with ⟨y, rfl⟩ | ⟨k, hk, yt, h⟩
    · simp (disch := first | exact h60 | omega | with_unfolding_all exact h60) only [f_X7_pour, ↓bd_of b1, ↓bd_of b2, ↓bd_of (miss_t hC ht y), ↓bb_e, ↓c_sI, ↓o_sI, ↓a_sI, ↓c_sL, ↓o_sL, ↓a_sL, ↓c_rI, ↓o_rI, ↓a_rI, ↓c_rL, ↓o_rL, ↓a_rL, ↓c_rngI, ↓o_rngI, ↓a_rngI, ↓c_rngL, ↓o_rngL, ↓a_rngL, ↓bd_s, ↓cs_s, ↓cs_n, ↓gd_t, ↓gB0, ↓gB1, ↓gOT, ↓gAS, ↓gOY, ↓gAY, ↓reduceIte, d10, nI_clamp, nI_1', i0eq, ↓gO0 h60, ↓gO2 h60, ↓gO6 h60, ↓gO10 h60, ↓gO11 h60, ↓gO14 h60, ↓gO21 h60, ↓gA1 h60, ↓gA3 h60, ↓gA4 h60, ↓gA5 h60, ↓gA7 h60, ↓gA8 h60, ↓gA9 h60, ↓gA12 h60, ↓gA13 h60, ↓gA15 h60, ↓gA16 h60, ↓gA17 h60, ↓gA18 h60, ↓gA19 h60, ↓gA20 h60, ↓gA22 h60, ↓gA23 h60, ↓gA24 h60, ↓cC_0_0 hRC, ↓cC_0_1 hRC, ↓cC_0_2 hRC, ↓cC_0_3 hRC, ↓cC_0_4 hRC, ↓cC_2_0 hRC, ↓cC_2_2 hRC, ↓cC_2_3 hRC, ↓cC_6_0 hRC, ↓cC_6_1 hRC, ↓cC_6_2 hRC, ↓cC_10_0 hRC, ↓cC_10_1 hRC, ↓cC_10_2 hRC, ↓cC_10_3 hRC, ↓cC_10_4 hRC, ↓cC_10_5 hRC, ↓cC_11_0 hRC, ↓cC_11_1 hRC, ↓cC_14_0 hRC, ↓cC_14_1 hRC, ↓cC_21_0 hRC, ↓cC_21_1 hRC, ↓cC_21_2 hRC, ↓bdn7, ↓brf7, ↓bgr7, ↓ban7]
    · have m1 := miss_f hW hC ht hk yt
      obtain ⟨e1, e2⟩ := yl hC ht hk yt
      rcases h with ⟨y, rfl⟩ | ⟨l, hl, ys, h⟩
      · simp (disch := first | exact h60 | omega | with_unfolding_all exact h60) only [f_X7_pour, ↓bd_of b1, ↓bd_of b2, ↓bd_of m1, ↓bd_of (miss_t hC hs y), ↓bb_e, ↓c_sI, ↓o_sI, ↓a_sI, ↓c_sL, ↓o_sL, ↓a_sL, ↓c_rI, ↓o_rI, ↓a_rI, ↓c_rL, ↓o_rL, ↓a_rL, ↓c_rngI, ↓o_rngI, ↓a_rngI, ↓c_rngL, ↓o_rngL, ↓a_rngL, ↓bd_s, ↓cs_s, ↓cs_n, ↓gd_t, ↓gB0, ↓gB1, ↓gOT, ↓gAS, ↓gOY, ↓gAY, ↓reduceIte, d10, nI_clamp, nI_1', i0eq, ↓gO0 h60, ↓gO2 h60, ↓gO6 h60, ↓gO10 h60, ↓gO11 h60, ↓gO14 h60, ↓gO21 h60, ↓gA1 h60, ↓gA3 h60, ↓gA4 h60, ↓gA5 h60, ↓gA7 h60, ↓gA8 h60, ↓gA9 h60, ↓gA12 h60, ↓gA13 h60, ↓gA15 h60, ↓gA16 h60, ↓gA17 h60, ↓gA18 h60, ↓gA19 h60, ↓gA20 h60, ↓gA22 h60, ↓gA23 h60, ↓gA24 h60, ↓cC_0_0 hRC, ↓cC_0_1 hRC, ↓cC_0_2 hRC, ↓cC_0_3 hRC, ↓cC_0_4 hRC, ↓cC_2_0 hRC, ↓cC_2_2 hRC, ↓cC_2_3 hRC, ↓cC_6_0 hRC, ↓cC_6_1 hRC, ↓cC_6_2 hRC, ↓cC_10_0 hRC, ↓cC_10_1 hRC, ↓cC_10_2 hRC, ↓cC_10_3 hRC, ↓cC_10_4 hRC, ↓cC_10_5 hRC, ↓cC_11_0 hRC, ↓cC_11_1 hRC, ↓cC_14_0 hRC, ↓cC_14_1 hRC, ↓cC_21_0 hRC, ↓cC_21_1 hRC, ↓cC_21_2 hRC, ↓bdn7, ↓brf7, ↓bgr7, ↓ban7]
      · have m2 := miss_f hW hC hs hl ys
        obtain ⟨f1, f2⟩ := yl hC hs hl ys
        rcases h with ⟨g, rfl⟩ | ⟨g, h⟩
        · simp (disch := first | exact h60 | omega | with_unfolding_all exact h60) only [f_X7_pour, ↓bd_of b1, ↓bd_of b2, ↓bd_of m1, ↓bd_of m2, e1, f1, eq_false g, ↓bb_e, ↓c_sI, ↓o_sI, ↓a_sI, ↓c_sL, ↓o_sL, ↓a_sL, ↓c_rI, ↓o_rI, ↓a_rI, ↓c_rL, ↓o_rL, ↓a_rL, ↓c_rngI, ↓o_rngI, ↓a_rngI, ↓c_rngL, ↓o_rngL, ↓a_rngL, ↓bd_s, ↓cs_s, ↓cs_n, ↓gd_t, ↓gB0, ↓gB1, ↓gOT, ↓gAS, ↓gOY, ↓gAY, ↓reduceIte, d10, nI_clamp, nI_1', i0eq, ↓gO0 h60, ↓gO2 h60, ↓gO6 h60, ↓gO10 h60, ↓gO11 h60, ↓gO14 h60, ↓gO21 h60, ↓gA1 h60, ↓gA3 h60, ↓gA4 h60, ↓gA5 h60, ↓gA7 h60, ↓gA8 h60, ↓gA9 h60, ↓gA12 h60, ↓gA13 h60, ↓gA15 h60, ↓gA16 h60, ↓gA17 h60, ↓gA18 h60, ↓gA19 h60, ↓gA20 h60, ↓gA22 h60, ↓gA23 h60, ↓gA24 h60, ↓cC_0_0 hRC, ↓cC_0_1 hRC, ↓cC_0_2 hRC, ↓cC_0_3 hRC, ↓cC_0_4 hRC, ↓cC_2_0 hRC, ↓cC_2_2 hRC, ↓cC_2_3 hRC, ↓cC_6_0 hRC, ↓cC_6_1 hRC, ↓cC_6_2 hRC, ↓cC_10_0 hRC, ↓cC_10_1 hRC, ↓cC_10_2 hRC, ↓cC_10_3 hRC, ↓cC_10_4 hRC, ↓cC_10_5 hRC, ↓cC_11_0 hRC, ↓cC_11_1 hRC, ↓cC_14_0 hRC, ↓cC_14_1 hRC, ↓cC_21_0 hRC, ↓cC_21_1 hRC, ↓cC_21_2 hRC, ↓bdn7, ↓brf7, ↓bgr7, ↓ban7]
        · rcases h with ⟨g5, rfl⟩ | ⟨g5, g6, rfl⟩
          · have n5 : ¬ 0 ≤ p5 := by rw [i_le, li_0]; omega
            simp (disch := first | exact h60 | omega | with_unfolding_all exact h60) only [f_X7_pour, ↓bd_of b1, ↓bd_of b2, ↓bd_of m1, ↓bd_of m2, e1, f1, eq_true g, eq_false n5, ↓bb_e, ↓c_sI, ↓o_sI, ↓a_sI, ↓c_sL, ↓o_sL, ↓a_sL, ↓c_rI, ↓o_rI, ↓a_rI, ↓c_rL, ↓o_rL, ↓a_rL, ↓c_rngI, ↓o_rngI, ↓a_rngI, ↓c_rngL, ↓o_rngL, ↓a_rngL, ↓bd_s, ↓cs_s, ↓cs_n, ↓gd_t, ↓gB0, ↓gB1, ↓gOT, ↓gAS, ↓gOY, ↓gAY, ↓reduceIte, d10, nI_clamp, nI_1', i0eq, ↓gO0 h60, ↓gO2 h60, ↓gO6 h60, ↓gO10 h60, ↓gO11 h60, ↓gO14 h60, ↓gO21 h60, ↓gA1 h60, ↓gA3 h60, ↓gA4 h60, ↓gA5 h60, ↓gA7 h60, ↓gA8 h60, ↓gA9 h60, ↓gA12 h60, ↓gA13 h60, ↓gA15 h60, ↓gA16 h60, ↓gA17 h60, ↓gA18 h60, ↓gA19 h60, ↓gA20 h60, ↓gA22 h60, ↓gA23 h60, ↓gA24 h60, ↓cC_0_0 hRC, ↓cC_0_1 hRC, ↓cC_0_2 hRC, ↓cC_0_3 hRC, ↓cC_0_4 hRC, ↓cC_2_0 hRC, ↓cC_2_2 hRC, ↓cC_2_3 hRC, ↓cC_6_0 hRC, ↓cC_6_1 hRC, ↓cC_6_2 hRC, ↓cC_10_0 hRC, ↓cC_10_1 hRC, ↓cC_10_2 hRC, ↓cC_10_3 hRC, ↓cC_10_4 hRC, ↓cC_10_5 hRC, ↓cC_11_0 hRC, ↓cC_11_1 hRC, ↓cC_14_0 hRC, ↓cC_14_1 hRC, ↓cC_21_0 hRC, ↓cC_21_1 hRC, ↓cC_21_2 hRC, ↓bdn7, ↓brf7, ↓bgr7, ↓ban7]
          · have n5 : 0 ≤ p5 := by rw [i_le, li_0]; omega
            have r1 := run_t hC ht e2 hk (p := p2) g5
            have r2 := run_t hC hs f2 hl (p := p4) g5
            by_cases g7 : 0 ≤ p2.toInt ∧ p2.toInt + p5.toInt ≤ k
            · rw [if_pos g7] at r1
              rw [if_neg (fun q => g6 ⟨g7, q⟩)] at r2
              simp (disch := first | exact h60 | omega | with_unfolding_all exact h60) only [f_X7_pour, ↓bd_of b1, ↓bd_of b2, ↓bd_of m1, ↓bd_of m2, ↓bd_of r1, ↓bd_of r2, e1, f1, eq_true g, eq_true n5, ↓bb_e, ↓c_sI, ↓o_sI, ↓a_sI, ↓c_sL, ↓o_sL, ↓a_sL, ↓c_rI, ↓o_rI, ↓a_rI, ↓c_rL, ↓o_rL, ↓a_rL, ↓c_rngI, ↓o_rngI, ↓a_rngI, ↓c_rngL, ↓o_rngL, ↓a_rngL, ↓bd_s, ↓cs_s, ↓cs_n, ↓gd_t, ↓gB0, ↓gB1, ↓gOT, ↓gAS, ↓gOY, ↓gAY, ↓reduceIte, d10, nI_clamp, nI_1', i0eq, ↓gO0 h60, ↓gO2 h60, ↓gO6 h60, ↓gO10 h60, ↓gO11 h60, ↓gO14 h60, ↓gO21 h60, ↓gA1 h60, ↓gA3 h60, ↓gA4 h60, ↓gA5 h60, ↓gA7 h60, ↓gA8 h60, ↓gA9 h60, ↓gA12 h60, ↓gA13 h60, ↓gA15 h60, ↓gA16 h60, ↓gA17 h60, ↓gA18 h60, ↓gA19 h60, ↓gA20 h60, ↓gA22 h60, ↓gA23 h60, ↓gA24 h60, ↓cC_0_0 hRC, ↓cC_0_1 hRC, ↓cC_0_2 hRC, ↓cC_0_3 hRC, ↓cC_0_4 hRC, ↓cC_2_0 hRC, ↓cC_2_2 hRC, ↓cC_2_3 hRC, ↓cC_6_0 hRC, ↓cC_6_1 hRC, ↓cC_6_2 hRC, ↓cC_10_0 hRC, ↓cC_10_1 hRC, ↓cC_10_2 hRC, ↓cC_10_3 hRC, ↓cC_10_4 hRC, ↓cC_10_5 hRC, ↓cC_11_0 hRC, ↓cC_11_1 hRC, ↓cC_14_0 hRC, ↓cC_14_1 hRC, ↓cC_21_0 hRC, ↓cC_21_1 hRC, ↓cC_21_2 hRC, ↓bdn7, ↓brf7, ↓bgr7, ↓ban7]
            · rw [if_neg g7] at r1
              simp (disch := first | exact h60 | omega | with_unfolding_all exact h60) only [f_X7_pour, ↓bd_of b1, ↓bd_of b2, ↓bd_of m1, ↓bd_of m2, ↓bd_of r1, e1, f1, eq_true g, eq_true n5, ↓bb_e, ↓c_sI, ↓o_sI, ↓a_sI, ↓c_sL, ↓o_sL, ↓a_sL, ↓c_rI, ↓o_rI, ↓a_rI, ↓c_rL, ↓o_rL, ↓a_rL, ↓c_rngI, ↓o_rngI, ↓a_rngI, ↓c_rngL, ↓o_rngL, ↓a_rngL, ↓bd_s, ↓cs_s, ↓cs_n, ↓gd_t, ↓gB0, ↓gB1, ↓gOT, ↓gAS, ↓gOY, ↓gAY, ↓reduceIte, d10, nI_clamp, nI_1', i0eq, ↓gO0 h60, ↓gO2 h60, ↓gO6 h60, ↓gO10 h60, ↓gO11 h60, ↓gO14 h60, ↓gO21 h60, ↓gA1 h60, ↓gA3 h60, ↓gA4 h60, ↓gA5 h60, ↓gA7 h60, ↓gA8 h60, ↓gA9 h60, ↓gA12 h60, ↓gA13 h60, ↓gA15 h60, ↓gA16 h60, ↓gA17 h60, ↓gA18 h60, ↓gA19 h60, ↓gA20 h60, ↓gA22 h60, ↓gA23 h60, ↓gA24 h60, ↓cC_0_0 hRC, ↓cC_0_1 hRC, ↓cC_0_2 hRC, ↓cC_0_3 hRC, ↓cC_0_4 hRC, ↓cC_2_0 hRC, ↓cC_2_2 hRC, ↓cC_2_3 hRC, ↓cC_6_0 hRC, ↓cC_6_1 hRC, ↓cC_6_2 hRC, ↓cC_10_0 hRC, ↓cC_10_1 hRC, ↓cC_10_2 hRC, ↓cC_10_3 hRC, ↓cC_10_4 hRC, ↓cC_10_5 hRC, ↓cC_11_0 hRC, ↓cC_11_1 hRC, ↓cC_14_0 hRC, ↓cC_14_1 hRC, ↓cC_21_0 hRC, ↓cC_21_1 hRC, ↓cC_21_2 hRC, ↓bdn7, ↓brf7, ↓bgr7, ↓ban7]
theorem M_pourR {v : Mm} {A : Ab} (hW : Wf A) (h60 : 60 ≤ v.1) (hM : MR (m0 v) A) {p1 p2 p3 p4 p5 c : Int32} (h : poR A p1 p2 p3 p4 p5 c) : f_X8_pour 33 p1 p2 p3 p4 p5 v = some (0, sI (m0 v) 33 0 c) := by
  rw [f_X8_pour, oO33 h60, gd_t]
  unfold m0 at hM ⊢
  generalize sI (sI v 33 1 0) 33 0 0 = w at *
  clear h60
  obtain ⟨hRM, h60, -, -, -, -, hY, -⟩ := id hM
  rcases h with ⟨a1, rfl⟩ | ⟨a1, a2, rfl⟩ | ⟨t, s, ht, hs, rfl, rfl, h⟩
  · by_cases b1 : p1 < 0
    · simp (disch := first | exact h60 | omega | with_unfolding_all exact h60) only [eq_true b1, ↓bb_e, ↓c_sI, ↓o_sI, ↓a_sI, ↓c_sL, ↓o_sL, ↓a_sL, ↓c_rI, ↓o_rI, ↓a_rI, ↓c_rL, ↓o_rL, ↓a_rL, ↓c_rngI, ↓o_rngI, ↓a_rngI, ↓c_rngL, ↓o_rngL, ↓a_rngL, ↓bd_s, ↓cs_s, ↓cs_n, ↓gd_t, ↓gB0, ↓gB1, ↓gOT, ↓gAS, ↓gOY, ↓gAY, ↓reduceIte, d10, nI_clamp, nI_1', i0eq, ↓gO33 h60, ↓gA34 h60, ↓gA35 h60, ↓gA36 h60, ↓gA37 h60, ↓gA38 h60, ↓gA39 h60, ↓gA40 h60, ↓gA41 h60, ↓gA42 h60, ↓gA43 h60, ↓gA44 h60, ↓gA45 h60, ↓gA46 h60, ↓gA47 h60, ↓gA48 h60, ↓gA49 h60, ↓gA50 h60, ↓gA51 h60, ↓gA52 h60, ↓gA53 h60, ↓gA54 h60, ↓gA55 h60, ↓gA56 h60, ↓gA57 h60, ↓gA58 h60, ↓gA59 h60, ↓cM_4 hRM, ↓cM_5 hRM, ↓cM_6 hRM, ↓cM_8 hRM, ↓cM_9 hRM, ↓cM_10 hRM, ↓cM_11 hRM, ↓cM_12 hRM, ↓cM_13 hRM, ↓cM_14 hRM, ↓cM_15 hRM, ↓cM_16 hRM, ↓cM_17 hRM, ↓cM_18 hRM, ↓cM_19 hRM, ↓cM_20 hRM, ↓cM_21 hRM, ↓cM_23 hRM, ↓cM_24 hRM, ↓cM_25 hRM, ↓cM_26 hRM, ↓cM_27 hRM, ↓cM_28 hRM, ↓cM_29 hRM, ↓cM_30 hRM, ↓cM_32 hRM, ↓bno8, ↓brf8]
    · have b2 : 4 ≤ p1 := by rw [i_lt, li_0] at b1; rw [i_le, li_4]; omega
      simp (disch := first | exact h60 | omega | with_unfolding_all exact h60) only [eq_false b1, eq_true b2, ↓bb_e, ↓c_sI, ↓o_sI, ↓a_sI, ↓c_sL, ↓o_sL, ↓a_sL, ↓c_rI, ↓o_rI, ↓a_rI, ↓c_rL, ↓o_rL, ↓a_rL, ↓c_rngI, ↓o_rngI, ↓a_rngI, ↓c_rngL, ↓o_rngL, ↓a_rngL, ↓bd_s, ↓cs_s, ↓cs_n, ↓gd_t, ↓gB0, ↓gB1, ↓gOT, ↓gAS, ↓gOY, ↓gAY, ↓reduceIte, d10, nI_clamp, nI_1', i0eq, ↓gO33 h60, ↓gA34 h60, ↓gA35 h60, ↓gA36 h60, ↓gA37 h60, ↓gA38 h60, ↓gA39 h60, ↓gA40 h60, ↓gA41 h60, ↓gA42 h60, ↓gA43 h60, ↓gA44 h60, ↓gA45 h60, ↓gA46 h60, ↓gA47 h60, ↓gA48 h60, ↓gA49 h60, ↓gA50 h60, ↓gA51 h60, ↓gA52 h60, ↓gA53 h60, ↓gA54 h60, ↓gA55 h60, ↓gA56 h60, ↓gA57 h60, ↓gA58 h60, ↓gA59 h60, ↓cM_4 hRM, ↓cM_5 hRM, ↓cM_6 hRM, ↓cM_8 hRM, ↓cM_9 hRM, ↓cM_10 hRM, ↓cM_11 hRM, ↓cM_12 hRM, ↓cM_13 hRM, ↓cM_14 hRM, ↓cM_15 hRM, ↓cM_16 hRM, ↓cM_17 hRM, ↓cM_18 hRM, ↓cM_19 hRM, ↓cM_20 hRM, ↓cM_21 hRM, ↓cM_23 hRM, ↓cM_24 hRM, ↓cM_25 hRM, ↓cM_26 hRM, ↓cM_27 hRM, ↓cM_28 hRM, ↓cM_29 hRM, ↓cM_30 hRM, ↓cM_32 hRM, ↓bno8, ↓brf8]
  · have b1 : ¬ p1 < 0 := by rw [i_lt, li_0]; omega
    have b2 : ¬ 4 ≤ p1 := by rw [i_le, li_4]; omega
    by_cases b3 : p3 < 0
    · simp (disch := first | exact h60 | omega | with_unfolding_all exact h60) only [eq_false b1, eq_false b2, eq_true b3, ↓bb_e, ↓c_sI, ↓o_sI, ↓a_sI, ↓c_sL, ↓o_sL, ↓a_sL, ↓c_rI, ↓o_rI, ↓a_rI, ↓c_rL, ↓o_rL, ↓a_rL, ↓c_rngI, ↓o_rngI, ↓a_rngI, ↓c_rngL, ↓o_rngL, ↓a_rngL, ↓bd_s, ↓cs_s, ↓cs_n, ↓gd_t, ↓gB0, ↓gB1, ↓gOT, ↓gAS, ↓gOY, ↓gAY, ↓reduceIte, d10, nI_clamp, nI_1', i0eq, ↓gO33 h60, ↓gA34 h60, ↓gA35 h60, ↓gA36 h60, ↓gA37 h60, ↓gA38 h60, ↓gA39 h60, ↓gA40 h60, ↓gA41 h60, ↓gA42 h60, ↓gA43 h60, ↓gA44 h60, ↓gA45 h60, ↓gA46 h60, ↓gA47 h60, ↓gA48 h60, ↓gA49 h60, ↓gA50 h60, ↓gA51 h60, ↓gA52 h60, ↓gA53 h60, ↓gA54 h60, ↓gA55 h60, ↓gA56 h60, ↓gA57 h60, ↓gA58 h60, ↓gA59 h60, ↓cM_4 hRM, ↓cM_5 hRM, ↓cM_6 hRM, ↓cM_8 hRM, ↓cM_9 hRM, ↓cM_10 hRM, ↓cM_11 hRM, ↓cM_12 hRM, ↓cM_13 hRM, ↓cM_14 hRM, ↓cM_15 hRM, ↓cM_16 hRM, ↓cM_17 hRM, ↓cM_18 hRM, ↓cM_19 hRM, ↓cM_20 hRM, ↓cM_21 hRM, ↓cM_23 hRM, ↓cM_24 hRM, ↓cM_25 hRM, ↓cM_26 hRM, ↓cM_27 hRM, ↓cM_28 hRM, ↓cM_29 hRM, ↓cM_30 hRM, ↓cM_32 hRM, ↓bno8, ↓brf8]
    · have b4 : ¬ p3 < 4 := by rw [i_lt, li_0] at b3; rw [i_lt, li_4]; omega
      simp (disch := first | exact h60 | omega | with_unfolding_all exact h60) only [eq_false b1, eq_false b2, eq_false b3, eq_false b4, ↓bb_e, ↓c_sI, ↓o_sI, ↓a_sI, ↓c_sL, ↓o_sL, ↓a_sL, ↓c_rI, ↓o_rI, ↓a_rI, ↓c_rL, ↓o_rL, ↓a_rL, ↓c_rngI, ↓o_rngI, ↓a_rngI, ↓c_rngL, ↓o_rngL, ↓a_rngL, ↓bd_s, ↓cs_s, ↓cs_n, ↓gd_t, ↓gB0, ↓gB1, ↓gOT, ↓gAS, ↓gOY, ↓gAY, ↓reduceIte, d10, nI_clamp, nI_1', i0eq, ↓gO33 h60, ↓gA34 h60, ↓gA35 h60, ↓gA36 h60, ↓gA37 h60, ↓gA38 h60, ↓gA39 h60, ↓gA40 h60, ↓gA41 h60, ↓gA42 h60, ↓gA43 h60, ↓gA44 h60, ↓gA45 h60, ↓gA46 h60, ↓gA47 h60, ↓gA48 h60, ↓gA49 h60, ↓gA50 h60, ↓gA51 h60, ↓gA52 h60, ↓gA53 h60, ↓gA54 h60, ↓gA55 h60, ↓gA56 h60, ↓gA57 h60, ↓gA58 h60, ↓gA59 h60, ↓cM_4 hRM, ↓cM_5 hRM, ↓cM_6 hRM, ↓cM_8 hRM, ↓cM_9 hRM, ↓cM_10 hRM, ↓cM_11 hRM, ↓cM_12 hRM, ↓cM_13 hRM, ↓cM_14 hRM, ↓cM_15 hRM, ↓cM_16 hRM, ↓cM_17 hRM, ↓cM_18 hRM, ↓cM_19 hRM, ↓cM_20 hRM, ↓cM_21 hRM, ↓cM_23 hRM, ↓cM_24 hRM, ↓cM_25 hRM, ↓cM_26 hRM, ↓cM_27 hRM, ↓cM_28 hRM, ↓cM_29 hRM, ↓cM_30 hRM, ↓cM_32 hRM, ↓bno8, ↓brf8]
  · have b1 : ¬ nI t < 0 := nI_pos (by omega)
    have b2 : ¬ 4 ≤ nI t := by rw [show (4 : Int32) = nI 4 from rfl]; exact nI_ge ht (by omega)
    have b3 : ¬ nI s < 0 := nI_pos (by omega)
    have b4 : nI s < 4 := by rw [show (4 : Int32) = nI 4 from rfl]; exact nI_lt hs (by omega)
    obtain ⟨k1, k2, -⟩ := hY t ht
    obtain ⟨l1, l2, -⟩ := hY s hs
    rcases h with ⟨y, rfl⟩ | ⟨k, hk, yt, h⟩
    · have c1 : (-1 : Int32) < 0 := by decide
      rw [y] at k2
      simp (disch := first | exact h60 | omega | with_unfolding_all exact h60) only [eq_false b1, eq_false b2, eq_false b3, eq_true b4, k2, eq_true c1, ↓bb_e, ↓c_sI, ↓o_sI, ↓a_sI, ↓c_sL, ↓o_sL, ↓a_sL, ↓c_rI, ↓o_rI, ↓a_rI, ↓c_rL, ↓o_rL, ↓a_rL, ↓c_rngI, ↓o_rngI, ↓a_rngI, ↓c_rngL, ↓o_rngL, ↓a_rngL, ↓bd_s, ↓cs_s, ↓cs_n, ↓gd_t, ↓gB0, ↓gB1, ↓gOT, ↓gAS, ↓gOY, ↓gAY, ↓reduceIte, d10, nI_clamp, nI_1', i0eq, ↓gO33 h60, ↓gA34 h60, ↓gA35 h60, ↓gA36 h60, ↓gA37 h60, ↓gA38 h60, ↓gA39 h60, ↓gA40 h60, ↓gA41 h60, ↓gA42 h60, ↓gA43 h60, ↓gA44 h60, ↓gA45 h60, ↓gA46 h60, ↓gA47 h60, ↓gA48 h60, ↓gA49 h60, ↓gA50 h60, ↓gA51 h60, ↓gA52 h60, ↓gA53 h60, ↓gA54 h60, ↓gA55 h60, ↓gA56 h60, ↓gA57 h60, ↓gA58 h60, ↓gA59 h60, ↓cM_4 hRM, ↓cM_5 hRM, ↓cM_6 hRM, ↓cM_8 hRM, ↓cM_9 hRM, ↓cM_10 hRM, ↓cM_11 hRM, ↓cM_12 hRM, ↓cM_13 hRM, ↓cM_14 hRM, ↓cM_15 hRM, ↓cM_16 hRM, ↓cM_17 hRM, ↓cM_18 hRM, ↓cM_19 hRM, ↓cM_20 hRM, ↓cM_21 hRM, ↓cM_23 hRM, ↓cM_24 hRM, ↓cM_25 hRM, ↓cM_26 hRM, ↓cM_27 hRM, ↓cM_28 hRM, ↓cM_29 hRM, ↓cM_30 hRM, ↓cM_32 hRM, ↓bno8, ↓brf8]
    · rw [yt] at k2
      have c1 : ¬ nI k < 0 := nI_pos (by omega)
      rcases h with ⟨y, rfl⟩ | ⟨l, hl, ys, h⟩
      · have c2 : ¬ (0 : Int32) ≤ -1 := by decide
        rw [y] at l2
        simp (disch := first | exact h60 | omega | with_unfolding_all exact h60) only [eq_false b1, eq_false b2, eq_false b3, eq_true b4, k2, l2, eq_false c1, eq_false c2, ↓bb_e, ↓c_sI, ↓o_sI, ↓a_sI, ↓c_sL, ↓o_sL, ↓a_sL, ↓c_rI, ↓o_rI, ↓a_rI, ↓c_rL, ↓o_rL, ↓a_rL, ↓c_rngI, ↓o_rngI, ↓a_rngI, ↓c_rngL, ↓o_rngL, ↓a_rngL, ↓bd_s, ↓cs_s, ↓cs_n, ↓gd_t, ↓gB0, ↓gB1, ↓gOT, ↓gAS, ↓gOY, ↓gAY, ↓reduceIte, d10, nI_clamp, nI_1', i0eq, ↓gO33 h60, ↓gA34 h60, ↓gA35 h60, ↓gA36 h60, ↓gA37 h60, ↓gA38 h60, ↓gA39 h60, ↓gA40 h60, ↓gA41 h60, ↓gA42 h60, ↓gA43 h60, ↓gA44 h60, ↓gA45 h60, ↓gA46 h60, ↓gA47 h60, ↓gA48 h60, ↓gA49 h60, ↓gA50 h60, ↓gA51 h60, ↓gA52 h60, ↓gA53 h60, ↓gA54 h60, ↓gA55 h60, ↓gA56 h60, ↓gA57 h60, ↓gA58 h60, ↓gA59 h60, ↓cM_4 hRM, ↓cM_5 hRM, ↓cM_6 hRM, ↓cM_8 hRM, ↓cM_9 hRM, ↓cM_10 hRM, ↓cM_11 hRM, ↓cM_12 hRM, ↓cM_13 hRM, ↓cM_14 hRM, ↓cM_15 hRM, ↓cM_16 hRM, ↓cM_17 hRM, ↓cM_18 hRM, ↓cM_19 hRM, ↓cM_20 hRM, ↓cM_21 hRM, ↓cM_23 hRM, ↓cM_24 hRM, ↓cM_25 hRM, ↓cM_26 hRM, ↓cM_27 hRM, ↓cM_28 hRM, ↓cM_29 hRM, ↓cM_30 hRM, ↓cM_32 hRM, ↓bno8, ↓brf8]
      · rw [ys] at l2
        have c2 : 0 ≤ nI l := nI_pos' (by omega)
        rcases h with ⟨g, rfl⟩ | ⟨g, h⟩
        · simp (disch := first | exact h60 | omega | with_unfolding_all exact h60) only [eq_false b1, eq_false b2, eq_false b3, eq_true b4, k2, l2, k1, l1, eq_false c1, eq_true c2, eq_false g, ↓bb_e, ↓c_sI, ↓o_sI, ↓a_sI, ↓c_sL, ↓o_sL, ↓a_sL, ↓c_rI, ↓o_rI, ↓a_rI, ↓c_rL, ↓o_rL, ↓a_rL, ↓c_rngI, ↓o_rngI, ↓a_rngI, ↓c_rngL, ↓o_rngL, ↓a_rngL, ↓bd_s, ↓cs_s, ↓cs_n, ↓gd_t, ↓gB0, ↓gB1, ↓gOT, ↓gAS, ↓gOY, ↓gAY, ↓reduceIte, d10, nI_clamp, nI_1', i0eq, ↓gO33 h60, ↓gA34 h60, ↓gA35 h60, ↓gA36 h60, ↓gA37 h60, ↓gA38 h60, ↓gA39 h60, ↓gA40 h60, ↓gA41 h60, ↓gA42 h60, ↓gA43 h60, ↓gA44 h60, ↓gA45 h60, ↓gA46 h60, ↓gA47 h60, ↓gA48 h60, ↓gA49 h60, ↓gA50 h60, ↓gA51 h60, ↓gA52 h60, ↓gA53 h60, ↓gA54 h60, ↓gA55 h60, ↓gA56 h60, ↓gA57 h60, ↓gA58 h60, ↓gA59 h60, ↓cM_4 hRM, ↓cM_5 hRM, ↓cM_6 hRM, ↓cM_8 hRM, ↓cM_9 hRM, ↓cM_10 hRM, ↓cM_11 hRM, ↓cM_12 hRM, ↓cM_13 hRM, ↓cM_14 hRM, ↓cM_15 hRM, ↓cM_16 hRM, ↓cM_17 hRM, ↓cM_18 hRM, ↓cM_19 hRM, ↓cM_20 hRM, ↓cM_21 hRM, ↓cM_23 hRM, ↓cM_24 hRM, ↓cM_25 hRM, ↓cM_26 hRM, ↓cM_27 hRM, ↓cM_28 hRM, ↓cM_29 hRM, ↓cM_30 hRM, ↓cM_32 hRM, ↓bno8, ↓brf8]
        · rcases h with ⟨g5, rfl⟩ | ⟨g5, g6, rfl⟩
          · have n5 : ¬ 0 ≤ p5 := by rw [i_le, li_0]; omega
            simp (disch := first | exact h60 | omega | with_unfolding_all exact h60) only [eq_false b1, eq_false b2, eq_false b3, eq_true b4, k2, l2, k1, l1, eq_false c1, eq_true c2, eq_true g, eq_false n5, ↓bb_e, ↓c_sI, ↓o_sI, ↓a_sI, ↓c_sL, ↓o_sL, ↓a_sL, ↓c_rI, ↓o_rI, ↓a_rI, ↓c_rL, ↓o_rL, ↓a_rL, ↓c_rngI, ↓o_rngI, ↓a_rngI, ↓c_rngL, ↓o_rngL, ↓a_rngL, ↓bd_s, ↓cs_s, ↓cs_n, ↓gd_t, ↓gB0, ↓gB1, ↓gOT, ↓gAS, ↓gOY, ↓gAY, ↓reduceIte, d10, nI_clamp, nI_1', i0eq, ↓gO33 h60, ↓gA34 h60, ↓gA35 h60, ↓gA36 h60, ↓gA37 h60, ↓gA38 h60, ↓gA39 h60, ↓gA40 h60, ↓gA41 h60, ↓gA42 h60, ↓gA43 h60, ↓gA44 h60, ↓gA45 h60, ↓gA46 h60, ↓gA47 h60, ↓gA48 h60, ↓gA49 h60, ↓gA50 h60, ↓gA51 h60, ↓gA52 h60, ↓gA53 h60, ↓gA54 h60, ↓gA55 h60, ↓gA56 h60, ↓gA57 h60, ↓gA58 h60, ↓gA59 h60, ↓cM_4 hRM, ↓cM_5 hRM, ↓cM_6 hRM, ↓cM_8 hRM, ↓cM_9 hRM, ↓cM_10 hRM, ↓cM_11 hRM, ↓cM_12 hRM, ↓cM_13 hRM, ↓cM_14 hRM, ↓cM_15 hRM, ↓cM_16 hRM, ↓cM_17 hRM, ↓cM_18 hRM, ↓cM_19 hRM, ↓cM_20 hRM, ↓cM_21 hRM, ↓cM_23 hRM, ↓cM_24 hRM, ↓cM_25 hRM, ↓cM_26 hRM, ↓cM_27 hRM, ↓cM_28 hRM, ↓cM_29 hRM, ↓cM_30 hRM, ↓cM_32 hRM, ↓bno8, ↓brf8]
          · have n5 : 0 ≤ p5 := by rw [i_le, li_0]; omega
            by_cases n2 : p2 < 0
            · simp (disch := first | exact h60 | omega | with_unfolding_all exact h60) only [eq_false b1, eq_false b2, eq_false b3, eq_true b4, k2, l2, k1, l1, eq_false c1, eq_true c2, eq_true g, eq_true n5, eq_true n2, ↓bb_e, ↓c_sI, ↓o_sI, ↓a_sI, ↓c_sL, ↓o_sL, ↓a_sL, ↓c_rI, ↓o_rI, ↓a_rI, ↓c_rL, ↓o_rL, ↓a_rL, ↓c_rngI, ↓o_rngI, ↓a_rngI, ↓c_rngL, ↓o_rngL, ↓a_rngL, ↓bd_s, ↓cs_s, ↓cs_n, ↓gd_t, ↓gB0, ↓gB1, ↓gOT, ↓gAS, ↓gOY, ↓gAY, ↓reduceIte, d10, nI_clamp, nI_1', i0eq, ↓gO33 h60, ↓gA34 h60, ↓gA35 h60, ↓gA36 h60, ↓gA37 h60, ↓gA38 h60, ↓gA39 h60, ↓gA40 h60, ↓gA41 h60, ↓gA42 h60, ↓gA43 h60, ↓gA44 h60, ↓gA45 h60, ↓gA46 h60, ↓gA47 h60, ↓gA48 h60, ↓gA49 h60, ↓gA50 h60, ↓gA51 h60, ↓gA52 h60, ↓gA53 h60, ↓gA54 h60, ↓gA55 h60, ↓gA56 h60, ↓gA57 h60, ↓gA58 h60, ↓gA59 h60, ↓cM_4 hRM, ↓cM_5 hRM, ↓cM_6 hRM, ↓cM_8 hRM, ↓cM_9 hRM, ↓cM_10 hRM, ↓cM_11 hRM, ↓cM_12 hRM, ↓cM_13 hRM, ↓cM_14 hRM, ↓cM_15 hRM, ↓cM_16 hRM, ↓cM_17 hRM, ↓cM_18 hRM, ↓cM_19 hRM, ↓cM_20 hRM, ↓cM_21 hRM, ↓cM_23 hRM, ↓cM_24 hRM, ↓cM_25 hRM, ↓cM_26 hRM, ↓cM_27 hRM, ↓cM_28 hRM, ↓cM_29 hRM, ↓cM_30 hRM, ↓cM_32 hRM, ↓bno8, ↓brf8]
            · by_cases n4 : p4 < 0
              · simp (disch := first | exact h60 | omega | with_unfolding_all exact h60) only [eq_false b1, eq_false b2, eq_false b3, eq_true b4, k2, l2, k1, l1, eq_false c1, eq_true c2, eq_true g, eq_true n5, eq_false n2, eq_true n4, ↓bb_e, ↓c_sI, ↓o_sI, ↓a_sI, ↓c_sL, ↓o_sL, ↓a_sL, ↓c_rI, ↓o_rI, ↓a_rI, ↓c_rL, ↓o_rL, ↓a_rL, ↓c_rngI, ↓o_rngI, ↓a_rngI, ↓c_rngL, ↓o_rngL, ↓a_rngL, ↓bd_s, ↓cs_s, ↓cs_n, ↓gd_t, ↓gB0, ↓gB1, ↓gOT, ↓gAS, ↓gOY, ↓gAY, ↓reduceIte, d10, nI_clamp, nI_1', i0eq, ↓gO33 h60, ↓gA34 h60, ↓gA35 h60, ↓gA36 h60, ↓gA37 h60, ↓gA38 h60, ↓gA39 h60, ↓gA40 h60, ↓gA41 h60, ↓gA42 h60, ↓gA43 h60, ↓gA44 h60, ↓gA45 h60, ↓gA46 h60, ↓gA47 h60, ↓gA48 h60, ↓gA49 h60, ↓gA50 h60, ↓gA51 h60, ↓gA52 h60, ↓gA53 h60, ↓gA54 h60, ↓gA55 h60, ↓gA56 h60, ↓gA57 h60, ↓gA58 h60, ↓gA59 h60, ↓cM_4 hRM, ↓cM_5 hRM, ↓cM_6 hRM, ↓cM_8 hRM, ↓cM_9 hRM, ↓cM_10 hRM, ↓cM_11 hRM, ↓cM_12 hRM, ↓cM_13 hRM, ↓cM_14 hRM, ↓cM_15 hRM, ↓cM_16 hRM, ↓cM_17 hRM, ↓cM_18 hRM, ↓cM_19 hRM, ↓cM_20 hRM, ↓cM_21 hRM, ↓cM_23 hRM, ↓cM_24 hRM, ↓cM_25 hRM, ↓cM_26 hRM, ↓cM_27 hRM, ↓cM_28 hRM, ↓cM_29 hRM, ↓cM_30 hRM, ↓cM_32 hRM, ↓bno8, ↓brf8]
              · have n6 : 0 < lg_cmp (Int32.toInt64 p2 + Int32.toInt64 p5) (Int32.toInt64 (nI k)) ↔ (k : Int) < p2.toInt + p5.toInt := by
                  rw [lg_cmp_gt, Int64.lt_iff_toInt_lt, l_toInt, Int32.toInt_toInt64, nI_toInt (by omega)]
                have n7 : lg_cmp (Int32.toInt64 p4 + Int32.toInt64 p5) (Int32.toInt64 (nI l)) ≤ 0 ↔ p4.toInt + p5.toInt ≤ (l : Int) := by
                  rw [lg_cmp_le, Int64.le_iff_toInt_le, l_toInt, Int32.toInt_toInt64, nI_toInt (by omega)]
                by_cases n8 : (k : Int) < p2.toInt + p5.toInt
                · simp (disch := first | exact h60 | omega | with_unfolding_all exact h60) only [eq_false b1, eq_false b2, eq_false b3, eq_true b4, k2, l2, k1, l1, eq_false c1, eq_true c2, eq_true g, eq_true n5, eq_false n2, eq_false n4, eq_true (n6.mpr n8), ↓bb_e, ↓c_sI, ↓o_sI, ↓a_sI, ↓c_sL, ↓o_sL, ↓a_sL, ↓c_rI, ↓o_rI, ↓a_rI, ↓c_rL, ↓o_rL, ↓a_rL, ↓c_rngI, ↓o_rngI, ↓a_rngI, ↓c_rngL, ↓o_rngL, ↓a_rngL, ↓bd_s, ↓cs_s, ↓cs_n, ↓gd_t, ↓gB0, ↓gB1, ↓gOT, ↓gAS, ↓gOY, ↓gAY, ↓reduceIte, d10, nI_clamp, nI_1', i0eq, ↓gO33 h60, ↓gA34 h60, ↓gA35 h60, ↓gA36 h60, ↓gA37 h60, ↓gA38 h60, ↓gA39 h60, ↓gA40 h60, ↓gA41 h60, ↓gA42 h60, ↓gA43 h60, ↓gA44 h60, ↓gA45 h60, ↓gA46 h60, ↓gA47 h60, ↓gA48 h60, ↓gA49 h60, ↓gA50 h60, ↓gA51 h60, ↓gA52 h60, ↓gA53 h60, ↓gA54 h60, ↓gA55 h60, ↓gA56 h60, ↓gA57 h60, ↓gA58 h60, ↓gA59 h60, ↓cM_4 hRM, ↓cM_5 hRM, ↓cM_6 hRM, ↓cM_8 hRM, ↓cM_9 hRM, ↓cM_10 hRM, ↓cM_11 hRM, ↓cM_12 hRM, ↓cM_13 hRM, ↓cM_14 hRM, ↓cM_15 hRM, ↓cM_16 hRM, ↓cM_17 hRM, ↓cM_18 hRM, ↓cM_19 hRM, ↓cM_20 hRM, ↓cM_21 hRM, ↓cM_23 hRM, ↓cM_24 hRM, ↓cM_25 hRM, ↓cM_26 hRM, ↓cM_27 hRM, ↓cM_28 hRM, ↓cM_29 hRM, ↓cM_30 hRM, ↓cM_32 hRM, ↓bno8, ↓brf8]
                · have n9 : ¬ (p4.toInt + p5.toInt ≤ (l : Int)) := by rw [i_lt, li_0] at n2 n4; omega
                  simp (disch := first | exact h60 | omega | with_unfolding_all exact h60) only [eq_false b1, eq_false b2, eq_false b3, eq_true b4, k2, l2, k1, l1, eq_false c1, eq_true c2, eq_true g, eq_true n5, eq_false n2, eq_false n4, eq_false (fun q => n8 (n6.mp q)), eq_false (fun q => n9 (n7.mp q)), ↓bb_e, ↓c_sI, ↓o_sI, ↓a_sI, ↓c_sL, ↓o_sL, ↓a_sL, ↓c_rI, ↓o_rI, ↓a_rI, ↓c_rL, ↓o_rL, ↓a_rL, ↓c_rngI, ↓o_rngI, ↓a_rngI, ↓c_rngL, ↓o_rngL, ↓a_rngL, ↓bd_s, ↓cs_s, ↓cs_n, ↓gd_t, ↓gB0, ↓gB1, ↓gOT, ↓gAS, ↓gOY, ↓gAY, ↓reduceIte, d10, nI_clamp, nI_1', i0eq, ↓gO33 h60, ↓gA34 h60, ↓gA35 h60, ↓gA36 h60, ↓gA37 h60, ↓gA38 h60, ↓gA39 h60, ↓gA40 h60, ↓gA41 h60, ↓gA42 h60, ↓gA43 h60, ↓gA44 h60, ↓gA45 h60, ↓gA46 h60, ↓gA47 h60, ↓gA48 h60, ↓gA49 h60, ↓gA50 h60, ↓gA51 h60, ↓gA52 h60, ↓gA53 h60, ↓gA54 h60, ↓gA55 h60, ↓gA56 h60, ↓gA57 h60, ↓gA58 h60, ↓gA59 h60, ↓cM_4 hRM, ↓cM_5 hRM, ↓cM_6 hRM, ↓cM_8 hRM, ↓cM_9 hRM, ↓cM_10 hRM, ↓cM_11 hRM, ↓cM_12 hRM, ↓cM_13 hRM, ↓cM_14 hRM, ↓cM_15 hRM, ↓cM_16 hRM, ↓cM_17 hRM, ↓cM_18 hRM, ↓cM_19 hRM, ↓cM_20 hRM, ↓cM_21 hRM, ↓cM_23 hRM, ↓cM_24 hRM, ↓cM_25 hRM, ↓cM_26 hRM, ↓cM_27 hRM, ↓cM_28 hRM, ↓cM_29 hRM, ↓cM_30 hRM, ↓cM_32 hRM, ↓bno8, ↓brf8]
theorem M_pour {v : Mm} {A : Ab} (hW : Wf A) (h60 : 60 ≤ v.1) (hM : MR (m0 v) A) {t s k l p q m : Nat} (ht : t < 4) (hs : s < 4) (hk : k ≤ 40) (yt : aI A 35 t = nI k) (hl : l ≤ 40) (ys : aI A 35 s = nI l) (g : aI A 34 t = aI A 34 s) (h1 : p + m ≤ k) (h2 : q + m ≤ l) : f_X8_pour 33 (nI t) (nI p) (nI s) (nI q) (nI m) v = some (1, rL (m0 v) 36 (va_cpy (gL (m0 v) 36) (gL (m0 v) 36) (40 * t + p) (40 * s + q) m)) := by
  rw [f_X8_pour, oO33 h60, gd_t]
  unfold m0 at hM ⊢
  generalize sI (sI v 33 1 0) 33 0 0 = w at *
  clear h60
  obtain ⟨hRM, h60, -, -, -, -, hY, -⟩ := id hM
  have b1 : ¬ nI t < 0 := nI_pos (by omega)
  have b2 : ¬ 4 ≤ nI t := by rw [show (4 : Int32) = nI 4 from rfl]; exact nI_ge ht (by omega)
  have b3 : ¬ nI s < 0 := nI_pos (by omega)
  have b4 : nI s < 4 := by rw [show (4 : Int32) = nI 4 from rfl]; exact nI_lt hs (by omega)
  obtain ⟨k1, k2, -⟩ := hY t ht
  obtain ⟨l1, l2, -⟩ := hY s hs
  rw [yt] at k2
  rw [ys] at l2
  have c1 : ¬ nI k < 0 := nI_pos (by omega)
  have c2 : 0 ≤ nI l := nI_pos' (by omega)
  have n5 : 0 ≤ nI m := nI_pos' (by omega)
  have n2 : ¬ nI p < 0 := nI_pos (by omega)
  have n4 : ¬ nI q < 0 := nI_pos (by omega)
  have n6 : ¬ 0 < lg_cmp (Int32.toInt64 (nI p) + Int32.toInt64 (nI m)) (Int32.toInt64 (nI k)) := by
    rw [lg_cmp_gt, Int64.lt_iff_toInt_lt, l_toInt, Int32.toInt_toInt64, nI_toInt (by omega), nI_toInt (by omega), nI_toInt (by omega)]
    omega
  have n7 : lg_cmp (Int32.toInt64 (nI q) + Int32.toInt64 (nI m)) (Int32.toInt64 (nI l)) ≤ 0 := by
    rw [lg_cmp_le, Int64.le_iff_toInt_le, l_toInt, Int32.toInt_toInt64, nI_toInt (by omega), nI_toInt (by omega), nI_toInt (by omega)]
    omega
  by_cases c : q ≤ p
  · have e := pr_up hRM h60 (t := t) (p := p) (s := s) (q := q) (m := m) (by omega) (by omega) (fun a ha => by omega) (k := fun _ u67 => some (1, u67)) m 1000 0 (by omega) (by omega)
    rw [rL_self w 36 _ (fun j => pk_cpy_out (by omega)), nI_0] at e
    simp (disch := first | exact h60 | omega | with_unfolding_all exact h60) only [eq_false b1, eq_false b2, eq_false b3, eq_true b4, k2, l2, k1, l1, eq_false c1, eq_true c2, eq_true g, eq_true n5, eq_false n2, eq_false n4, eq_false n6, eq_true n7, eq_true (nI_le c (show p < 2 ^ 31 by omega)), ↓e, ↓bb_e, ↓c_sI, ↓o_sI, ↓a_sI, ↓c_sL, ↓o_sL, ↓a_sL, ↓c_rI, ↓o_rI, ↓a_rI, ↓c_rL, ↓o_rL, ↓a_rL, ↓c_rngI, ↓o_rngI, ↓a_rngI, ↓c_rngL, ↓o_rngL, ↓a_rngL, ↓bd_s, ↓cs_s, ↓cs_n, ↓gd_t, ↓gB0, ↓gB1, ↓gOT, ↓gAS, ↓gOY, ↓gAY, ↓reduceIte, d10, nI_clamp, nI_1', i0eq, ↓gO33 h60, ↓gA34 h60, ↓gA35 h60, ↓gA36 h60, ↓gA37 h60, ↓gA38 h60, ↓gA39 h60, ↓gA40 h60, ↓gA41 h60, ↓gA42 h60, ↓gA43 h60, ↓gA44 h60, ↓gA45 h60, ↓gA46 h60, ↓gA47 h60, ↓gA48 h60, ↓gA49 h60, ↓gA50 h60, ↓gA51 h60, ↓gA52 h60, ↓gA53 h60, ↓gA54 h60, ↓gA55 h60, ↓gA56 h60, ↓gA57 h60, ↓gA58 h60, ↓gA59 h60, ↓cM_4 hRM, ↓cM_5 hRM, ↓cM_6 hRM, ↓cM_8 hRM, ↓cM_9 hRM, ↓cM_10 hRM, ↓cM_11 hRM, ↓cM_12 hRM, ↓cM_13 hRM, ↓cM_14 hRM, ↓cM_15 hRM, ↓cM_16 hRM, ↓cM_17 hRM, ↓cM_18 hRM, ↓cM_19 hRM, ↓cM_20 hRM, ↓cM_21 hRM, ↓cM_23 hRM, ↓cM_24 hRM, ↓cM_25 hRM, ↓cM_26 hRM, ↓cM_27 hRM, ↓cM_28 hRM, ↓cM_29 hRM, ↓cM_30 hRM, ↓cM_32 hRM, ↓bno8, ↓brf8]
  · have e := pr_dn hRM h60 (t := t) (p := p) (s := s) (q := q) (m := m) (by omega) (by omega) (fun a ha => by omega) (k := fun _ u67 => some (1, u67)) m 1000 0 (by omega) (by omega)
    rw [rL_self w 36 _ (fun j => pk_cpy_out (by omega)), nI_0] at e
    simp (disch := first | exact h60 | omega | with_unfolding_all exact h60) only [eq_false b1, eq_false b2, eq_false b3, eq_true b4, k2, l2, k1, l1, eq_false c1, eq_true c2, eq_true g, eq_true n5, eq_false n2, eq_false n4, eq_false n6, eq_true n7, eq_false (nI_ge (show p < q by omega) (show q < 2 ^ 31 by omega)), ↓e, ↓bb_e, ↓c_sI, ↓o_sI, ↓a_sI, ↓c_sL, ↓o_sL, ↓a_sL, ↓c_rI, ↓o_rI, ↓a_rI, ↓c_rL, ↓o_rL, ↓a_rL, ↓c_rngI, ↓o_rngI, ↓a_rngI, ↓c_rngL, ↓o_rngL, ↓a_rngL, ↓bd_s, ↓cs_s, ↓cs_n, ↓gd_t, ↓gB0, ↓gB1, ↓gOT, ↓gAS, ↓gOY, ↓gAY, ↓reduceIte, d10, nI_clamp, nI_1', i0eq, ↓gO33 h60, ↓gA34 h60, ↓gA35 h60, ↓gA36 h60, ↓gA37 h60, ↓gA38 h60, ↓gA39 h60, ↓gA40 h60, ↓gA41 h60, ↓gA42 h60, ↓gA43 h60, ↓gA44 h60, ↓gA45 h60, ↓gA46 h60, ↓gA47 h60, ↓gA48 h60, ↓gA49 h60, ↓gA50 h60, ↓gA51 h60, ↓gA52 h60, ↓gA53 h60, ↓gA54 h60, ↓gA55 h60, ↓gA56 h60, ↓gA57 h60, ↓gA58 h60, ↓gA59 h60, ↓cM_4 hRM, ↓cM_5 hRM, ↓cM_6 hRM, ↓cM_8 hRM, ↓cM_9 hRM, ↓cM_10 hRM, ↓cM_11 hRM, ↓cM_12 hRM, ↓cM_13 hRM, ↓cM_14 hRM, ↓cM_15 hRM, ↓cM_16 hRM, ↓cM_17 hRM, ↓cM_18 hRM, ↓cM_19 hRM, ↓cM_20 hRM, ↓cM_21 hRM, ↓cM_23 hRM, ↓cM_24 hRM, ↓cM_25 hRM, ↓cM_26 hRM, ↓cM_27 hRM, ↓cM_28 hRM, ↓cM_29 hRM, ↓cM_30 hRM, ↓cM_32 hRM, ↓bno8, ↓brf8]
theorem C_pour {u : Mm} {A : Ab} (hW : Wf A) (hC : CR u A) {t s k l p q m : Nat} (ht : t < 4) (hs : s < 4) (hk : k ≤ 40) (yt : aI A 35 t = nI k) (hl : l ≤ 40) (ys : aI A 35 s = nI l) (g : aI A 34 t = aI A 34 s) (h1 : p + m ≤ k) (h2 : q + m ≤ l) : f_X7_pour 0 (nI t) (nI p) (nI s) (nI q) (nI m) u = some (1, sI (rL u (26 + 2 * s) (va_cpy (gL u (26 + 2 * t)) (gL u (26 + 2 * s)) p q m)) 0 5 0) := by
  obtain ⟨hRC, hN, -⟩ := id hC
  have hn1 := hN.1
  have h60 : 60 ≤ u.1 := by omega
  have b1 := ta_some hC ht
  have b2 := ta_some hC hs
  have m1 := miss_f hW hC ht hk yt
  obtain ⟨e1, e2⟩ := yl hC ht hk yt
  have m2 := miss_f hW hC hs hl ys
  obtain ⟨f1, f2⟩ := yl hC hs hl ys
  have n5 : 0 ≤ nI m := nI_pos' (by omega)
  have r1 := run_t hC ht e2 hk (p := nI p) (q := nI m) (by rw [nI_toInt (by omega)]; omega)
  have r2 := run_t hC hs f2 hl (p := nI q) (q := nI m) (by rw [nI_toInt (by omega)]; omega)
  rw [if_pos (by rw [nI_toInt (by omega), nI_toInt (by omega)]; omega)] at r1 r2
  have hok : okC u (26 + 2 * t) (26 + 2 * s) 10 (nI p) (nI q) (nI m) = true := by
    have x1 := shp_yn ht
    have x2 := shp_yn hs
    have y1 : 26 + 2 * t < u.1 := by omega
    have y2 : 26 + 2 * s < u.1 := by omega
    have z1 : ¬ nI p < 0 := nI_pos (by omega)
    have z2 : ¬ nI q < 0 := nI_pos (by omega)
    have z3 : ¬ nI m < 0 := nI_pos (by omega)
    simp only [okC, x1.1, x1.2, x2.1, x2.2, y1, y2, z1, z2, z3, nI_clamp (show p < 2 ^ 31 by omega), nI_clamp (show q < 2 ^ 31 by omega), nI_clamp (show m < 2 ^ 31 by omega), not_false_eq_true, decide_true, Bool.true_and, Bool.and_eq_true, decide_eq_true_eq]
    omega
  simp (disch := first | exact h60 | omega | with_unfolding_all exact h60) only [f_X7_pour, ↓bd_of b1, ↓bd_of b2, ↓bd_of m1, ↓bd_of m2, ↓bd_of r1, ↓bd_of r2, e1, f1, eq_true g, eq_true n5, ↓cs_of (rc_yn hRC ht), ↓cs_of (rc_yn hRC hs), ↓gd_of hok, ↓bb_e, ↓c_sI, ↓o_sI, ↓a_sI, ↓c_sL, ↓o_sL, ↓a_sL, ↓c_rI, ↓o_rI, ↓a_rI, ↓c_rL, ↓o_rL, ↓a_rL, ↓c_rngI, ↓o_rngI, ↓a_rngI, ↓c_rngL, ↓o_rngL, ↓a_rngL, ↓bd_s, ↓cs_s, ↓cs_n, ↓gd_t, ↓gB0, ↓gB1, ↓gOT, ↓gAS, ↓gOY, ↓gAY, ↓reduceIte, d10, nI_clamp, nI_1', i0eq, ↓gO0 h60, ↓gO2 h60, ↓gO6 h60, ↓gO10 h60, ↓gO11 h60, ↓gO14 h60, ↓gO21 h60, ↓gA1 h60, ↓gA3 h60, ↓gA4 h60, ↓gA5 h60, ↓gA7 h60, ↓gA8 h60, ↓gA9 h60, ↓gA12 h60, ↓gA13 h60, ↓gA15 h60, ↓gA16 h60, ↓gA17 h60, ↓gA18 h60, ↓gA19 h60, ↓gA20 h60, ↓gA22 h60, ↓gA23 h60, ↓gA24 h60, ↓cC_0_0 hRC, ↓cC_0_1 hRC, ↓cC_0_2 hRC, ↓cC_0_3 hRC, ↓cC_0_4 hRC, ↓cC_2_0 hRC, ↓cC_2_2 hRC, ↓cC_2_3 hRC, ↓cC_6_0 hRC, ↓cC_6_1 hRC, ↓cC_6_2 hRC, ↓cC_10_0 hRC, ↓cC_10_1 hRC, ↓cC_10_2 hRC, ↓cC_10_3 hRC, ↓cC_10_4 hRC, ↓cC_10_5 hRC, ↓cC_11_0 hRC, ↓cC_11_1 hRC, ↓cC_14_0 hRC, ↓cC_14_1 hRC, ↓cC_21_0 hRC, ↓cC_21_1 hRC, ↓cC_21_2 hRC, ↓bdn7, ↓brf7, ↓bgr7, ↓ban7]
  rw [gr7 (w := rL u (26 + 2 * s) (va_cpy (gL u (26 + 2 * t)) (gL u (26 + 2 * s)) p q m)) h60, bd_s]
  exact gB1 _
theorem keepC.rL {u v : Mm} {r : Nat} {g : Nat → Int64} (h : keepC u v) (hr : 33 ≤ r ∧ r < 60) : keepC u (rL v r g) := ⟨h.1, fun b h1 => ⟨(h.2 b h1).1, fun j => by rw [gL_rL, if_neg (by omega)]; exact (h.2 b h1).2.1 j, (h.2 b h1).2.2⟩⟩
theorem poR_st {A : Ab} {p1 p2 p3 p4 p5 c : Int32} (h : poR A p1 p2 p3 p4 p5 c) : poR (st A 0) p1 p2 p3 p4 p5 c := by
  unfold poR at h ⊢
  simp only [aI_st (show 35 ≠ 33 by omega), aI_st (show 34 ≠ 33 by omega)]
  exact h
-- POUR
theorem P_pour {u : Mm} (hI : Inv u) (p1 p2 p3 p4 p5 : Int32) : Pq (f_X7_pour 0 p1 p2 p3 p4 p5) (f_X8_pour 33 p1 p2 p3 p4 p5) u := by
  obtain ⟨A, hW, hC, hM⟩ := hI
  obtain ⟨hRC, hN, hS, hF, hT, hPc, hY, hLg, hSh⟩ := id hC
  obtain ⟨hRM, h60, h7, hMs, hMf, hMt, hMy, hMl⟩ := id hM
  have h80 : an A ≤ 80 := hW.1.1
  have hn := hN.1
  rcases po_cases hW p1 p2 p3 p4 p5 with ⟨c, h⟩ | ⟨t, s, k, l, p, q, m, ht, hs, rfl, rfl, hk, yt, hl, ys, g, rfl, rfl, rfl, h1, h2⟩
  · exact leaf_st (A := A) 0 c 0 hW hC hM (C_pourR hW hC h) (M_pourR (v := sI u 0 5 c) (Wf_st 0 hW) h60 (MR_k hM c) (poR_st h))
  · have hM1 : MR (sI (rL u (26 + 2 * s) (va_cpy (gL u (26 + 2 * t)) (gL u (26 + 2 * s)) p q m)) 0 5 0) A := hM.keep ((keepM.rf.rL (by omega)).sI (by omega))
    have hm := M_pour (Wf_st 0 hW) hM1.2.1 (MR_m0 hM1) ht hs hk (by rw [aI_st (by omega)]; exact yt) hl (by rw [aI_st (by omega)]; exact ys) (by rw [aI_st (by omega), aI_st (by omega)]; exact g) h1 h2
    refine leaf_ok 1 (C_pour hW hC ht hs hk yt hl ys g h1 h2) hm (A' := poA A t p s q m) hW (CR_pour hC ht hs yt hk ys hl h1 h2) ?_ (((keepC.rf.sI (by omega)).sI (by omega)).rL (by omega))
    exact MR_pour (MR_m0 hM1) ht hs (by rw [aI_st (by omega)]; exact yt) hk (by rw [aI_st (by omega)]; exact ys) hl h1 h2
