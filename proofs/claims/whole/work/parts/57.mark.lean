/-- whether one of j .. j + d - 1 has P -/
def ex (P : Nat → Bool) : Nat → Nat → Bool
  | _, 0 => false
  | j, d + 1 => P j || ex P (j + 1) d
theorem ex_no {P : Nat → Bool} : ∀ {d j : Nat}, ex P j d = false → ∀ k, j ≤ k → k < j + d → P k = false
  | 0, j, _, k, h1, h2 => by omega
  | d + 1, j, h, k, h1, h2 => by
    simp only [ex, Bool.or_eq_false_iff] at h
    by_cases e : k = j
    · rw [e]; exact h.1
    · exact ex_no h.2 k (by omega) (by omega)
theorem ex_yes {P : Nat → Bool} : ∀ {d j : Nat}, ex P j d = true → ∃ k, j ≤ k ∧ k < j + d ∧ P k = true
  | 0, j, h => by cases h
  | d + 1, j, h => by
    simp only [ex, Bool.or_eq_true] at h
    rcases h with h | h
    · exact ⟨j, by omega, by omega, h⟩
    · obtain ⟨k, h1, h2, h3⟩ := ex_yes h
      exact ⟨k, by omega, by omega, h3⟩
theorem mk_l {u : Mm} {A : Ab} (hW : Wf A) (hM : MR u A) {t : Nat} (ht : t < an A) {v : Int32} (hv : 0 ≤ v.toInt) {z : Option (Int32 × Mm)} : ∀ (d n j : Nat), j + d = an A → d < n → L_X8_mark_44 33 (nI t) v u (fun _ => z) n (nI j) = if ex (fun k => !decide (k = t) && decide (aI A 46 k = v)) j d = true then some (0, sI u 33 0 10) else z := by
  have h80 := hW.1.1
  obtain ⟨hRM, h60, h7, -, -, hT, -⟩ := id hM
  intro d
  induction d with
  | zero =>
    intro n j h1 h2
    obtain ⟨n, rfl⟩ : ∃ m, n = m + 1 := ⟨n - 1, by omega⟩
    have e : j = an A := by omega
    subst e
    rw [L_X8_mark_44, oO33 h60, gd_t, h7, if_pos (nI_le (Nat.le_refl _) (by omega)), ex, if_neg (by decide)]
  | succ d ih =>
    intro n j h1 h2
    obtain ⟨n, rfl⟩ : ∃ m, n = m + 1 := ⟨n - 1, by omega⟩
    obtain ⟨k1, k2, k3, k4, k5, k6, k7, k8, k9, k10, k11, -⟩ := hT.1 j (by omega)
    have ih := ih n (j + 1) (by omega) (by omega)
    rw [L_X8_mark_44, oO33 h60, gd_t, h7, if_neg (nI_ge (by omega) (by omega)), if_neg (by rw [i_lt, li_0]; omega)]
    simp only [bb_e, rm_17 hRM, cs_s, gd_t, oA46 h60 (show j < 80 by omega), nI_clamp (show j < 2 ^ 31 by omega), k9, nI_1', ih, f_X8_no, oO33 h60, bd_s, isB_0, ex]
    by_cases c1 : j = t
    · rw [if_pos (by rw [c1])]
      simp [c1]
    · rw [if_neg (by rw [nI_eq (by omega) (by omega)]; exact c1)]
      by_cases c2 : aI A 46 j = v <;> simp [c1, c2]
theorem mk_n {u : Mm} {A : Ab} (hW : Wf A) (hM : MR u A) {t : Int32} {v : Int32} (hv : v.toInt < 0) {z : Option (Int32 × Mm)} : ∀ (d n j : Nat), j + d = an A → d < n → L_X8_mark_44 33 t v u (fun _ => z) n (nI j) = z := by
  have h80 := hW.1.1
  obtain ⟨hRM, h60, h7, -⟩ := id hM
  intro d
  induction d with
  | zero =>
    intro n j h1 h2
    obtain ⟨n, rfl⟩ : ∃ m, n = m + 1 := ⟨n - 1, by omega⟩
    have e : j = an A := by omega
    subst e
    rw [L_X8_mark_44, oO33 h60, gd_t, h7, if_pos (nI_le (Nat.le_refl _) (by omega))]
  | succ d ih =>
    intro n j h1 h2
    obtain ⟨n, rfl⟩ : ∃ m, n = m + 1 := ⟨n - 1, by omega⟩
    rw [L_X8_mark_44, oO33 h60, gd_t, h7, if_neg (nI_ge (by omega) (by omega)), if_pos (by rw [i_lt, li_0]; omega), bb_e, nI_1']
    exact ih n (j + 1) (by omega) (by omega)
theorem sk_l {u : Mm} {A : Ab} (hW : Wf A) (hM : MR u A) {t : Nat} (ht : t < an A) {v : Int32} (hv : 0 ≤ v.toInt) {z : Option (Int32 × Mm)} : ∀ (d n j : Nat), j + d = an A → d < n → L_X8_stand_26 33 (nI t) v u (fun _ => z) n (nI j) = if ex (fun k => !decide (k = t) && decide (aI A 47 k = v)) j d = true then some (0, sI u 33 0 10) else z := by
  have h80 := hW.1.1
  obtain ⟨hRM, h60, h7, -, -, hT, -⟩ := id hM
  intro d
  induction d with
  | zero =>
    intro n j h1 h2
    obtain ⟨n, rfl⟩ : ∃ m, n = m + 1 := ⟨n - 1, by omega⟩
    have e : j = an A := by omega
    subst e
    rw [L_X8_stand_26, oO33 h60, gd_t, h7, if_pos (nI_le (Nat.le_refl _) (by omega)), ex, if_neg (by decide)]
  | succ d ih =>
    intro n j h1 h2
    obtain ⟨n, rfl⟩ : ∃ m, n = m + 1 := ⟨n - 1, by omega⟩
    obtain ⟨k1, k2, k3, k4, k5, k6, k7, k8, k9, k10, k11, -⟩ := hT.1 j (by omega)
    have ih := ih n (j + 1) (by omega) (by omega)
    rw [L_X8_stand_26, oO33 h60, gd_t, h7, if_neg (nI_ge (by omega) (by omega)), if_neg (by rw [i_lt, li_0]; omega)]
    simp only [bb_e, rm_18 hRM, cs_s, gd_t, oA47 h60 (show j < 80 by omega), nI_clamp (show j < 2 ^ 31 by omega), k10, nI_1', ih, f_X8_no, oO33 h60, bd_s, isB_0, ex]
    by_cases c1 : j = t
    · rw [if_pos (by rw [c1])]
      simp [c1]
    · rw [if_neg (by rw [nI_eq (by omega) (by omega)]; exact c1)]
      by_cases c2 : aI A 47 j = v <;> simp [c1, c2]
theorem sk_n {u : Mm} {A : Ab} (hW : Wf A) (hM : MR u A) {t : Int32} {v : Int32} (hv : v.toInt < 0) {z : Option (Int32 × Mm)} : ∀ (d n j : Nat), j + d = an A → d < n → L_X8_stand_26 33 t v u (fun _ => z) n (nI j) = z := by
  have h80 := hW.1.1
  obtain ⟨hRM, h60, h7, -⟩ := id hM
  intro d
  induction d with
  | zero =>
    intro n j h1 h2
    obtain ⟨n, rfl⟩ : ∃ m, n = m + 1 := ⟨n - 1, by omega⟩
    have e : j = an A := by omega
    subst e
    rw [L_X8_stand_26, oO33 h60, gd_t, h7, if_pos (nI_le (Nat.le_refl _) (by omega))]
  | succ d ih =>
    intro n j h1 h2
    obtain ⟨n, rfl⟩ : ∃ m, n = m + 1 := ⟨n - 1, by omega⟩
    rw [L_X8_stand_26, oO33 h60, gd_t, h7, if_neg (nI_ge (by omega) (by omega)), if_pos (by rw [i_lt, li_0]; omega), bb_e, nI_1']
    exact ih n (j + 1) (by omega) (by omega)
theorem gk_l {u : Mm} {A : Ab} (hW : Wf A) (hM : MR u A) {t : Nat} (ht : t < an A) {v : Int32} (hv : 0 ≤ v.toInt) {z : Option (Int32 × Mm)} : ∀ (d n j : Nat), j + d = an A → d < n → L_X8_goal_26 33 (nI t) v u (fun _ => z) n (nI j) = if ex (fun k => !decide (k = t) && decide (aI A 48 k = v)) j d = true then some (0, sI u 33 0 10) else z := by
  have h80 := hW.1.1
  obtain ⟨hRM, h60, h7, -, -, hT, -⟩ := id hM
  intro d
  induction d with
  | zero =>
    intro n j h1 h2
    obtain ⟨n, rfl⟩ : ∃ m, n = m + 1 := ⟨n - 1, by omega⟩
    have e : j = an A := by omega
    subst e
    rw [L_X8_goal_26, oO33 h60, gd_t, h7, if_pos (nI_le (Nat.le_refl _) (by omega)), ex, if_neg (by decide)]
  | succ d ih =>
    intro n j h1 h2
    obtain ⟨n, rfl⟩ : ∃ m, n = m + 1 := ⟨n - 1, by omega⟩
    obtain ⟨k1, k2, k3, k4, k5, k6, k7, k8, k9, k10, k11, -⟩ := hT.1 j (by omega)
    have ih := ih n (j + 1) (by omega) (by omega)
    rw [L_X8_goal_26, oO33 h60, gd_t, h7, if_neg (nI_ge (by omega) (by omega)), if_neg (by rw [i_lt, li_0]; omega)]
    simp only [bb_e, rm_19 hRM, cs_s, gd_t, oA48 h60 (show j < 80 by omega), nI_clamp (show j < 2 ^ 31 by omega), k11, nI_1', ih, f_X8_no, oO33 h60, bd_s, isB_0, ex]
    by_cases c1 : j = t
    · rw [if_pos (by rw [c1])]
      simp [c1]
    · rw [if_neg (by rw [nI_eq (by omega) (by omega)]; exact c1)]
      by_cases c2 : aI A 48 j = v <;> simp [c1, c2]
theorem gk_n {u : Mm} {A : Ab} (hW : Wf A) (hM : MR u A) {t : Int32} {v : Int32} (hv : v.toInt < 0) {z : Option (Int32 × Mm)} : ∀ (d n j : Nat), j + d = an A → d < n → L_X8_goal_26 33 t v u (fun _ => z) n (nI j) = z := by
  have h80 := hW.1.1
  obtain ⟨hRM, h60, h7, -⟩ := id hM
  intro d
  induction d with
  | zero =>
    intro n j h1 h2
    obtain ⟨n, rfl⟩ : ∃ m, n = m + 1 := ⟨n - 1, by omega⟩
    have e : j = an A := by omega
    subst e
    rw [L_X8_goal_26, oO33 h60, gd_t, h7, if_pos (nI_le (Nat.le_refl _) (by omega))]
  | succ d ih =>
    intro n j h1 h2
    obtain ⟨n, rfl⟩ : ∃ m, n = m + 1 := ⟨n - 1, by omega⟩
    rw [L_X8_goal_26, oO33 h60, gd_t, h7, if_neg (nI_ge (by omega) (by omega)), if_pos (by rw [i_lt, li_0]; omega), bb_e, nI_1']
    exact ih n (j + 1) (by omega) (by omega)

theorem ism_l {u : Mm} {A : Ab} (hW : Wf A) (hC : CR u A) {t : Nat} {v : Int32} : ∀ (d n j : Nat), j + d = an A → d < n → L_X0_isMarkOfAnother_2 2 v (some (60 + 2 * t)) u (fun _ => some (0 : Int32)) n (nI j) = some (b2i (ex (fun k => !decide (k = t) && decide (aI A 46 k = v)) j d)) := by
  have h80 := hW.1.1
  obtain ⟨hRC, hN, -, -, hT, -⟩ := id hC
  have hn := hN.1
  have h60 : 60 ≤ u.1 := by omega
  intro d
  induction d with
  | zero =>
    intro n j h1 h2
    obtain ⟨n, rfl⟩ : ∃ m, n = m + 1 := ⟨n - 1, by omega⟩
    have e : j = an A := by omega
    subst e
    rw [L_X0_isMarkOfAnother_2, oO2 h60, gd_t, hN.2, if_pos (nI_le (Nat.le_refl _) (by omega))]
    rfl
  | succ d ih =>
    intro n j h1 h2
    obtain ⟨n, rfl⟩ : ∃ m, n = m + 1 := ⟨n - 1, by omega⟩
    obtain ⟨t1, -, -, -, -, -, -, -, -, -, t11, -⟩ := hT j (by omega)
    have ih := ih n (j + 1) (by omega) (by omega)
    rw [L_X0_isMarkOfAnother_2, oO2 h60, gd_t, hN.2, if_neg (nI_ge (by omega) (by omega))]
    simp only [bb_e, rc_2_0 hRC, cs_s, gd_t, oA3 h60 (show j < 80 by omega), nI_clamp (show j < 2 ^ 31 by omega), t1, oT (show 60 + 2 * j < u.1 by omega), t11, nI_1', ih, ex]
    by_cases c2 : aI A 46 j = v
    · rw [if_pos c2]
      by_cases c1 : j = t
      · rw [if_pos (by rw [c1])]
        simp [c1]
      · rw [if_neg (by intro e; have := Option.some.inj e; omega)]
        simp [c1, c2, b2i]
    · rw [if_neg c2]
      simp [c2]
theorem CR_mark {u : Mm} {A : Ab} (hC : CR u A) (i : Nat) (v : Int32) : CR (sI u (60 + 2 * i) 9 v) (tI A 46 i v) := by
  exact CR_upd (i := i) hC rfl (fun _ _ => rfl) (fun _ _ => rfl) (by intros; first | with_reducible rfl | (simp only [gI_sI, gI_sL, gI_sR, gI_rI, gI_rL, gL_sI, gL_sL, gL_sR, gL_rI, gL_rL, gR_sI, gR_sL, gR_sR, gR_rI, gR_rL, aI_tI, aI_tL, aI_qI, aI_qL, aI_tN, aI_tE, aL_tI, aL_tL, aL_qI, aL_qL, aL_tN, aL_tE, an_tI, an_tL, an_qI, an_qL, an_tN, an_tE, ae_tI, ae_tL, ae_qI, ae_qL, ae_tN, ae_tE] <;> repeat (first | rw [if_neg (by omega)] | rw [if_pos (by omega)]))) (by intros; first | with_reducible rfl | (simp only [gI_sI, gI_sL, gI_sR, gI_rI, gI_rL, gL_sI, gL_sL, gL_sR, gL_rI, gL_rL, gR_sI, gR_sL, gR_sR, gR_rI, gR_rL, aI_tI, aI_tL, aI_qI, aI_qL, aI_tN, aI_tE, aL_tI, aL_tL, aL_qI, aL_qL, aL_tN, aL_tE, an_tI, an_tL, an_qI, an_qL, an_tN, an_tE, ae_tI, ae_tL, ae_qI, ae_qL, ae_tN, ae_tE] <;> repeat (first | rw [if_neg (by omega)] | rw [if_pos (by omega)]))) rfl rfl (fun _ _ => rfl) (by intros; first | with_reducible rfl | (simp only [gI_sI, gI_sL, gI_sR, gI_rI, gI_rL, gL_sI, gL_sL, gL_sR, gL_rI, gL_rL, gR_sI, gR_sL, gR_sR, gR_rI, gR_rL, aI_tI, aI_tL, aI_qI, aI_qL, aI_tN, aI_tE, aL_tI, aL_tL, aL_qI, aL_qL, aL_tN, aL_tE, an_tI, an_tL, an_qI, an_qL, an_tN, an_tE, ae_tI, ae_tL, ae_qI, ae_qL, ae_tN, ae_tE] <;> repeat (first | rw [if_neg (by omega)] | rw [if_pos (by omega)]))) (by intros; first | with_reducible rfl | (simp only [gI_sI, gI_sL, gI_sR, gI_rI, gI_rL, gL_sI, gL_sL, gL_sR, gL_rI, gL_rL, gR_sI, gR_sL, gR_sR, gR_rI, gR_rL, aI_tI, aI_tL, aI_qI, aI_qL, aI_tN, aI_tE, aL_tI, aL_tL, aL_qI, aL_qL, aL_tN, aL_tE, an_tI, an_tL, an_qI, an_qL, an_tN, an_tE, ae_tI, ae_tL, ae_qI, ae_qL, ae_tN, ae_tE] <;> repeat (first | rw [if_neg (by omega)] | rw [if_pos (by omega)]))) (by intros; first | with_reducible rfl | (simp only [gI_sI, gI_sL, gI_sR, gI_rI, gI_rL, gL_sI, gL_sL, gL_sR, gL_rI, gL_rL, gR_sI, gR_sL, gR_sR, gR_rI, gR_rL, aI_tI, aI_tL, aI_qI, aI_qL, aI_tN, aI_tE, aL_tI, aL_tL, aL_qI, aL_qL, aL_tN, aL_tE, an_tI, an_tL, an_qI, an_qL, an_tN, an_tE, ae_tI, ae_tL, ae_qI, ae_qL, ae_tN, ae_tE] <;> repeat (first | rw [if_neg (by omega)] | rw [if_pos (by omega)]))) (by
            intro q; unfold GT1 at q ⊢; obtain ⟨q1, q2, q3, q4, q5, q6, q7, q8, q9, q10, q11, q12⟩ := q
            simp (disch := omega) only [gI_sI, gI_sL, gI_sR, gI_rI, gI_rL, gL_sI, gL_sL, gL_sR, gL_rI, gL_rL, gR_sI, gR_sL, gR_sR, gR_rI, gR_rL, aI_tI, aI_tL, aI_qI, aI_qL, aI_tN, aI_tE, aL_tI, aL_tL, aL_qI, aL_qL, aL_tN, aL_tE, an_tI, an_tL, an_qI, an_qL, an_tN, an_tE, ae_tI, ae_tL, ae_qI, ae_qL, ae_tN, ae_tE, if_pos, if_neg, ↓reduceIte, false_and, and_false, and_self, par, st]
            refine ⟨?_, ?_, ?_, ?_, ?_, ?_, ?_, ?_, ?_, ?_, ?_, ?_⟩ <;> first | assumption | trivial | rfl | (intro g hg; exact q12 g hg) | (intro h; first | trivial | rfl | exact absurd rfl h | exact h.elim | exact q7 h))
theorem MR_row {u : Mm} {A : Ab} (hM : MR u A) {i : Nat} (hi : i < an A) {r : Nat} (hr : r = 46 ∨ r = 47 ∨ r = 48) (v : Int32) : MR (sI u r i v) (tI A r i v) := by
  rcases hr with rfl | rfl | rfl
  · exact MR_upd (i := i) hM hi rfl (fun _ _ => rfl) (fun _ _ => rfl) (by intros; first | with_reducible rfl | (simp only [gI_sI, gI_sL, gI_sR, gI_rI, gI_rL, gL_sI, gL_sL, gL_sR, gL_rI, gL_rL, gR_sI, gR_sL, gR_sR, gR_rI, gR_rL, aI_tI, aI_tL, aI_qI, aI_qL, aI_tN, aI_tE, aL_tI, aL_tL, aL_qI, aL_qL, aL_tN, aL_tE, an_tI, an_tL, an_qI, an_qL, an_tN, an_tE, ae_tI, ae_tL, ae_qI, ae_qL, ae_tN, ae_tE] <;> repeat (first | rw [if_neg (by omega)] | rw [if_pos (by omega)]))) (by intros; first | with_reducible rfl | (simp only [gI_sI, gI_sL, gI_sR, gI_rI, gI_rL, gL_sI, gL_sL, gL_sR, gL_rI, gL_rL, gR_sI, gR_sL, gR_sR, gR_rI, gR_rL, aI_tI, aI_tL, aI_qI, aI_qL, aI_tN, aI_tE, aL_tI, aL_tL, aL_qI, aL_qL, aL_tN, aL_tE, an_tI, an_tL, an_qI, an_qL, an_tN, an_tE, ae_tI, ae_tL, ae_qI, ae_qL, ae_tN, ae_tE] <;> repeat (first | rw [if_neg (by omega)] | rw [if_pos (by omega)]))) (by intros; first | with_reducible rfl | (simp only [gI_sI, gI_sL, gI_sR, gI_rI, gI_rL, gL_sI, gL_sL, gL_sR, gL_rI, gL_rL, gR_sI, gR_sL, gR_sR, gR_rI, gR_rL, aI_tI, aI_tL, aI_qI, aI_qL, aI_tN, aI_tE, aL_tI, aL_tL, aL_qI, aL_qL, aL_tN, aL_tE, an_tI, an_tL, an_qI, an_qL, an_tN, an_tE, ae_tI, ae_tL, ae_qI, ae_qL, ae_tN, ae_tE] <;> repeat (first | rw [if_neg (by omega)] | rw [if_pos (by omega)]))) rfl rfl (fun _ _ => rfl) (by intros; first | with_reducible rfl | (simp only [gI_sI, gI_sL, gI_sR, gI_rI, gI_rL, gL_sI, gL_sL, gL_sR, gL_rI, gL_rL, gR_sI, gR_sL, gR_sR, gR_rI, gR_rL, aI_tI, aI_tL, aI_qI, aI_qL, aI_tN, aI_tE, aL_tI, aL_tL, aL_qI, aL_qL, aL_tN, aL_tE, an_tI, an_tL, an_qI, an_qL, an_tN, an_tE, ae_tI, ae_tL, ae_qI, ae_qL, ae_tN, ae_tE] <;> repeat (first | rw [if_neg (by omega)] | rw [if_pos (by omega)]))) (by intros; first | with_reducible rfl | (simp only [gI_sI, gI_sL, gI_sR, gI_rI, gI_rL, gL_sI, gL_sL, gL_sR, gL_rI, gL_rL, gR_sI, gR_sL, gR_sR, gR_rI, gR_rL, aI_tI, aI_tL, aI_qI, aI_qL, aI_tN, aI_tE, aL_tI, aL_tL, aL_qI, aL_qL, aL_tN, aL_tE, an_tI, an_tL, an_qI, an_qL, an_tN, an_tE, ae_tI, ae_tL, ae_qI, ae_qL, ae_tN, ae_tE] <;> repeat (first | rw [if_neg (by omega)] | rw [if_pos (by omega)]))) (by intros; first | with_reducible rfl | (simp only [gI_sI, gI_sL, gI_sR, gI_rI, gI_rL, gL_sI, gL_sL, gL_sR, gL_rI, gL_rL, gR_sI, gR_sL, gR_sR, gR_rI, gR_rL, aI_tI, aI_tL, aI_qI, aI_qL, aI_tN, aI_tE, aL_tI, aL_tL, aL_qI, aL_qL, aL_tN, aL_tE, an_tI, an_tL, an_qI, an_qL, an_tN, an_tE, ae_tI, ae_tL, ae_qI, ae_qL, ae_tN, ae_tE] <;> repeat (first | rw [if_neg (by omega)] | rw [if_pos (by omega)]))) (by
            intro q; unfold HT1 at q ⊢; obtain ⟨q1, q2, q3, q4, q5, q6, q7, q8, q9, q10, q11, q12⟩ := q
            simp (disch := omega) only [gI_sI, gI_sL, gI_sR, gI_rI, gI_rL, gL_sI, gL_sL, gL_sR, gL_rI, gL_rL, gR_sI, gR_sL, gR_sR, gR_rI, gR_rL, aI_tI, aI_tL, aI_qI, aI_qL, aI_tN, aI_tE, aL_tI, aL_tL, aL_qI, aL_qL, aL_tN, aL_tE, an_tI, an_tL, an_qI, an_qL, an_tN, an_tE, ae_tI, ae_tL, ae_qI, ae_qL, ae_tN, ae_tE, if_pos, if_neg, ↓reduceIte, false_and, and_false, and_self, st] at q1 q2 q3 q4 q5 q6 q7 q8 q9 q10 q11 q12 ⊢
            refine ⟨?_, ?_, ?_, ?_, ?_, ?_, ?_, ?_, ?_, ?_, ?_, ?_⟩ <;> first | assumption | trivial | rfl | (intro g hg; exact q12 g hg))
  · exact MR_upd (i := i) hM hi rfl (fun _ _ => rfl) (fun _ _ => rfl) (by intros; first | with_reducible rfl | (simp only [gI_sI, gI_sL, gI_sR, gI_rI, gI_rL, gL_sI, gL_sL, gL_sR, gL_rI, gL_rL, gR_sI, gR_sL, gR_sR, gR_rI, gR_rL, aI_tI, aI_tL, aI_qI, aI_qL, aI_tN, aI_tE, aL_tI, aL_tL, aL_qI, aL_qL, aL_tN, aL_tE, an_tI, an_tL, an_qI, an_qL, an_tN, an_tE, ae_tI, ae_tL, ae_qI, ae_qL, ae_tN, ae_tE] <;> repeat (first | rw [if_neg (by omega)] | rw [if_pos (by omega)]))) (by intros; first | with_reducible rfl | (simp only [gI_sI, gI_sL, gI_sR, gI_rI, gI_rL, gL_sI, gL_sL, gL_sR, gL_rI, gL_rL, gR_sI, gR_sL, gR_sR, gR_rI, gR_rL, aI_tI, aI_tL, aI_qI, aI_qL, aI_tN, aI_tE, aL_tI, aL_tL, aL_qI, aL_qL, aL_tN, aL_tE, an_tI, an_tL, an_qI, an_qL, an_tN, an_tE, ae_tI, ae_tL, ae_qI, ae_qL, ae_tN, ae_tE] <;> repeat (first | rw [if_neg (by omega)] | rw [if_pos (by omega)]))) (by intros; first | with_reducible rfl | (simp only [gI_sI, gI_sL, gI_sR, gI_rI, gI_rL, gL_sI, gL_sL, gL_sR, gL_rI, gL_rL, gR_sI, gR_sL, gR_sR, gR_rI, gR_rL, aI_tI, aI_tL, aI_qI, aI_qL, aI_tN, aI_tE, aL_tI, aL_tL, aL_qI, aL_qL, aL_tN, aL_tE, an_tI, an_tL, an_qI, an_qL, an_tN, an_tE, ae_tI, ae_tL, ae_qI, ae_qL, ae_tN, ae_tE] <;> repeat (first | rw [if_neg (by omega)] | rw [if_pos (by omega)]))) rfl rfl (fun _ _ => rfl) (by intros; first | with_reducible rfl | (simp only [gI_sI, gI_sL, gI_sR, gI_rI, gI_rL, gL_sI, gL_sL, gL_sR, gL_rI, gL_rL, gR_sI, gR_sL, gR_sR, gR_rI, gR_rL, aI_tI, aI_tL, aI_qI, aI_qL, aI_tN, aI_tE, aL_tI, aL_tL, aL_qI, aL_qL, aL_tN, aL_tE, an_tI, an_tL, an_qI, an_qL, an_tN, an_tE, ae_tI, ae_tL, ae_qI, ae_qL, ae_tN, ae_tE] <;> repeat (first | rw [if_neg (by omega)] | rw [if_pos (by omega)]))) (by intros; first | with_reducible rfl | (simp only [gI_sI, gI_sL, gI_sR, gI_rI, gI_rL, gL_sI, gL_sL, gL_sR, gL_rI, gL_rL, gR_sI, gR_sL, gR_sR, gR_rI, gR_rL, aI_tI, aI_tL, aI_qI, aI_qL, aI_tN, aI_tE, aL_tI, aL_tL, aL_qI, aL_qL, aL_tN, aL_tE, an_tI, an_tL, an_qI, an_qL, an_tN, an_tE, ae_tI, ae_tL, ae_qI, ae_qL, ae_tN, ae_tE] <;> repeat (first | rw [if_neg (by omega)] | rw [if_pos (by omega)]))) (by intros; first | with_reducible rfl | (simp only [gI_sI, gI_sL, gI_sR, gI_rI, gI_rL, gL_sI, gL_sL, gL_sR, gL_rI, gL_rL, gR_sI, gR_sL, gR_sR, gR_rI, gR_rL, aI_tI, aI_tL, aI_qI, aI_qL, aI_tN, aI_tE, aL_tI, aL_tL, aL_qI, aL_qL, aL_tN, aL_tE, an_tI, an_tL, an_qI, an_qL, an_tN, an_tE, ae_tI, ae_tL, ae_qI, ae_qL, ae_tN, ae_tE] <;> repeat (first | rw [if_neg (by omega)] | rw [if_pos (by omega)]))) (by
            intro q; unfold HT1 at q ⊢; obtain ⟨q1, q2, q3, q4, q5, q6, q7, q8, q9, q10, q11, q12⟩ := q
            simp (disch := omega) only [gI_sI, gI_sL, gI_sR, gI_rI, gI_rL, gL_sI, gL_sL, gL_sR, gL_rI, gL_rL, gR_sI, gR_sL, gR_sR, gR_rI, gR_rL, aI_tI, aI_tL, aI_qI, aI_qL, aI_tN, aI_tE, aL_tI, aL_tL, aL_qI, aL_qL, aL_tN, aL_tE, an_tI, an_tL, an_qI, an_qL, an_tN, an_tE, ae_tI, ae_tL, ae_qI, ae_qL, ae_tN, ae_tE, if_pos, if_neg, ↓reduceIte, false_and, and_false, and_self, st] at q1 q2 q3 q4 q5 q6 q7 q8 q9 q10 q11 q12 ⊢
            refine ⟨?_, ?_, ?_, ?_, ?_, ?_, ?_, ?_, ?_, ?_, ?_, ?_⟩ <;> first | assumption | trivial | rfl | (intro g hg; exact q12 g hg))
  · exact MR_upd (i := i) hM hi rfl (fun _ _ => rfl) (fun _ _ => rfl) (by intros; first | with_reducible rfl | (simp only [gI_sI, gI_sL, gI_sR, gI_rI, gI_rL, gL_sI, gL_sL, gL_sR, gL_rI, gL_rL, gR_sI, gR_sL, gR_sR, gR_rI, gR_rL, aI_tI, aI_tL, aI_qI, aI_qL, aI_tN, aI_tE, aL_tI, aL_tL, aL_qI, aL_qL, aL_tN, aL_tE, an_tI, an_tL, an_qI, an_qL, an_tN, an_tE, ae_tI, ae_tL, ae_qI, ae_qL, ae_tN, ae_tE] <;> repeat (first | rw [if_neg (by omega)] | rw [if_pos (by omega)]))) (by intros; first | with_reducible rfl | (simp only [gI_sI, gI_sL, gI_sR, gI_rI, gI_rL, gL_sI, gL_sL, gL_sR, gL_rI, gL_rL, gR_sI, gR_sL, gR_sR, gR_rI, gR_rL, aI_tI, aI_tL, aI_qI, aI_qL, aI_tN, aI_tE, aL_tI, aL_tL, aL_qI, aL_qL, aL_tN, aL_tE, an_tI, an_tL, an_qI, an_qL, an_tN, an_tE, ae_tI, ae_tL, ae_qI, ae_qL, ae_tN, ae_tE] <;> repeat (first | rw [if_neg (by omega)] | rw [if_pos (by omega)]))) (by intros; first | with_reducible rfl | (simp only [gI_sI, gI_sL, gI_sR, gI_rI, gI_rL, gL_sI, gL_sL, gL_sR, gL_rI, gL_rL, gR_sI, gR_sL, gR_sR, gR_rI, gR_rL, aI_tI, aI_tL, aI_qI, aI_qL, aI_tN, aI_tE, aL_tI, aL_tL, aL_qI, aL_qL, aL_tN, aL_tE, an_tI, an_tL, an_qI, an_qL, an_tN, an_tE, ae_tI, ae_tL, ae_qI, ae_qL, ae_tN, ae_tE] <;> repeat (first | rw [if_neg (by omega)] | rw [if_pos (by omega)]))) rfl rfl (fun _ _ => rfl) (by intros; first | with_reducible rfl | (simp only [gI_sI, gI_sL, gI_sR, gI_rI, gI_rL, gL_sI, gL_sL, gL_sR, gL_rI, gL_rL, gR_sI, gR_sL, gR_sR, gR_rI, gR_rL, aI_tI, aI_tL, aI_qI, aI_qL, aI_tN, aI_tE, aL_tI, aL_tL, aL_qI, aL_qL, aL_tN, aL_tE, an_tI, an_tL, an_qI, an_qL, an_tN, an_tE, ae_tI, ae_tL, ae_qI, ae_qL, ae_tN, ae_tE] <;> repeat (first | rw [if_neg (by omega)] | rw [if_pos (by omega)]))) (by intros; first | with_reducible rfl | (simp only [gI_sI, gI_sL, gI_sR, gI_rI, gI_rL, gL_sI, gL_sL, gL_sR, gL_rI, gL_rL, gR_sI, gR_sL, gR_sR, gR_rI, gR_rL, aI_tI, aI_tL, aI_qI, aI_qL, aI_tN, aI_tE, aL_tI, aL_tL, aL_qI, aL_qL, aL_tN, aL_tE, an_tI, an_tL, an_qI, an_qL, an_tN, an_tE, ae_tI, ae_tL, ae_qI, ae_qL, ae_tN, ae_tE] <;> repeat (first | rw [if_neg (by omega)] | rw [if_pos (by omega)]))) (by intros; first | with_reducible rfl | (simp only [gI_sI, gI_sL, gI_sR, gI_rI, gI_rL, gL_sI, gL_sL, gL_sR, gL_rI, gL_rL, gR_sI, gR_sL, gR_sR, gR_rI, gR_rL, aI_tI, aI_tL, aI_qI, aI_qL, aI_tN, aI_tE, aL_tI, aL_tL, aL_qI, aL_qL, aL_tN, aL_tE, an_tI, an_tL, an_qI, an_qL, an_tN, an_tE, ae_tI, ae_tL, ae_qI, ae_qL, ae_tN, ae_tE] <;> repeat (first | rw [if_neg (by omega)] | rw [if_pos (by omega)]))) (by
            intro q; unfold HT1 at q ⊢; obtain ⟨q1, q2, q3, q4, q5, q6, q7, q8, q9, q10, q11, q12⟩ := q
            simp (disch := omega) only [gI_sI, gI_sL, gI_sR, gI_rI, gI_rL, gL_sI, gL_sL, gL_sR, gL_rI, gL_rL, gR_sI, gR_sL, gR_sR, gR_rI, gR_rL, aI_tI, aI_tL, aI_qI, aI_qL, aI_tN, aI_tE, aL_tI, aL_tL, aL_qI, aL_qL, aL_tN, aL_tE, an_tI, an_tL, an_qI, an_qL, an_tN, an_tE, ae_tI, ae_tL, ae_qI, ae_qL, ae_tN, ae_tE, if_pos, if_neg, ↓reduceIte, false_and, and_false, and_self, st] at q1 q2 q3 q4 q5 q6 q7 q8 q9 q10 q11 q12 ⊢
            refine ⟨?_, ?_, ?_, ?_, ?_, ?_, ?_, ?_, ?_, ?_, ?_, ?_⟩ <;> first | assumption | trivial | rfl | (intro g hg; exact q12 g hg))
theorem WD_row {A : Ab} {r i : Nat} {v : Int32} (h : WD A r) (hv : v = -1 ∨ ∀ k, k < an A → k ≠ i → aI A r k ≠ v) : WD (tI A r i v) r := by
  intro a b ha hb hab e
  have ha : a < an A := ha
  have hb : b < an A := hb
  rw [aI_tI] at e ⊢
  rw [aI_tI] at e
  by_cases h1 : a = i
  · rw [if_pos ⟨rfl, h1⟩] at e ⊢
    rw [if_neg (by omega)] at e
    rcases hv with hv | hv
    · exact hv
    · exact absurd e.symm (hv b hb (by omega))
  · rw [if_neg (by omega)] at e ⊢
    by_cases h2 : b = i
    · rw [if_pos ⟨rfl, h2⟩] at e
      rcases hv with hv | hv
      · rw [e]; exact hv
      · exact absurd e (hv a ha h1)
    · rw [if_neg (by omega)] at e
      exact h a b ha hb hab e
theorem Wf_mark {A : Ab} (hW : Wf A) {i : Nat} {v : Int32} (hr : -1 ≤ v.toInt ∧ v.toInt ≤ 9999) (hv : v = -1 ∨ ∀ k, k < an A → k ≠ i → aI A 46 k ≠ v) : Wf (tI A 46 i v) := by
  obtain ⟨hr1, hr2⟩ := hr
  exact Wf_upd (i := i) hW rfl rfl (by intros; first | with_reducible rfl | (simp only [gI_sI, gI_sL, gI_sR, gI_rI, gI_rL, gL_sI, gL_sL, gL_sR, gL_rI, gL_rL, gR_sI, gR_sL, gR_sR, gR_rI, gR_rL, aI_tI, aI_tL, aI_qI, aI_qL, aI_tN, aI_tE, aL_tI, aL_tL, aL_qI, aL_qL, aL_tN, aL_tE, an_tI, an_tL, an_qI, an_qL, an_tN, an_tE, ae_tI, ae_tL, ae_qI, ae_qL, ae_tN, ae_tE] <;> repeat (first | rw [if_neg (by omega)] | rw [if_pos (by omega)]))) (by intros; first | with_reducible rfl | (simp only [gI_sI, gI_sL, gI_sR, gI_rI, gI_rL, gL_sI, gL_sL, gL_sR, gL_rI, gL_rL, gR_sI, gR_sL, gR_sR, gR_rI, gR_rL, aI_tI, aI_tL, aI_qI, aI_qL, aI_tN, aI_tE, aL_tI, aL_tL, aL_qI, aL_qL, aL_tN, aL_tE, an_tI, an_tL, an_qI, an_qL, an_tN, an_tE, ae_tI, ae_tL, ae_qI, ae_qL, ae_tN, ae_tE] <;> repeat (first | rw [if_neg (by omega)] | rw [if_pos (by omega)]))) (by intros; first | with_reducible rfl | (simp only [gI_sI, gI_sL, gI_sR, gI_rI, gI_rL, gL_sI, gL_sL, gL_sR, gL_rI, gL_rL, gR_sI, gR_sL, gR_sR, gR_rI, gR_rL, aI_tI, aI_tL, aI_qI, aI_qL, aI_tN, aI_tE, aL_tI, aL_tL, aL_qI, aL_qL, aL_tN, aL_tE, an_tI, an_tL, an_qI, an_qL, an_tN, an_tE, ae_tI, ae_tL, ae_qI, ae_qL, ae_tN, ae_tE] <;> repeat (first | rw [if_neg (by omega)] | rw [if_pos (by omega)]))) (by
            intro q; unfold WT1 at q ⊢; obtain ⟨q1, q2, q3, q4, q5, q6, q7, q8, q9, q10, q12⟩ := q
            simp (disch := omega) only [aI_tI, aI_tL, aI_qI, aI_qL, aI_tN, aI_tE, aL_tI, aL_tL, aL_qI, aL_qL, aL_tN, aL_tE, an_tI, an_tL, an_qI, an_qL, an_tN, an_tE, ae_tI, ae_tL, ae_qI, ae_qL, ae_tN, ae_tE, if_pos, if_neg, ↓reduceIte, false_and, and_false, and_self, st, li_m1]
            refine ⟨?_, ?_, ?_, ?_, ?_, ?_, ?_, ?_, ?_, ?_, ?_⟩ <;> first | assumption | trivial | omega | (intro g hg; exact q12 g hg) | (intro h; first | omega | exact q6 h)) (WD_row hW.2.1 hv) (WD_cong hW.2.2.1 rfl (by intros; first | with_reducible rfl | (simp only [gI_sI, gI_sL, gI_sR, gI_rI, gI_rL, gL_sI, gL_sL, gL_sR, gL_rI, gL_rL, gR_sI, gR_sL, gR_sR, gR_rI, gR_rL, aI_tI, aI_tL, aI_qI, aI_qL, aI_tN, aI_tE, aL_tI, aL_tL, aL_qI, aL_qL, aL_tN, aL_tE, an_tI, an_tL, an_qI, an_qL, an_tN, an_tE, ae_tI, ae_tL, ae_qI, ae_qL, ae_tN, ae_tE] <;> repeat (first | rw [if_neg (by omega)] | rw [if_pos (by omega)])))) (WD_cong hW.2.2.2.1 rfl (by intros; first | with_reducible rfl | (simp only [gI_sI, gI_sL, gI_sR, gI_rI, gI_rL, gL_sI, gL_sL, gL_sR, gL_rI, gL_rL, gR_sI, gR_sL, gR_sR, gR_rI, gR_rL, aI_tI, aI_tL, aI_qI, aI_qL, aI_tN, aI_tE, aL_tI, aL_tL, aL_qI, aL_qL, aL_tN, aL_tE, an_tI, an_tL, an_qI, an_qL, an_tN, an_tE, ae_tI, ae_tL, ae_qI, ae_qL, ae_tN, ae_tE] <;> repeat (first | rw [if_neg (by omega)] | rw [if_pos (by omega)]))))
-- MARK
theorem P_mark {u : Mm} (hI : Inv u) (p1 p2 : Int32) : Pq (f_X7_mark 0 p1 p2) (f_X8_mark 33 p1 p2) u := by
  obtain ⟨A, hW, hC, hM⟩ := hI
  obtain ⟨hRC, hN, hS, hF, hT, hPc, hY, hLg, hSh⟩ := id hC
  obtain ⟨hRM, h60, h7, hMs, hMf, hMt, hMy, hMl⟩ := id hM
  have h80 : an A ≤ 80 := hW.1.1
  have hn := hN.1
  by_cases hp : isT A p1
  · obtain ⟨i, hi, rfl⟩ := isT_ex hp
    have ha := at_some hC hW hi
    have hb := fun c => mt_some (MR_k hM c) (Wf_st 0 hW) hi
    have hM1 : MR (sI (sI u (60 + 2 * i) 9 p2) 0 5 0) A := hM.keep ((keepM.rf.sI (by omega)).sI (by omega))
    have hb1 := mt_some (MR_m0 hM1) (Wf_st 0 hW) hi
    clear hT hMt hSh hY hMy hPc hF hMf hS hMs hLg hMl
    by_cases hv : -1 ≤ p2.toInt ∧ p2.toInt ≤ 9999
    · have hv' := hv
      obtain ⟨hv1, hv2⟩ := hv
      have hwi := wi_t (p := p2) (a := -1) (b := 9999) u (by rw [li_m1, li_9999]; exact hv')
      by_cases hm : p2.toInt = -1
      · have h2 := mk_n (Wf_st 0 hW) (MR_m0 hM1) (t := nI i) (v := p2) (by omega) (z := some ((1 : Int32), sI (m0 (sI (sI u (60 + 2 * i) 9 p2) 0 5 0)) 46 i p2)) (an A) 1000 0 (by show 0 + an A = an A; omega) (by omega)
        rw [nI_0] at h2
        refine leaf_ok (u1 := sI u (60 + 2 * i) 9 p2) (v := sI (m0 (sI (sI u (60 + 2 * i) 9 p2) 0 5 0)) 46 i p2) (A' := tI A 46 i p2) 1 ?_ ?_ (Wf_mark hW hv' (Or.inl (by rw [i_eq, hm]; rfl))) (CR_mark hC i p2) (by rw [← tI_st _ _ _ _ _ (by omega)]; exact MR_row (MR_m0 hM1) hi (by omega) p2) (((keepC.rf.sI (by omega)).sI (by omega)).sI (by omega))
        · simp (disch := omega) only [f_X7_mark, ha, hwi, f_X7_grant, gd_t, bb_e, bd_s, cs_n, cs_s, okO_sI, okO_sL, okO_sR, okO_rI, okO_rL, okA_sI, okA_sL, okA_sR, okA_rI, okA_rL, gI_sI, gI_sL, gI_sR, gI_rI, gI_rL, gL_sI, gL_sL, gL_sR, gL_rI, gL_rL, gR_sI, gR_sL, gR_sR, gR_rI, gR_rL, oT, oS, oY, oYn, i_lt, i_le, i_eq, nI_toInt, nI_clamp, ↓reduceIte, false_and, and_false, and_self, true_and, and_true, if_pos, if_neg, ite_self, isB_0, isB_1, ix6, ix40, li_0, li_1, li_2, li_3, li_4, li_5, li_6, li_7, li_8, li_9, li_10, li_11, li_12, li_15, li_16, li_20, li_39, li_40, li_80, li_200, li_400, li_999, li_9999, li_100000, li_200000, li_300000, li_65535, li_m1, oO0 h60, oO2 h60, oO6 h60, oO10 h60, oO11 h60, oO14 h60, oO21 h60, oA1 h60, oA3 h60, oA4 h60, oA5 h60, oA7 h60, oA8 h60, oA9 h60, oA12 h60, oA13 h60, oA15 h60, oA16 h60, oA17 h60, oA18 h60, oA19 h60, oA20 h60, oA22 h60, oA23 h60, oA24 h60, rc_0_0 hRC, rc_0_1 hRC, rc_0_2 hRC, rc_0_3 hRC, rc_0_4 hRC, rc_2_0 hRC, rc_2_2 hRC, rc_2_3 hRC, rc_6_0 hRC, rc_6_1 hRC, rc_6_2 hRC, rc_10_0 hRC, rc_10_1 hRC, rc_10_2 hRC, rc_10_3 hRC, rc_10_4 hRC, rc_10_5 hRC, rc_11_0 hRC, rc_11_1 hRC, rc_14_0 hRC, rc_14_1 hRC, rc_21_0 hRC, rc_21_1 hRC, rc_21_2 hRC]
        · simp (disch := omega) only [f_X8_mark, hb1, h2, gd_t, bb_e, bd_s, cs_n, cs_s, okO_sI, okO_sL, okO_sR, okO_rI, okO_rL, okA_sI, okA_sL, okA_sR, okA_rI, okA_rL, gI_sI, gI_sL, gI_sR, gI_rI, gI_rL, gL_sI, gL_sL, gL_sR, gL_rI, gL_rL, gR_sI, gR_sL, gR_sR, gR_rI, gR_rL, oT, oS, oY, oYn, i_lt, i_le, i_eq, nI_toInt, nI_clamp, ↓reduceIte, false_and, and_false, and_self, true_and, and_true, if_pos, if_neg, ite_self, isB_0, isB_1, ix6, ix40, li_0, li_1, li_2, li_3, li_4, li_5, li_6, li_7, li_8, li_9, li_10, li_11, li_12, li_15, li_16, li_20, li_39, li_40, li_80, li_200, li_400, li_999, li_9999, li_100000, li_200000, li_300000, li_65535, li_m1, oO33 h60, oA34 h60, oA35 h60, oA36 h60, oA37 h60, oA38 h60, oA39 h60, oA40 h60, oA41 h60, oA42 h60, oA43 h60, oA44 h60, oA45 h60, oA46 h60, oA47 h60, oA48 h60, oA49 h60, oA50 h60, oA51 h60, oA52 h60, oA53 h60, oA54 h60, oA55 h60, oA56 h60, oA57 h60, oA58 h60, oA59 h60, rm_4 hRM, rm_5 hRM, rm_6 hRM, rm_8 hRM, rm_9 hRM, rm_10 hRM, rm_11 hRM, rm_12 hRM, rm_13 hRM, rm_14 hRM, rm_15 hRM, rm_16 hRM, rm_17 hRM, rm_18 hRM, rm_19 hRM, rm_20 hRM, rm_21 hRM, rm_23 hRM, rm_24 hRM, rm_25 hRM, rm_26 hRM, rm_27 hRM, rm_28 hRM, rm_29 hRM, rm_30 hRM, rm_32 hRM]
      · have h1 := ism_l hW hC (t := i) (v := p2) (an A) 1000 0 (by omega) (by omega)
        rw [nI_0] at h1
        have h2 := mk_l (Wf_st 0 hW) (MR_m0 hM1) (t := i) hi (v := p2) (by omega) (z := some ((1 : Int32), sI (m0 (sI (sI u (60 + 2 * i) 9 p2) 0 5 0)) 46 i p2)) (an A) 1000 0 (by show 0 + an A = an A; omega) (by omega)
        have h3 := mk_l (Wf_st 0 hW) (MR_k hM 10) (t := i) hi (v := p2) (by omega) (z := some ((1 : Int32), sI (m0 (sI u 0 5 10)) 46 i p2)) (an A) 1000 0 (by show 0 + an A = an A; omega) (by omega)
        rw [nI_0] at h2 h3
        simp only [aI_st (show 46 ≠ 33 by omega)] at h2 h3
        cases he : ex (fun k => !decide (k = i) && decide (aI A 46 k = p2)) 0 (an A) with
        | true =>
          rw [he, b2i_t] at h1
          rw [he, if_pos rfl] at h3
          refine leaf_st (A := A) 0 10 0 hW hC hM ?_ ?_
          · simp (disch := omega) only [f_X7_mark, f_X0_isMarkOfAnother, h1, ha, hwi, f_X7_deny, gd_t, bb_e, bd_s, cs_n, cs_s, okO_sI, okO_sL, okO_sR, okO_rI, okO_rL, okA_sI, okA_sL, okA_sR, okA_rI, okA_rL, gI_sI, gI_sL, gI_sR, gI_rI, gI_rL, gL_sI, gL_sL, gL_sR, gL_rI, gL_rL, gR_sI, gR_sL, gR_sR, gR_rI, gR_rL, oT, oS, oY, oYn, i_lt, i_le, i_eq, nI_toInt, nI_clamp, ↓reduceIte, false_and, and_false, and_self, true_and, and_true, if_pos, if_neg, ite_self, isB_0, isB_1, ix6, ix40, li_0, li_1, li_2, li_3, li_4, li_5, li_6, li_7, li_8, li_9, li_10, li_11, li_12, li_15, li_16, li_20, li_39, li_40, li_80, li_200, li_400, li_999, li_9999, li_100000, li_200000, li_300000, li_65535, li_m1, oO0 h60, oO2 h60, oO6 h60, oO10 h60, oO11 h60, oO14 h60, oO21 h60, oA1 h60, oA3 h60, oA4 h60, oA5 h60, oA7 h60, oA8 h60, oA9 h60, oA12 h60, oA13 h60, oA15 h60, oA16 h60, oA17 h60, oA18 h60, oA19 h60, oA20 h60, oA22 h60, oA23 h60, oA24 h60, rc_0_0 hRC, rc_0_1 hRC, rc_0_2 hRC, rc_0_3 hRC, rc_0_4 hRC, rc_2_0 hRC, rc_2_2 hRC, rc_2_3 hRC, rc_6_0 hRC, rc_6_1 hRC, rc_6_2 hRC, rc_10_0 hRC, rc_10_1 hRC, rc_10_2 hRC, rc_10_3 hRC, rc_10_4 hRC, rc_10_5 hRC, rc_11_0 hRC, rc_11_1 hRC, rc_14_0 hRC, rc_14_1 hRC, rc_21_0 hRC, rc_21_1 hRC, rc_21_2 hRC]
          · simp (disch := omega) only [f_X8_mark, hb 10, h3, gd_t, bb_e, bd_s, cs_n, cs_s, okO_sI, okO_sL, okO_sR, okO_rI, okO_rL, okA_sI, okA_sL, okA_sR, okA_rI, okA_rL, gI_sI, gI_sL, gI_sR, gI_rI, gI_rL, gL_sI, gL_sL, gL_sR, gL_rI, gL_rL, gR_sI, gR_sL, gR_sR, gR_rI, gR_rL, oT, oS, oY, oYn, i_lt, i_le, i_eq, nI_toInt, nI_clamp, ↓reduceIte, false_and, and_false, and_self, true_and, and_true, if_pos, if_neg, ite_self, isB_0, isB_1, ix6, ix40, li_0, li_1, li_2, li_3, li_4, li_5, li_6, li_7, li_8, li_9, li_10, li_11, li_12, li_15, li_16, li_20, li_39, li_40, li_80, li_200, li_400, li_999, li_9999, li_100000, li_200000, li_300000, li_65535, li_m1, oO33 h60, oA34 h60, oA35 h60, oA36 h60, oA37 h60, oA38 h60, oA39 h60, oA40 h60, oA41 h60, oA42 h60, oA43 h60, oA44 h60, oA45 h60, oA46 h60, oA47 h60, oA48 h60, oA49 h60, oA50 h60, oA51 h60, oA52 h60, oA53 h60, oA54 h60, oA55 h60, oA56 h60, oA57 h60, oA58 h60, oA59 h60, rm_4 hRM, rm_5 hRM, rm_6 hRM, rm_8 hRM, rm_9 hRM, rm_10 hRM, rm_11 hRM, rm_12 hRM, rm_13 hRM, rm_14 hRM, rm_15 hRM, rm_16 hRM, rm_17 hRM, rm_18 hRM, rm_19 hRM, rm_20 hRM, rm_21 hRM, rm_23 hRM, rm_24 hRM, rm_25 hRM, rm_26 hRM, rm_27 hRM, rm_28 hRM, rm_29 hRM, rm_30 hRM, rm_32 hRM]
        | false =>
          rw [he, b2i_f] at h1
          rw [he, if_neg (by decide)] at h2
          refine leaf_ok (u1 := sI u (60 + 2 * i) 9 p2) (v := sI (m0 (sI (sI u (60 + 2 * i) 9 p2) 0 5 0)) 46 i p2) (A' := tI A 46 i p2) 1 ?_ ?_ (Wf_mark hW hv' (Or.inr (fun k hk hki e => by have := ex_no he k (by omega) (by omega); simp [hki, e] at this))) (CR_mark hC i p2) (by rw [← tI_st _ _ _ _ _ (by omega)]; exact MR_row (MR_m0 hM1) hi (by omega) p2) (((keepC.rf.sI (by omega)).sI (by omega)).sI (by omega))
          · simp (disch := omega) only [f_X7_mark, f_X0_isMarkOfAnother, h1, ha, hwi, f_X7_grant, gd_t, bb_e, bd_s, cs_n, cs_s, okO_sI, okO_sL, okO_sR, okO_rI, okO_rL, okA_sI, okA_sL, okA_sR, okA_rI, okA_rL, gI_sI, gI_sL, gI_sR, gI_rI, gI_rL, gL_sI, gL_sL, gL_sR, gL_rI, gL_rL, gR_sI, gR_sL, gR_sR, gR_rI, gR_rL, oT, oS, oY, oYn, i_lt, i_le, i_eq, nI_toInt, nI_clamp, ↓reduceIte, false_and, and_false, and_self, true_and, and_true, if_pos, if_neg, ite_self, isB_0, isB_1, ix6, ix40, li_0, li_1, li_2, li_3, li_4, li_5, li_6, li_7, li_8, li_9, li_10, li_11, li_12, li_15, li_16, li_20, li_39, li_40, li_80, li_200, li_400, li_999, li_9999, li_100000, li_200000, li_300000, li_65535, li_m1, oO0 h60, oO2 h60, oO6 h60, oO10 h60, oO11 h60, oO14 h60, oO21 h60, oA1 h60, oA3 h60, oA4 h60, oA5 h60, oA7 h60, oA8 h60, oA9 h60, oA12 h60, oA13 h60, oA15 h60, oA16 h60, oA17 h60, oA18 h60, oA19 h60, oA20 h60, oA22 h60, oA23 h60, oA24 h60, rc_0_0 hRC, rc_0_1 hRC, rc_0_2 hRC, rc_0_3 hRC, rc_0_4 hRC, rc_2_0 hRC, rc_2_2 hRC, rc_2_3 hRC, rc_6_0 hRC, rc_6_1 hRC, rc_6_2 hRC, rc_10_0 hRC, rc_10_1 hRC, rc_10_2 hRC, rc_10_3 hRC, rc_10_4 hRC, rc_10_5 hRC, rc_11_0 hRC, rc_11_1 hRC, rc_14_0 hRC, rc_14_1 hRC, rc_21_0 hRC, rc_21_1 hRC, rc_21_2 hRC]
          · simp (disch := omega) only [f_X8_mark, hb1, h2, gd_t, bb_e, bd_s, cs_n, cs_s, okO_sI, okO_sL, okO_sR, okO_rI, okO_rL, okA_sI, okA_sL, okA_sR, okA_rI, okA_rL, gI_sI, gI_sL, gI_sR, gI_rI, gI_rL, gL_sI, gL_sL, gL_sR, gL_rI, gL_rL, gR_sI, gR_sL, gR_sR, gR_rI, gR_rL, oT, oS, oY, oYn, i_lt, i_le, i_eq, nI_toInt, nI_clamp, ↓reduceIte, false_and, and_false, and_self, true_and, and_true, if_pos, if_neg, ite_self, isB_0, isB_1, ix6, ix40, li_0, li_1, li_2, li_3, li_4, li_5, li_6, li_7, li_8, li_9, li_10, li_11, li_12, li_15, li_16, li_20, li_39, li_40, li_80, li_200, li_400, li_999, li_9999, li_100000, li_200000, li_300000, li_65535, li_m1, oO33 h60, oA34 h60, oA35 h60, oA36 h60, oA37 h60, oA38 h60, oA39 h60, oA40 h60, oA41 h60, oA42 h60, oA43 h60, oA44 h60, oA45 h60, oA46 h60, oA47 h60, oA48 h60, oA49 h60, oA50 h60, oA51 h60, oA52 h60, oA53 h60, oA54 h60, oA55 h60, oA56 h60, oA57 h60, oA58 h60, oA59 h60, rm_4 hRM, rm_5 hRM, rm_6 hRM, rm_8 hRM, rm_9 hRM, rm_10 hRM, rm_11 hRM, rm_12 hRM, rm_13 hRM, rm_14 hRM, rm_15 hRM, rm_16 hRM, rm_17 hRM, rm_18 hRM, rm_19 hRM, rm_20 hRM, rm_21 hRM, rm_23 hRM, rm_24 hRM, rm_25 hRM, rm_26 hRM, rm_27 hRM, rm_28 hRM, rm_29 hRM, rm_30 hRM, rm_32 hRM]
    · have hwi := wi_f (p := p2) (a := -1) (b := 9999) u (by rw [li_m1, li_9999]; exact hv)
      refine leaf_st (A := A) 0 5 0 hW hC hM ?_ ?_
      · simp (disch := omega) only [f_X7_mark, ha, hwi, f_X7_deny, gd_t, bb_e, bd_s, cs_n, cs_s, okO_sI, okO_sL, okO_sR, okO_rI, okO_rL, okA_sI, okA_sL, okA_sR, okA_rI, okA_rL, gI_sI, gI_sL, gI_sR, gI_rI, gI_rL, gL_sI, gL_sL, gL_sR, gL_rI, gL_rL, gR_sI, gR_sL, gR_sR, gR_rI, gR_rL, oT, oS, oY, oYn, i_lt, i_le, i_eq, nI_toInt, nI_clamp, ↓reduceIte, false_and, and_false, and_self, true_and, and_true, if_pos, if_neg, ite_self, isB_0, isB_1, ix6, ix40, li_0, li_1, li_2, li_3, li_4, li_5, li_6, li_7, li_8, li_9, li_10, li_11, li_12, li_15, li_16, li_20, li_39, li_40, li_80, li_200, li_400, li_999, li_9999, li_100000, li_200000, li_300000, li_65535, li_m1, oO0 h60, oO2 h60, oO6 h60, oO10 h60, oO11 h60, oO14 h60, oO21 h60, oA1 h60, oA3 h60, oA4 h60, oA5 h60, oA7 h60, oA8 h60, oA9 h60, oA12 h60, oA13 h60, oA15 h60, oA16 h60, oA17 h60, oA18 h60, oA19 h60, oA20 h60, oA22 h60, oA23 h60, oA24 h60, rc_0_0 hRC, rc_0_1 hRC, rc_0_2 hRC, rc_0_3 hRC, rc_0_4 hRC, rc_2_0 hRC, rc_2_2 hRC, rc_2_3 hRC, rc_6_0 hRC, rc_6_1 hRC, rc_6_2 hRC, rc_10_0 hRC, rc_10_1 hRC, rc_10_2 hRC, rc_10_3 hRC, rc_10_4 hRC, rc_10_5 hRC, rc_11_0 hRC, rc_11_1 hRC, rc_14_0 hRC, rc_14_1 hRC, rc_21_0 hRC, rc_21_1 hRC, rc_21_2 hRC]
      · by_cases h0 : p2.toInt < -1 <;> simp (disch := omega) only [f_X8_mark, hb 5, f_X8_no, gd_t, bb_e, bd_s, cs_n, cs_s, okO_sI, okO_sL, okO_sR, okO_rI, okO_rL, okA_sI, okA_sL, okA_sR, okA_rI, okA_rL, gI_sI, gI_sL, gI_sR, gI_rI, gI_rL, gL_sI, gL_sL, gL_sR, gL_rI, gL_rL, gR_sI, gR_sL, gR_sR, gR_rI, gR_rL, oT, oS, oY, oYn, i_lt, i_le, i_eq, nI_toInt, nI_clamp, ↓reduceIte, false_and, and_false, and_self, true_and, and_true, if_pos, if_neg, ite_self, isB_0, isB_1, ix6, ix40, li_0, li_1, li_2, li_3, li_4, li_5, li_6, li_7, li_8, li_9, li_10, li_11, li_12, li_15, li_16, li_20, li_39, li_40, li_80, li_200, li_400, li_999, li_9999, li_100000, li_200000, li_300000, li_65535, li_m1, oO33 h60, oA34 h60, oA35 h60, oA36 h60, oA37 h60, oA38 h60, oA39 h60, oA40 h60, oA41 h60, oA42 h60, oA43 h60, oA44 h60, oA45 h60, oA46 h60, oA47 h60, oA48 h60, oA49 h60, oA50 h60, oA51 h60, oA52 h60, oA53 h60, oA54 h60, oA55 h60, oA56 h60, oA57 h60, oA58 h60, oA59 h60, rm_4 hRM, rm_5 hRM, rm_6 hRM, rm_8 hRM, rm_9 hRM, rm_10 hRM, rm_11 hRM, rm_12 hRM, rm_13 hRM, rm_14 hRM, rm_15 hRM, rm_16 hRM, rm_17 hRM, rm_18 hRM, rm_19 hRM, rm_20 hRM, rm_21 hRM, rm_23 hRM, rm_24 hRM, rm_25 hRM, rm_26 hRM, rm_27 hRM, rm_28 hRM, rm_29 hRM, rm_30 hRM, rm_32 hRM]
  · refine leaf_st (A := A) 0 2 0 hW hC hM ?_ ?_
    · simp (disch := omega) only [f_X7_mark, at_none hC hW hp, f_X7_deny, gd_t, bb_e, bd_s, cs_n, cs_s, okO_sI, okO_sL, okO_sR, okO_rI, okO_rL, okA_sI, okA_sL, okA_sR, okA_rI, okA_rL, gI_sI, gI_sL, gI_sR, gI_rI, gI_rL, gL_sI, gL_sL, gL_sR, gL_rI, gL_rL, gR_sI, gR_sL, gR_sR, gR_rI, gR_rL, oT, oS, oY, oYn, i_lt, i_le, i_eq, nI_toInt, nI_clamp, ↓reduceIte, false_and, and_false, and_self, true_and, and_true, if_pos, if_neg, ite_self, isB_0, isB_1, ix6, ix40, li_0, li_1, li_2, li_3, li_4, li_5, li_6, li_7, li_8, li_9, li_10, li_11, li_12, li_15, li_16, li_20, li_39, li_40, li_80, li_200, li_400, li_999, li_9999, li_100000, li_200000, li_300000, li_65535, li_m1, oO0 h60, oO2 h60, oO6 h60, oO10 h60, oO11 h60, oO14 h60, oO21 h60, oA1 h60, oA3 h60, oA4 h60, oA5 h60, oA7 h60, oA8 h60, oA9 h60, oA12 h60, oA13 h60, oA15 h60, oA16 h60, oA17 h60, oA18 h60, oA19 h60, oA20 h60, oA22 h60, oA23 h60, oA24 h60, rc_0_0 hRC, rc_0_1 hRC, rc_0_2 hRC, rc_0_3 hRC, rc_0_4 hRC, rc_2_0 hRC, rc_2_2 hRC, rc_2_3 hRC, rc_6_0 hRC, rc_6_1 hRC, rc_6_2 hRC, rc_10_0 hRC, rc_10_1 hRC, rc_10_2 hRC, rc_10_3 hRC, rc_10_4 hRC, rc_10_5 hRC, rc_11_0 hRC, rc_11_1 hRC, rc_14_0 hRC, rc_14_1 hRC, rc_21_0 hRC, rc_21_1 hRC, rc_21_2 hRC]
    · simp (disch := omega) only [f_X8_mark, mt_none (MR_k hM 2) (Wf_st 0 hW) hp, f_X8_no, gd_t, bb_e, bd_s, cs_n, cs_s, okO_sI, okO_sL, okO_sR, okO_rI, okO_rL, okA_sI, okA_sL, okA_sR, okA_rI, okA_rL, gI_sI, gI_sL, gI_sR, gI_rI, gI_rL, gL_sI, gL_sL, gL_sR, gL_rI, gL_rL, gR_sI, gR_sL, gR_sR, gR_rI, gR_rL, oT, oS, oY, oYn, i_lt, i_le, i_eq, nI_toInt, nI_clamp, ↓reduceIte, false_and, and_false, and_self, true_and, and_true, if_pos, if_neg, ite_self, isB_0, isB_1, ix6, ix40, li_0, li_1, li_2, li_3, li_4, li_5, li_6, li_7, li_8, li_9, li_10, li_11, li_12, li_15, li_16, li_20, li_39, li_40, li_80, li_200, li_400, li_999, li_9999, li_100000, li_200000, li_300000, li_65535, li_m1, oO33 h60, oA34 h60, oA35 h60, oA36 h60, oA37 h60, oA38 h60, oA39 h60, oA40 h60, oA41 h60, oA42 h60, oA43 h60, oA44 h60, oA45 h60, oA46 h60, oA47 h60, oA48 h60, oA49 h60, oA50 h60, oA51 h60, oA52 h60, oA53 h60, oA54 h60, oA55 h60, oA56 h60, oA57 h60, oA58 h60, oA59 h60, rm_4 hRM, rm_5 hRM, rm_6 hRM, rm_8 hRM, rm_9 hRM, rm_10 hRM, rm_11 hRM, rm_12 hRM, rm_13 hRM, rm_14 hRM, rm_15 hRM, rm_16 hRM, rm_17 hRM, rm_18 hRM, rm_19 hRM, rm_20 hRM, rm_21 hRM, rm_23 hRM, rm_24 hRM, rm_25 hRM, rm_26 hRM, rm_27 hRM, rm_28 hRM, rm_29 hRM, rm_30 hRM, rm_32 hRM]
