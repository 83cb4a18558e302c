/-- the latest entry of a thing up to a tick, among the first m -/
def lat (A : Ab) (t tick : Int32) : Nat → Option Nat
  | 0 => none
  | m + 1 => if aI A 51 m = t ∧ ¬ tick < aI A 53 m then some m else lat A t tick m
def hol (A : Ab) (t tick : Int32) (m : Nat) : Int32 := match lat A t tick m with
  | none => -1
  | some k => aI A 52 k
theorem lat_lt {A : Ab} {t tick : Int32} : ∀ {m k : Nat}, lat A t tick m = some k → k < m
  | 0, k, h => by cases h
  | m + 1, k, h => by
    unfold lat at h
    split at h
    · cases h; omega
    · have := lat_lt h; omega
theorem lat_st (A : Ab) (c t tick : Int32) : ∀ m, lat (st A c) t tick m = lat A t tick m
  | 0 => rfl
  | m + 1 => by simp only [lat, aI_st (show 51 ≠ 33 by omega), aI_st (show 53 ≠ 33 by omega), lat_st A c t tick m]
theorem hol_st (A : Ab) (c t tick : Int32) (m : Nat) : hol (st A c) t tick m = hol A t tick m := by
  unfold hol
  rw [lat_st]
  cases lat A t tick m with
  | none => rfl
  | some k => exact aI_st (by omega)
theorem sub1 (x : Int32) : x + (-1) = x - 1 := by
  rw [Int32.sub_eq_add_neg]
theorem holder_l {u : Mm} {A : Ab} (hW : Wf A) (hC : CR u A) (t tick : Int32) : ∀ (m n : Nat), m ≤ ae A → m < n → L_X2_holder_7 6 t tick u (fun _ => some (-1 : Int32)) n (nI m - 1) = some (hol A t tick m) := by
  obtain ⟨hRC, hN, -, -, -, -, -, hL, -⟩ := id hC
  have hn := hN.1
  have h60 : 60 ≤ u.1 := by omega
  have he := hW.2.2.2.2.2.1
  intro m
  induction m with
  | zero =>
    intro n _ h
    obtain ⟨n, rfl⟩ : ∃ a, n = a + 1 := ⟨n - 1, by omega⟩
    rw [L_X2_holder_7, if_pos (by decide)]
    rfl
  | succ m ih =>
    intro n h1 h2
    obtain ⟨n, rfl⟩ : ∃ a, n = a + 1 := ⟨n - 1, by omega⟩
    obtain ⟨l1, l2, l3⟩ := hL.2 m (by omega)
    have ih := ih n (by omega) (by omega)
    rw [L_X2_holder_7, nI_pred, if_neg (nI_pos (by omega))]
    simp only [oO6 h60, gd_t, bb_e, rc_6_0 hRC, rc_6_1 hRC, rc_6_2 hRC, cs_s, oA7 h60 (show m < 200 by omega), oA8 h60 (show m < 200 by omega), oA9 h60 (show m < 200 by omega), nI_clamp (show m < 2 ^ 31 by omega), l1, l2, l3, sub1, ih]
    unfold hol
    rw [lat]
    by_cases c1 : aI A 51 m = t
    · by_cases c2 : tick < aI A 53 m
      · rw [if_pos c1, if_pos c2, if_neg (by simp [c2])]
      · rw [if_pos c1, if_neg c2, if_pos ⟨c1, c2⟩]
    · rw [if_neg c1, if_neg (by simp [c1])]
theorem holder_t {u : Mm} {A : Ab} (hW : Wf A) (hC : CR u A) (t tick : Int32) : f_X2_holder 6 t tick u = some (hol A t tick (ae A)) := by
  obtain ⟨hRC, hN, -, -, -, -, -, hL, -⟩ := id hC
  have hn := hN.1
  have he := hW.2.2.2.2.2.1
  rw [f_X2_holder, oO6 (by omega), gd_t, bb_e, hL.1]
  exact holder_l hW hC t tick (ae A) 1000 (Nat.le_refl _) (by omega)
theorem latest_l {u : Mm} {A : Ab} (hW : Wf A) (hM : MR u A) (t tick : Int32) {k : Int32 → Int32 → Option Int32} : ∀ (d n j : Nat), j + d = ae A → d < n → L_X8_latest_5 33 t tick u k n (pI (lat A t tick j)) (nI j) = k (pI (lat A t tick (ae A))) (nI (ae A)) := by
  obtain ⟨hRM, h60, -, -, -, -, -, hL⟩ := id hM
  have he := hW.2.2.2.2.2.1
  intro d
  induction d with
  | zero =>
    intro n j h1 h2
    obtain ⟨n, rfl⟩ : ∃ a, n = a + 1 := ⟨n - 1, by omega⟩
    have e : j = ae A := by omega
    subst e
    rw [L_X8_latest_5, oO33 h60, gd_t, hL.1, if_pos (nI_le (Nat.le_refl _) (by omega))]
  | succ d ih =>
    intro n j h1 h2
    obtain ⟨n, rfl⟩ : ∃ a, n = a + 1 := ⟨n - 1, by omega⟩
    obtain ⟨l1, l2, l3⟩ := hL.2 j (by omega)
    have ih := ih n (j + 1) (by omega) (by omega)
    rw [lat] at ih
    rw [L_X8_latest_5, oO33 h60, gd_t, hL.1, if_neg (nI_ge (by omega) (by omega))]
    simp only [bb_e, rm_23 hRM, rm_25 hRM, cs_s, oA51 h60 (show j < 200 by omega), oA53 h60 (show j < 200 by omega), gd_t, nI_clamp (show j < 2 ^ 31 by omega), l1, l3, nI_1']
    by_cases c1 : aI A 51 j = t
    · by_cases c2 : tick < aI A 53 j
      · rw [if_neg (by simp [c2])] at ih
        rw [if_pos c1, if_pos c2, ih]
      · rw [if_pos ⟨c1, c2⟩] at ih
        rw [if_pos c1, if_neg c2]
        exact ih
    · rw [if_neg (by simp [c1])] at ih
      rw [if_neg c1, ih]
theorem latest_t {u : Mm} {A : Ab} (hW : Wf A) (hM : MR u A) (t tick : Int32) : f_X8_latest 33 t tick u = some (pI (lat A t tick (ae A))) := by
  have he := hW.2.2.2.2.2.1
  have h := latest_l hW hM t tick (k := fun a14 _ => some a14) (ae A) 1000 0 (by omega) (by omega)
  rw [nI_0] at h
  exact h
/-- all entries stand before a tick -/
theorem lat_all {A : Ab} {t a b : Int32} : ∀ m, (∀ k, k < m → ¬ a < aI A 53 k ∧ ¬ b < aI A 53 k) → lat A t a m = lat A t b m
  | 0, _ => rfl
  | m + 1, h => by
    simp only [lat]
    rw [lat_all m (fun k hk => h k (by omega))]
    have := h m (by omega)
    simp [this.1, this.2]
/-- the latest tick -/
def ltk (A : Ab) : Int32 := if ae A = 0 then 0 else aI A 53 (ae A - 1)
theorem ltk_st (A : Ab) (c : Int32) : ltk (st A c) = ltk A := by
  unfold ltk
  rw [show ae (st A c) = ae A from rfl, aI_st (by omega)]
theorem ltk_range {A : Ab} (hW : Wf A) : 0 ≤ (ltk A).toInt ∧ (ltk A).toInt ≤ 100000 := by
  unfold ltk
  split
  · decide
  · exact (hW.2.2.2.2.2.2.1 (ae A - 1) (by omega)).2
theorem ltk_all {A : Ab} (hW : Wf A) {k : Nat} (hk : k < ae A) : (aI A 53 k).toInt ≤ (ltk A).toInt := by
  unfold ltk
  rw [if_neg (by omega)]
  exact hW.2.2.2.2.2.2.2 k (ae A - 1) (by omega) (by omega)
theorem why_t {u : Mm} {A : Ab} (hW : Wf A) (hC : CR u A) (p : Int32) : f_X2_whyNot 6 p u = some (if (ltk A).toInt ≤ p.toInt ∧ p.toInt ≤ 100000 then (if ae A < 200 then 0 else 7) else 5) := by
  obtain ⟨hRC, hN, -, -, -, -, -, hL, -⟩ := id hC
  have hn := hN.1
  have h60 : 60 ≤ u.1 := by omega
  have he := hW.2.2.2.2.2.1
  rw [f_X2_whyNot, oO6 h60, gd_t, hL.1]
  have e0 : (200 ≤ nI (ae A)) = ¬ (ae A < 200) := by
    rw [show (200 : Int32) = nI 200 from rfl, nI_leI (by omega) (by omega)]
    simp
  by_cases h : ae A = 0
  · have hl : ltk A = 0 := by unfold ltk; rw [if_pos h]
    rw [if_pos (by rw [h, nI_0]), hl, li_0]
    by_cases hp : 0 ≤ p.toInt ∧ p.toInt ≤ 100000
    · rw [wi_t u (by rw [li_0, li_100000]; exact hp), bd_s, if_neg (by decide), if_pos hp]
      by_cases q : ae A < 200 <;> simp [e0, q]
    · rw [wi_f u (by rw [li_0, li_100000]; exact hp), bd_s, if_pos rfl, if_neg hp]
  · obtain ⟨e', hE⟩ : ∃ e', ae A = e' + 1 := ⟨ae A - 1, by omega⟩
    have hl : ltk A = aI A 53 e' := by unfold ltk; rw [if_neg h, hE]; rfl
    obtain ⟨-, -, l3⟩ := hL.2 e' (by omega)
    rw [if_neg (nI_ne0 (by omega) (by omega)), bb_e, rc_6_2 hRC, cs_s, hE, nI_pred, oA9 h60 (by omega), gd_t, bb_e, nI_clamp (by omega), l3, ← hl]
    rw [hE] at e0
    by_cases hp : (ltk A).toInt ≤ p.toInt ∧ p.toInt ≤ 100000
    · rw [wi_t u (by rw [li_100000]; exact hp), bd_s, if_neg (by decide), if_pos hp]
      by_cases q : e' + 1 < 200 <;> simp [e0, q]
    · rw [wi_f u (by rw [li_100000]; exact hp), bd_s, if_pos rfl, if_neg hp]
theorem ltk_t {u : Mm} {A : Ab} (hW : Wf A) (hM : MR u A) : f_X8_lastTick 33 u = some (ltk A) := by
  obtain ⟨hRM, h60, -, -, -, -, -, hL⟩ := id hM
  have he := hW.2.2.2.2.2.1
  rw [f_X8_lastTick, oO33 h60, gd_t, hL.1]
  by_cases h : ae A = 0
  · rw [if_pos (by rw [h, nI_0])]
    unfold ltk
    rw [if_pos h]
  · obtain ⟨e', hE⟩ : ∃ e', ae A = e' + 1 := ⟨ae A - 1, by omega⟩
    obtain ⟨-, -, l3⟩ := hL.2 e' (by omega)
    rw [if_neg (nI_ne0 (by omega) (by omega)), bb_e, rm_25 hRM, cs_s, hE, nI_pred, oA53 h60 (by omega), gd_t, nI_clamp (by omega), l3]
    unfold ltk
    rw [if_neg h, hE]
    rfl
/-- one entry more -/
abbrev eA (A : Ab) (t p k : Int32) : Ab := tE (tI (tI (tI A 51 (ae A) t) 52 (ae A) p) 53 (ae A) k) (ae A + 1)
theorem append_t {u : Mm} {A : Ab} (hC : CR u A) (he : ae A < 200) (t p k : Int32) : f_X2_append 6 t p k u = some (sI (sI (sI (sI u 7 (ae A) t) 8 (ae A) p) 9 (ae A) k) 6 3 (nI (ae A + 1))) := by
  obtain ⟨hRC, hN, -, -, -, -, -, hL, -⟩ := id hC
  have hn := hN.1
  have h60 : 60 ≤ u.1 := by omega
  have h1 := hL.1
  simp (disch := omega) only [f_X2_append, h1, nI_1, gd_t, bb_e, bd_s, cs_n, cs_s, okO_sI, okO_sL, okO_sR, okO_rI, okO_rL, okA_sI, okA_sL, okA_sR, okA_rI, okA_rL, gI_sI, gI_sL, gI_sR, gI_rI, gI_rL, gL_sI, gL_sL, gL_sR, gL_rI, gL_rL, gR_sI, gR_sL, gR_sR, gR_rI, gR_rL, oT, oS, oY, oYn, i_lt, i_le, i_eq, nI_toInt, nI_clamp, ↓reduceIte, false_and, and_false, and_self, true_and, and_true, if_pos, if_neg, ite_self, isB_0, isB_1, ix6, ix40, li_0, li_1, li_2, li_3, li_4, li_5, li_6, li_7, li_8, li_9, li_10, li_11, li_12, li_15, li_16, li_20, li_39, li_40, li_80, li_200, li_400, li_999, li_9999, li_100000, li_200000, li_300000, li_65535, li_m1, oO0 h60, oO2 h60, oO6 h60, oO10 h60, oO11 h60, oO14 h60, oO21 h60, oA1 h60, oA3 h60, oA4 h60, oA5 h60, oA7 h60, oA8 h60, oA9 h60, oA12 h60, oA13 h60, oA15 h60, oA16 h60, oA17 h60, oA18 h60, oA19 h60, oA20 h60, oA22 h60, oA23 h60, oA24 h60, rc_0_0 hRC, rc_0_1 hRC, rc_0_2 hRC, rc_0_3 hRC, rc_0_4 hRC, rc_2_0 hRC, rc_2_2 hRC, rc_2_3 hRC, rc_6_0 hRC, rc_6_1 hRC, rc_6_2 hRC, rc_10_0 hRC, rc_10_1 hRC, rc_10_2 hRC, rc_10_3 hRC, rc_10_4 hRC, rc_10_5 hRC, rc_11_0 hRC, rc_11_1 hRC, rc_14_0 hRC, rc_14_1 hRC, rc_21_0 hRC, rc_21_1 hRC, rc_21_2 hRC]
theorem enter_t {u : Mm} {A : Ab} (hM : MR u A) (he : ae A < 200) (t p k : Int32) : f_X8_enter 33 t p k u = some (sI (sI (sI (sI u 51 (ae A) t) 52 (ae A) p) 53 (ae A) k) 33 22 (nI (ae A + 1))) := by
  obtain ⟨hRM, h60, -, -, -, -, -, hL⟩ := id hM
  have h1 := hL.1
  simp (disch := omega) only [f_X8_enter, h1, nI_1, gd_t, bb_e, bd_s, cs_n, cs_s, okO_sI, okO_sL, okO_sR, okO_rI, okO_rL, okA_sI, okA_sL, okA_sR, okA_rI, okA_rL, gI_sI, gI_sL, gI_sR, gI_rI, gI_rL, gL_sI, gL_sL, gL_sR, gL_rI, gL_rL, gR_sI, gR_sL, gR_sR, gR_rI, gR_rL, oT, oS, oY, oYn, i_lt, i_le, i_eq, nI_toInt, nI_clamp, ↓reduceIte, false_and, and_false, and_self, true_and, and_true, if_pos, if_neg, ite_self, isB_0, isB_1, ix6, ix40, li_0, li_1, li_2, li_3, li_4, li_5, li_6, li_7, li_8, li_9, li_10, li_11, li_12, li_15, li_16, li_20, li_39, li_40, li_80, li_200, li_400, li_999, li_9999, li_100000, li_200000, li_300000, li_65535, li_m1, oO33 h60, oA34 h60, oA35 h60, oA36 h60, oA37 h60, oA38 h60, oA39 h60, oA40 h60, oA41 h60, oA42 h60, oA43 h60, oA44 h60, oA45 h60, oA46 h60, oA47 h60, oA48 h60, oA49 h60, oA50 h60, oA51 h60, oA52 h60, oA53 h60, oA54 h60, oA55 h60, oA56 h60, oA57 h60, oA58 h60, oA59 h60, rm_4 hRM, rm_5 hRM, rm_6 hRM, rm_8 hRM, rm_9 hRM, rm_10 hRM, rm_11 hRM, rm_12 hRM, rm_13 hRM, rm_14 hRM, rm_15 hRM, rm_16 hRM, rm_17 hRM, rm_18 hRM, rm_19 hRM, rm_20 hRM, rm_21 hRM, rm_23 hRM, rm_24 hRM, rm_25 hRM, rm_26 hRM, rm_27 hRM, rm_28 hRM, rm_29 hRM, rm_30 hRM, rm_32 hRM]
theorem CR_log {u : Mm} {A : Ab} (hC : CR u A) (t p k : Int32) : CR (sI (sI (sI (sI u 7 (ae A) t) 8 (ae A) p) 9 (ae A) k) 6 3 (nI (ae A + 1))) (eA A t p k) := by
  obtain ⟨c1, c2, c3, c4, c5, c6, c7, c8, c9⟩ := hC
  refine ⟨RC_cong c1 (fun _ _ _ _ _ => rfl), c2, c3, c4, ?_, ?_, ?_, ⟨rfl, fun j hj => ?_⟩, ?_⟩
  · exact GT_cong c5 rfl (by intros; first | with_reducible rfl | (simp only [gI_sI, gI_sL, gI_sR, gI_rI, gI_rL, gL_sI, gL_sL, gL_sR, gL_rI, gL_rL, gR_sI, gR_sL, gR_sR, gR_rI, gR_rL, aI_tI, aI_tL, aI_qI, aI_qL, aI_tN, aI_tE, aL_tI, aL_tL, aL_qI, aL_qL, aL_tN, aL_tE, an_tI, an_tL, an_qI, an_qL, an_tN, an_tE, ae_tI, ae_tL, ae_qI, ae_qL, ae_tN, ae_tE] <;> repeat (first | rw [if_neg (by omega)] | rw [if_pos (by omega)]))) (fun _ _ _ => rfl) (fun _ => rfl) (by intros; first | with_reducible rfl | (simp only [gI_sI, gI_sL, gI_sR, gI_rI, gI_rL, gL_sI, gL_sL, gL_sR, gL_rI, gL_rL, gR_sI, gR_sL, gR_sR, gR_rI, gR_rL, aI_tI, aI_tL, aI_qI, aI_qL, aI_tN, aI_tE, aL_tI, aL_tL, aL_qI, aL_qL, aL_tN, aL_tE, an_tI, an_tL, an_qI, an_qL, an_tN, an_tE, ae_tI, ae_tL, ae_qI, ae_qL, ae_tN, ae_tE] <;> repeat (first | rw [if_neg (by omega)] | rw [if_pos (by omega)])))
  · exact GP_cong c6 rfl (by intros; first | with_reducible rfl | (simp only [gI_sI, gI_sL, gI_sR, gI_rI, gI_rL, gL_sI, gL_sL, gL_sR, gL_rI, gL_rL, gR_sI, gR_sL, gR_sR, gR_rI, gR_rL, aI_tI, aI_tL, aI_qI, aI_qL, aI_tN, aI_tE, aL_tI, aL_tL, aL_qI, aL_qL, aL_tN, aL_tE, an_tI, an_tL, an_qI, an_qL, an_tN, an_tE, ae_tI, ae_tL, ae_qI, ae_qL, ae_tN, ae_tE] <;> repeat (first | rw [if_neg (by omega)] | rw [if_pos (by omega)]))) (by intros; first | with_reducible rfl | (simp only [gI_sI, gI_sL, gI_sR, gI_rI, gI_rL, gL_sI, gL_sL, gL_sR, gL_rI, gL_rL, gR_sI, gR_sL, gR_sR, gR_rI, gR_rL, aI_tI, aI_tL, aI_qI, aI_qL, aI_tN, aI_tE, aL_tI, aL_tL, aL_qI, aL_qL, aL_tN, aL_tE, an_tI, an_tL, an_qI, an_qL, an_tN, an_tE, ae_tI, ae_tL, ae_qI, ae_qL, ae_tN, ae_tE] <;> repeat (first | rw [if_neg (by omega)] | rw [if_pos (by omega)])))
  · exact GY_cong c7 (by intros; first | with_reducible rfl | (simp only [gI_sI, gI_sL, gI_sR, gI_rI, gI_rL, gL_sI, gL_sL, gL_sR, gL_rI, gL_rL, gR_sI, gR_sL, gR_sR, gR_rI, gR_rL, aI_tI, aI_tL, aI_qI, aI_qL, aI_tN, aI_tE, aL_tI, aL_tL, aL_qI, aL_qL, aL_tN, aL_tE, an_tI, an_tL, an_qI, an_qL, an_tN, an_tE, ae_tI, ae_tL, ae_qI, ae_qL, ae_tN, ae_tE] <;> repeat (first | rw [if_neg (by omega)] | rw [if_pos (by omega)]))) (fun _ _ _ _ => rfl) (by intros; first | with_reducible rfl | (simp only [gI_sI, gI_sL, gI_sR, gI_rI, gI_rL, gL_sI, gL_sL, gL_sR, gL_rI, gL_rL, gR_sI, gR_sL, gR_sR, gR_rI, gR_rL, aI_tI, aI_tL, aI_qI, aI_qL, aI_tN, aI_tE, aL_tI, aL_tL, aL_qI, aL_qL, aL_tN, aL_tE, an_tI, an_tL, an_qI, an_qL, an_tN, an_tE, ae_tI, ae_tL, ae_qI, ae_qL, ae_tN, ae_tE] <;> repeat (first | rw [if_neg (by omega)] | rw [if_pos (by omega)]))) (fun _ => rfl)
  · have hj : j < ae A + 1 := hj
    by_cases e : j = ae A
    · subst e
      refine ⟨?_, ?_, ?_⟩ <;> simp only [gI_sI, gI_sL, gI_sR, gI_rI, gI_rL, gL_sI, gL_sL, gL_sR, gL_rI, gL_rL, gR_sI, gR_sL, gR_sR, gR_rI, gR_rL, aI_tI, aI_tL, aI_qI, aI_qL, aI_tN, aI_tE, aL_tI, aL_tL, aL_qI, aL_qL, aL_tN, aL_tE, an_tI, an_tL, an_qI, an_qL, an_tN, an_tE, ae_tI, ae_tL, ae_qI, ae_qL, ae_tN, ae_tE] <;> simp
    · have q := c8.2 j (by omega)
      simp only [gI_sI, gI_sL, gI_sR, gI_rI, gI_rL, gL_sI, gL_sL, gL_sR, gL_rI, gL_rL, gR_sI, gR_sL, gR_sR, gR_rI, gR_rL, aI_tI, aI_tL, aI_qI, aI_qL, aI_tN, aI_tE, aL_tI, aL_tL, aL_qI, aL_qL, aL_tN, aL_tE, an_tI, an_tL, an_qI, an_qL, an_tN, an_tE, ae_tI, ae_tL, ae_qI, ae_qL, ae_tN, ae_tE]
      simp only [e, and_false, ↓reduceIte]
      simp only [Nat.reduceEqDiff, false_and, ↓reduceIte]
      exact q
  · exact GS_cong c9 rfl (by intros; first | with_reducible rfl | (simp only [gI_sI, gI_sL, gI_sR, gI_rI, gI_rL, gL_sI, gL_sL, gL_sR, gL_rI, gL_rL, gR_sI, gR_sL, gR_sR, gR_rI, gR_rL, aI_tI, aI_tL, aI_qI, aI_qL, aI_tN, aI_tE, aL_tI, aL_tL, aL_qI, aL_qL, aL_tN, aL_tE, an_tI, an_tL, an_qI, an_qL, an_tN, an_tE, ae_tI, ae_tL, ae_qI, ae_qL, ae_tN, ae_tE] <;> repeat (first | rw [if_neg (by omega)] | rw [if_pos (by omega)]))) (by intros; first | with_reducible rfl | (simp only [gI_sI, gI_sL, gI_sR, gI_rI, gI_rL, gL_sI, gL_sL, gL_sR, gL_rI, gL_rL, gR_sI, gR_sL, gR_sR, gR_rI, gR_rL, aI_tI, aI_tL, aI_qI, aI_qL, aI_tN, aI_tE, aL_tI, aL_tL, aL_qI, aL_qL, aL_tN, aL_tE, an_tI, an_tL, an_qI, an_qL, an_tN, an_tE, ae_tI, ae_tL, ae_qI, ae_qL, ae_tN, ae_tE] <;> repeat (first | rw [if_neg (by omega)] | rw [if_pos (by omega)])))
theorem MR_log {u : Mm} {A : Ab} (hM : MR u A) (t p k : Int32) : MR (sI (sI (sI (sI u 51 (ae A) t) 52 (ae A) p) 53 (ae A) k) 33 22 (nI (ae A + 1))) (eA A t p k) := by
  obtain ⟨c1, c2, c3, c4, c5, c6, c7, c8⟩ := hM
  refine ⟨RM_cong c1 (fun _ => rfl), c2, c3, c4, c5, ?_, ?_, ⟨rfl, fun j hj => ?_⟩⟩
  · exact HT_cong c6 rfl (by intros; first | with_reducible rfl | (simp only [gI_sI, gI_sL, gI_sR, gI_rI, gI_rL, gL_sI, gL_sL, gL_sR, gL_rI, gL_rL, gR_sI, gR_sL, gR_sR, gR_rI, gR_rL, aI_tI, aI_tL, aI_qI, aI_qL, aI_tN, aI_tE, aL_tI, aL_tL, aL_qI, aL_qL, aL_tN, aL_tE, an_tI, an_tL, an_qI, an_qL, an_tN, an_tE, ae_tI, ae_tL, ae_qI, ae_qL, ae_tN, ae_tE] <;> repeat (first | rw [if_neg (by omega)] | rw [if_pos (by omega)]))) (by intros; first | with_reducible rfl | (simp only [gI_sI, gI_sL, gI_sR, gI_rI, gI_rL, gL_sI, gL_sL, gL_sR, gL_rI, gL_rL, gR_sI, gR_sL, gR_sR, gR_rI, gR_rL, aI_tI, aI_tL, aI_qI, aI_qL, aI_tN, aI_tE, aL_tI, aL_tL, aL_qI, aL_qL, aL_tN, aL_tE, an_tI, an_tL, an_qI, an_qL, an_tN, an_tE, ae_tI, ae_tL, ae_qI, ae_qL, ae_tN, ae_tE] <;> repeat (first | rw [if_neg (by omega)] | rw [if_pos (by omega)])))
  · exact HY_cong c7 (by intros; first | with_reducible rfl | (simp only [gI_sI, gI_sL, gI_sR, gI_rI, gI_rL, gL_sI, gL_sL, gL_sR, gL_rI, gL_rL, gR_sI, gR_sL, gR_sR, gR_rI, gR_rL, aI_tI, aI_tL, aI_qI, aI_qL, aI_tN, aI_tE, aL_tI, aL_tL, aL_qI, aL_qL, aL_tN, aL_tE, an_tI, an_tL, an_qI, an_qL, an_tN, an_tE, ae_tI, ae_tL, ae_qI, ae_qL, ae_tN, ae_tE] <;> repeat (first | rw [if_neg (by omega)] | rw [if_pos (by omega)]))) (fun _ => rfl) (by intros; first | with_reducible rfl | (simp only [gI_sI, gI_sL, gI_sR, gI_rI, gI_rL, gL_sI, gL_sL, gL_sR, gL_rI, gL_rL, gR_sI, gR_sL, gR_sR, gR_rI, gR_rL, aI_tI, aI_tL, aI_qI, aI_qL, aI_tN, aI_tE, aL_tI, aL_tL, aL_qI, aL_qL, aL_tN, aL_tE, an_tI, an_tL, an_qI, an_qL, an_tN, an_tE, ae_tI, ae_tL, ae_qI, ae_qL, ae_tN, ae_tE] <;> repeat (first | rw [if_neg (by omega)] | rw [if_pos (by omega)]))) (fun _ => rfl)
  · have hj : j < ae A + 1 := hj
    by_cases e : j = ae A
    · subst e
      refine ⟨?_, ?_, ?_⟩ <;> simp only [gI_sI, gI_sL, gI_sR, gI_rI, gI_rL, gL_sI, gL_sL, gL_sR, gL_rI, gL_rL, gR_sI, gR_sL, gR_sR, gR_rI, gR_rL, aI_tI, aI_tL, aI_qI, aI_qL, aI_tN, aI_tE, aL_tI, aL_tL, aL_qI, aL_qL, aL_tN, aL_tE, an_tI, an_tL, an_qI, an_qL, an_tN, an_tE, ae_tI, ae_tL, ae_qI, ae_qL, ae_tN, ae_tE] <;> simp
    · have q := c8.2 j (by omega)
      simp only [gI_sI, gI_sL, gI_sR, gI_rI, gI_rL, gL_sI, gL_sL, gL_sR, gL_rI, gL_rL, gR_sI, gR_sL, gR_sR, gR_rI, gR_rL, aI_tI, aI_tL, aI_qI, aI_qL, aI_tN, aI_tE, aL_tI, aL_tL, aL_qI, aL_qL, aL_tN, aL_tE, an_tI, an_tL, an_qI, an_qL, an_tN, an_tE, ae_tI, ae_tL, ae_qI, ae_qL, ae_tN, ae_tE]
      simp only [e, and_false, ↓reduceIte]
      simp only [Nat.reduceEqDiff, false_and, ↓reduceIte]
      exact q
theorem Wf_log {A : Ab} (hW : Wf A) (he : ae A < 200) {t p k : Int32} (hp : -1 ≤ p.toInt ∧ p.toInt ≤ 15) (hk : (ltk A).toInt ≤ k.toInt ∧ k.toInt ≤ 100000) : Wf (eA A t p k) := by
  have hl := fun j hj => ltk_all hW (k := j) hj
  have h0 := (ltk_range hW).1
  obtain ⟨c1, c2, c3, c4, c5, c6⟩ := hW
  refine ⟨WT_cong c1 rfl (by intros; first | with_reducible rfl | (simp only [gI_sI, gI_sL, gI_sR, gI_rI, gI_rL, gL_sI, gL_sL, gL_sR, gL_rI, gL_rL, gR_sI, gR_sL, gR_sR, gR_rI, gR_rL, aI_tI, aI_tL, aI_qI, aI_qL, aI_tN, aI_tE, aL_tI, aL_tL, aL_qI, aL_qL, aL_tN, aL_tE, an_tI, an_tL, an_qI, an_qL, an_tN, an_tE, ae_tI, ae_tL, ae_qI, ae_qL, ae_tN, ae_tE] <;> repeat (first | rw [if_neg (by omega)] | rw [if_pos (by omega)]))), WD_cong c2 rfl (by intros; first | with_reducible rfl | (simp only [gI_sI, gI_sL, gI_sR, gI_rI, gI_rL, gL_sI, gL_sL, gL_sR, gL_rI, gL_rL, gR_sI, gR_sL, gR_sR, gR_rI, gR_rL, aI_tI, aI_tL, aI_qI, aI_qL, aI_tN, aI_tE, aL_tI, aL_tL, aL_qI, aL_qL, aL_tN, aL_tE, an_tI, an_tL, an_qI, an_qL, an_tN, an_tE, ae_tI, ae_tL, ae_qI, ae_qL, ae_tN, ae_tE] <;> repeat (first | rw [if_neg (by omega)] | rw [if_pos (by omega)]))), WD_cong c3 rfl (by intros; first | with_reducible rfl | (simp only [gI_sI, gI_sL, gI_sR, gI_rI, gI_rL, gL_sI, gL_sL, gL_sR, gL_rI, gL_rL, gR_sI, gR_sL, gR_sR, gR_rI, gR_rL, aI_tI, aI_tL, aI_qI, aI_qL, aI_tN, aI_tE, aL_tI, aL_tL, aL_qI, aL_qL, aL_tN, aL_tE, an_tI, an_tL, an_qI, an_qL, an_tN, an_tE, ae_tI, ae_tL, ae_qI, ae_qL, ae_tN, ae_tE] <;> repeat (first | rw [if_neg (by omega)] | rw [if_pos (by omega)]))), WD_cong c4 rfl (by intros; first | with_reducible rfl | (simp only [gI_sI, gI_sL, gI_sR, gI_rI, gI_rL, gL_sI, gL_sL, gL_sR, gL_rI, gL_rL, gR_sI, gR_sL, gR_sR, gR_rI, gR_rL, aI_tI, aI_tL, aI_qI, aI_qL, aI_tN, aI_tE, aL_tI, aL_tL, aL_qI, aL_qL, aL_tN, aL_tE, an_tI, an_tL, an_qI, an_qL, an_tN, an_tE, ae_tI, ae_tL, ae_qI, ae_qL, ae_tN, ae_tE] <;> repeat (first | rw [if_neg (by omega)] | rw [if_pos (by omega)]))), WY_cong c5 (by intros; first | with_reducible rfl | (simp only [gI_sI, gI_sL, gI_sR, gI_rI, gI_rL, gL_sI, gL_sL, gL_sR, gL_rI, gL_rL, gR_sI, gR_sL, gR_sR, gR_rI, gR_rL, aI_tI, aI_tL, aI_qI, aI_qL, aI_tN, aI_tE, aL_tI, aL_tL, aL_qI, aL_qL, aL_tN, aL_tE, an_tI, an_tL, an_qI, an_qL, an_tN, an_tE, ae_tI, ae_tL, ae_qI, ae_qL, ae_tN, ae_tE] <;> repeat (first | rw [if_neg (by omega)] | rw [if_pos (by omega)]))), by show ae A + 1 ≤ 200; omega, ?_, ?_⟩
  · intro j hj
    have hj : j < ae A + 1 := hj
    by_cases e : j = ae A
    · subst e
      simp only [aI_tI, aI_tL, aI_qI, aI_qL, aI_tN, aI_tE, aL_tI, aL_tL, aL_qI, aL_qL, aL_tN, aL_tE, an_tI, an_tL, an_qI, an_qL, an_tN, an_tE, ae_tI, ae_tL, ae_qI, ae_qL, ae_tN, ae_tE]
      simp only [Nat.reduceEqDiff, false_and, and_self, ↓reduceIte]
      exact ⟨hp, by omega, by omega⟩
    · have q := c6.2.1 j (by omega)
      simp only [aI_tI, aI_tL, aI_qI, aI_qL, aI_tN, aI_tE, aL_tI, aL_tL, aL_qI, aL_qL, aL_tN, aL_tE, an_tI, an_tL, an_qI, an_qL, an_tN, an_tE, ae_tI, ae_tL, ae_qI, ae_qL, ae_tN, ae_tE]
      simp only [e, and_false, ↓reduceIte]
      exact q
  · intro i j hij hj
    have hj : j < ae A + 1 := hj
    simp only [aI_tI, aI_tL, aI_qI, aI_qL, aI_tN, aI_tE, aL_tI, aL_tL, aL_qI, aL_qL, aL_tN, aL_tE, an_tI, an_tL, an_qI, an_qL, an_tN, an_tE, ae_tI, ae_tL, ae_qI, ae_qL, ae_tN, ae_tE]
    by_cases e : j = ae A
    · subst e
      by_cases e2 : i = ae A
      · subst e2; exact Int.le_refl _
      · simp only [e2, and_false, and_self, ↓reduceIte, Nat.reduceEqDiff, false_and]
        have := hl i (by omega)
        omega
    · simp only [e, show i ≠ ae A by omega, and_false, ↓reduceIte]
      exact c6.2.2 i j hij (by omega)
theorem eA_st (A : Ab) (c t p k : Int32) : eA (st A c) t p k = st (eA A t p k) c := by
  unfold eA
  rw [show ae (st A c) = ae A from rfl, tI_st _ _ _ _ _ (by omega), tI_st _ _ _ _ _ (by omega), tI_st _ _ _ _ _ (by omega)]
  rfl
