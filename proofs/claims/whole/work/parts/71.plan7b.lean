theorem okC_t {u : Mm} {r r2 n : Nat} (h60 : 60 ≤ u.1) (h1 : r < 60) (h2 : r2 < 60) (h3 : shp r = 9) (h4 : shp r2 = 9) (h5 : n ≤ aln r) (h6 : n ≤ aln r2) (hn : n < 2 ^ 31) : okC u r r2 9 0 0 (nI n) = true := by
  have y1 : r < u.1 := by omega
  have y2 : r2 < u.1 := by omega
  have z1 : ¬ (0 : Int32) < 0 := by decide
  have z3 : ¬ nI n < 0 := nI_pos hn
  simp only [okC, h3, h4, y1, y2, z1, z3, nI_clamp hn, show Int32.toNatClampNeg 0 = 0 from rfl, not_false_eq_true, decide_true, Bool.true_and, Bool.and_eq_true, decide_eq_true_eq]
  omega
theorem cl0 : Int32.toNatClampNeg 0 = 0 := rfl
theorem cl40 : Int32.toNatClampNeg 40 = 40 := rfl
theorem cl80 : Int32.toNatClampNeg 80 = 80 := rfl
theorem cpd_t {v : Mm} (hRC : RC v) (h60 : 60 ≤ v.1) : ∃ v', f_X1_copyFrom 14 (some 11) v = some v' ∧ only v v' 15 16 ∧ ∀ f, Lay v 12 13 f → Lay v' 15 16 f := by
  have o1 : okC v 12 15 9 0 0 80 = true := okC_t (n := 80) h60 (by omega) (by omega) rfl rfl (by decide) (by decide) (by decide)
  have o2 : ∀ g, okC (rI v 15 g) 13 16 9 0 0 40 = true := fun g => okC_t (n := 40) (u := rI v 15 g) h60 (by omega) (by omega) rfl rfl (by decide) (by decide) (by decide)
  refine ⟨rI (rI v 15 (va_cpy (gI v 12) (gI v 15) 0 0 80)) 16 (va_cpy (gI (rI v 15 (va_cpy (gI v 12) (gI v 15) 0 0 80)) 13) (gI (rI v 15 (va_cpy (gI v 12) (gI v 15) 0 0 80)) 16) 0 0 40), by simp (disch := first | exact h60 | omega | with_unfolding_all exact h60) only [f_X1_copyFrom, ↓gd_of o1, ↓gd_of (o2 _), cl0, cl40, cl80, ↓bb_e, ↓c_sI, ↓o_sI, ↓a_sI, ↓c_sL, ↓o_sL, ↓a_sL, ↓c_rI, ↓o_rI, ↓a_rI, ↓c_rL, ↓o_rL, ↓a_rL, ↓c_rngI, ↓o_rngI, ↓a_rngI, ↓c_rngL, ↓o_rngL, ↓a_rngL, ↓bd_s, ↓cs_s, ↓cs_n, ↓gd_t, ↓gB0, ↓gB1, ↓gOT, ↓gAS, ↓gOY, ↓gAY, ↓reduceIte, d10, nI_clamp, nI_1', i0eq, ↓gO0 h60, ↓gO2 h60, ↓gO6 h60, ↓gO10 h60, ↓gO11 h60, ↓gO14 h60, ↓gO21 h60, ↓gA1 h60, ↓gA3 h60, ↓gA4 h60, ↓gA5 h60, ↓gA7 h60, ↓gA8 h60, ↓gA9 h60, ↓gA12 h60, ↓gA13 h60, ↓gA15 h60, ↓gA16 h60, ↓gA17 h60, ↓gA18 h60, ↓gA19 h60, ↓gA20 h60, ↓gA22 h60, ↓gA23 h60, ↓gA24 h60, ↓cC_0_0 hRC, ↓cC_0_1 hRC, ↓cC_0_2 hRC, ↓cC_0_3 hRC, ↓cC_0_4 hRC, ↓cC_2_0 hRC, ↓cC_2_2 hRC, ↓cC_2_3 hRC, ↓cC_6_0 hRC, ↓cC_6_1 hRC, ↓cC_6_2 hRC, ↓cC_10_0 hRC, ↓cC_10_1 hRC, ↓cC_10_2 hRC, ↓cC_10_3 hRC, ↓cC_10_4 hRC, ↓cC_10_5 hRC, ↓cC_11_0 hRC, ↓cC_11_1 hRC, ↓cC_14_0 hRC, ↓cC_14_1 hRC, ↓cC_21_0 hRC, ↓cC_21_1 hRC, ↓cC_21_2 hRC, ↓bdn7, ↓brf7, ↓bgr7, ↓ban7], ⟨rfl, fun _ _ => rfl, fun _ _ => rfl, fun r k h1 h2 => ?_⟩, fun f hL => ⟨fun i hi => ?_, fun p hp => ?_⟩⟩
  · rw [gI_rI, if_neg h2, gI_rI, if_neg h1]
  · rw [gI_rI, if_neg (by omega), gI_rI, if_pos rfl]
    show (if 0 ≤ i ∧ i < 0 + 80 then gI v 12 (0 + (i - 0)) else _) = _
    rw [if_pos (by omega), Nat.zero_add, Nat.sub_zero]
    exact hL.1 i hi
  · rw [gI_rI, if_pos rfl]
    have e : va_cpy (gI (rI v 15 (va_cpy (gI v 12) (gI v 15) 0 0 80)) 13) (gI (rI v 15 (va_cpy (gI v 12) (gI v 15) 0 0 80)) 16) 0 0 40 p = gI v 13 p := by
      show (if 0 ≤ p ∧ p < 0 + 40 then gI (rI v 15 _) 13 (0 + (p - 0)) else _) = _
      rw [if_pos (by omega), Nat.zero_add, Nat.sub_zero, gI_rI, if_neg (by omega)]
    have := hL.2 p hp
    rw [← e] at this
    exact this
theorem cpu_t {v : Mm} (hRC : RC v) (h60 : 60 ≤ v.1) : ∃ v', f_X1_copyFrom 11 (some 14) v = some v' ∧ only v v' 12 13 ∧ ∀ f, Lay v 15 16 f → Lay v' 12 13 f := by
  have o1 : okC v 15 12 9 0 0 80 = true := okC_t (n := 80) h60 (by omega) (by omega) rfl rfl (by decide) (by decide) (by decide)
  have o2 : ∀ g, okC (rI v 12 g) 16 13 9 0 0 40 = true := fun g => okC_t (n := 40) (u := rI v 12 g) h60 (by omega) (by omega) rfl rfl (by decide) (by decide) (by decide)
  refine ⟨rI (rI v 12 (va_cpy (gI v 15) (gI v 12) 0 0 80)) 13 (va_cpy (gI (rI v 12 (va_cpy (gI v 15) (gI v 12) 0 0 80)) 16) (gI (rI v 12 (va_cpy (gI v 15) (gI v 12) 0 0 80)) 13) 0 0 40), by simp (disch := first | exact h60 | omega | with_unfolding_all exact h60) only [f_X1_copyFrom, ↓gd_of o1, ↓gd_of (o2 _), cl0, cl40, cl80, ↓bb_e, ↓c_sI, ↓o_sI, ↓a_sI, ↓c_sL, ↓o_sL, ↓a_sL, ↓c_rI, ↓o_rI, ↓a_rI, ↓c_rL, ↓o_rL, ↓a_rL, ↓c_rngI, ↓o_rngI, ↓a_rngI, ↓c_rngL, ↓o_rngL, ↓a_rngL, ↓bd_s, ↓cs_s, ↓cs_n, ↓gd_t, ↓gB0, ↓gB1, ↓gOT, ↓gAS, ↓gOY, ↓gAY, ↓reduceIte, d10, nI_clamp, nI_1', i0eq, ↓gO0 h60, ↓gO2 h60, ↓gO6 h60, ↓gO10 h60, ↓gO11 h60, ↓gO14 h60, ↓gO21 h60, ↓gA1 h60, ↓gA3 h60, ↓gA4 h60, ↓gA5 h60, ↓gA7 h60, ↓gA8 h60, ↓gA9 h60, ↓gA12 h60, ↓gA13 h60, ↓gA15 h60, ↓gA16 h60, ↓gA17 h60, ↓gA18 h60, ↓gA19 h60, ↓gA20 h60, ↓gA22 h60, ↓gA23 h60, ↓gA24 h60, ↓cC_0_0 hRC, ↓cC_0_1 hRC, ↓cC_0_2 hRC, ↓cC_0_3 hRC, ↓cC_0_4 hRC, ↓cC_2_0 hRC, ↓cC_2_2 hRC, ↓cC_2_3 hRC, ↓cC_6_0 hRC, ↓cC_6_1 hRC, ↓cC_6_2 hRC, ↓cC_10_0 hRC, ↓cC_10_1 hRC, ↓cC_10_2 hRC, ↓cC_10_3 hRC, ↓cC_10_4 hRC, ↓cC_10_5 hRC, ↓cC_11_0 hRC, ↓cC_11_1 hRC, ↓cC_14_0 hRC, ↓cC_14_1 hRC, ↓cC_21_0 hRC, ↓cC_21_1 hRC, ↓cC_21_2 hRC, ↓bdn7, ↓brf7, ↓bgr7, ↓ban7], ⟨rfl, fun _ _ => rfl, fun _ _ => rfl, fun r k h1 h2 => ?_⟩, fun f hL => ⟨fun i hi => ?_, fun p hp => ?_⟩⟩
  · rw [gI_rI, if_neg h2, gI_rI, if_neg h1]
  · rw [gI_rI, if_neg (by omega), gI_rI, if_pos rfl]
    show (if 0 ≤ i ∧ i < 0 + 80 then gI v 15 (0 + (i - 0)) else _) = _
    rw [if_pos (by omega), Nat.zero_add, Nat.sub_zero]
    exact hL.1 i hi
  · rw [gI_rI, if_pos rfl]
    have e : va_cpy (gI (rI v 12 (va_cpy (gI v 15) (gI v 12) 0 0 80)) 16) (gI (rI v 12 (va_cpy (gI v 15) (gI v 12) 0 0 80)) 13) 0 0 40 p = gI v 16 p := by
      show (if 0 ≤ p ∧ p < 0 + 40 then gI (rI v 12 _) 16 (0 + (p - 0)) else _) = _
      rw [if_pos (by omega), Nat.zero_add, Nat.sub_zero, gI_rI, if_neg (by omega)]
    have := hL.2 p hp
    rw [← e] at this
    exact this
theorem gol_ok {A : Ab} (hW : Wf A) : okG (gol A) (an A) := ⟨fun a b h e => gol_dist hW a b h e, fun a => gol_range hW a, fun a h => if_neg (by omega)⟩
/-- the class's steps -/
theorem mp_l {u : Mm} {A : Ab} (hW : Wf A) (hC : CR u A) : ∀ (d n j : Nat) (v : Mm) (s : PS), j + d = 80 → d < n → s.2.1 = j → PC u v s → okF (gol A) s.1 (an A) → phi (gol A) s.1 ≤ d →
    (∃ v' s', pl (gol A) d s = some s' ∧ PC u v' s' ∧ okF (gol A) s'.1 (an A) ∧ s'.2.1 ≤ 80 ∧ L_X4_makePlan_27 10 (fun a30 u31 => gd (okO u31 10 4) (bd (f_X4_nextBox 10 u31) (fun w33 => (if w33 = -1 then some (1, u31) else some (0, u31))))) n (nI j) v = some (1, v')) ∨ (∃ v', pl (gol A) d s = none ∧ scr u v' ∧ L_X4_makePlan_27 10 (fun a30 u31 => gd (okO u31 10 4) (bd (f_X4_nextBox 10 u31) (fun w33 => (if w33 = -1 then some (1, u31) else some (0, u31))))) n (nI j) v = some (0, v')) := by
  have h80 := hW.1.1
  have hG := gol_ok hW
  intro d
  induction d with
  | zero =>
    intro n j v s h1 h2 hj hP hF hphi
    obtain ⟨n, rfl⟩ : ∃ b, n = b + 1 := ⟨n - 1, by omega⟩
    have e : j = 80 := by omega
    subst e
    have hx := phi_0 (Nat.le_zero.mp hphi)
    have hPL := hP.PL hW hC
    have hnb := nb_t hG hPL
    rw [hx] at hnb
    have hnb : f_X4_nextBox 10 v = some (-1) := hnb
    refine Or.inl ⟨v, s, rfl, hP, hF, by omega, ?_⟩
    rw [L_X4_makePlan_27, if_pos (by decide), oO10 hPL.2.1, gd_t, hnb, bd_s, if_pos rfl]
  | succ d ih =>
    intro n j v s h1 h2 hj hP hF hphi
    obtain ⟨n, rfl⟩ : ∃ b, n = b + 1 := ⟨n - 1, by omega⟩
    have hPL := hP.PL hW hC
    obtain ⟨hRC, h60, hL, hgG⟩ := id hPL
    have hnb := nb_t hG hPL
    have hnl := n80 (j := j) (by omega)
    cases hx : nxt (gol A) s.1 with
    | none =>
      rw [hx] at hnb
      have hnb : f_X4_nextBox 10 v = some (-1) := hnb
      refine Or.inl ⟨v, s, pl_0 hx, hP, hF, by omega, ?_⟩
      simp (disch := first | exact h60 | omega | with_unfolding_all exact h60) only [L_X4_makePlan_27, eq_false hnl, ↓bd_of hnb, ↓bb_e, ↓c_sI, ↓o_sI, ↓a_sI, ↓c_sL, ↓o_sL, ↓a_sL, ↓c_rI, ↓o_rI, ↓a_rI, ↓c_rL, ↓o_rL, ↓a_rL, ↓c_rngI, ↓o_rngI, ↓a_rngI, ↓c_rngL, ↓o_rngL, ↓a_rngL, ↓bd_s, ↓cs_s, ↓cs_n, ↓gd_t, ↓gB0, ↓gB1, ↓gOT, ↓gAS, ↓gOY, ↓gAY, ↓reduceIte, d10, nI_clamp, nI_1', i0eq, ↓gO0 h60, ↓gO2 h60, ↓gO6 h60, ↓gO10 h60, ↓gO11 h60, ↓gO14 h60, ↓gO21 h60, ↓gA1 h60, ↓gA3 h60, ↓gA4 h60, ↓gA5 h60, ↓gA7 h60, ↓gA8 h60, ↓gA9 h60, ↓gA12 h60, ↓gA13 h60, ↓gA15 h60, ↓gA16 h60, ↓gA17 h60, ↓gA18 h60, ↓gA19 h60, ↓gA20 h60, ↓gA22 h60, ↓gA23 h60, ↓gA24 h60, ↓cC_0_0 hRC, ↓cC_0_1 hRC, ↓cC_0_2 hRC, ↓cC_0_3 hRC, ↓cC_0_4 hRC, ↓cC_2_0 hRC, ↓cC_2_2 hRC, ↓cC_2_3 hRC, ↓cC_6_0 hRC, ↓cC_6_1 hRC, ↓cC_6_2 hRC, ↓cC_10_0 hRC, ↓cC_10_1 hRC, ↓cC_10_2 hRC, ↓cC_10_3 hRC, ↓cC_10_4 hRC, ↓cC_10_5 hRC, ↓cC_11_0 hRC, ↓cC_11_1 hRC, ↓cC_14_0 hRC, ↓cC_14_1 hRC, ↓cC_21_0 hRC, ↓cC_21_1 hRC, ↓cC_21_2 hRC, ↓bdn7, ↓brf7, ↓bgr7, ↓ban7]
    | some b =>
      rw [hx] at hnb
      have hnb : f_X4_nextBox 10 v = some (nI b) := hnb
      obtain ⟨b1, b2, b3⟩ := nxt_s hx
      have hgn := (ast_t.mp b2).2.1
      obtain ⟨q, q1, q2⟩ := goal_q hG hgn
      have hem := gem_t hPL b1 q1 q2
      have m := nI_m1 (b := b) (by omega)
      have e17 := hgG b b1
      have go : ∀ p, dst (gol A) s.1 b = some p → ∃ v2, PC u v2 (mvS s b p) ∧ f_X4_addCarry 10 (nI b) p v = some v2 ∧ okF (gol A) (mvS s b p).1 (an A) ∧ phi (gol A) (mvS s b p).1 ≤ d := fun p hp => by
        obtain ⟨o1, o2, -⟩ := phi_s hG hF hx hp
        obtain ⟨p1, -, -⟩ := dst_s (ge0 hgn (hG.2.1 b)) hp
        obtain ⟨v2, w1, w2⟩ := addC hW hC hP hF (by omega) b1 p1
        refine ⟨v2, w1, w2, o1, ?_⟩
        show phi (gol A) (u1 s.1 b p) ≤ d
        omega
      cases c : emp s.1 (gol A b) with
      | true =>
        rw [c, b2i_t] at hem
        have hd : dst (gol A) s.1 b = some (gol A b) := if_pos c
        obtain ⟨v2, w1, w2, w3, w4⟩ := go _ hd
        rw [pl_s hx hd]
        have key : L_X4_makePlan_27 10 (fun a30 u31 => gd (okO u31 10 4) (bd (f_X4_nextBox 10 u31) (fun w33 => (if w33 = -1 then some (1, u31) else some (0, u31))))) (n + 1) (nI j) v = L_X4_makePlan_27 10 (fun a30 u31 => gd (okO u31 10 4) (bd (f_X4_nextBox 10 u31) (fun w33 => (if w33 = -1 then some (1, u31) else some (0, u31))))) n (nI (j + 1)) v2 := by
          rw [L_X4_makePlan_27]
          generalize (fun (a30 : Int32) u31 => gd (okO u31 10 4) (bd (f_X4_nextBox 10 u31) (fun w33 => (if w33 = -1 then some (1, u31) else some (0, u31))))) = kk
          simp (disch := first | exact h60 | omega | with_unfolding_all exact h60) only [eq_false hnl, ↓bd_of hnb, eq_false m, ↓bd_of hem, e17, eq_false hgn, ↓bd_of w2, ↓bb_e, ↓c_sI, ↓o_sI, ↓a_sI, ↓c_sL, ↓o_sL, ↓a_sL, ↓c_rI, ↓o_rI, ↓a_rI, ↓c_rL, ↓o_rL, ↓a_rL, ↓c_rngI, ↓o_rngI, ↓a_rngI, ↓c_rngL, ↓o_rngL, ↓a_rngL, ↓bd_s, ↓cs_s, ↓cs_n, ↓gd_t, ↓gB0, ↓gB1, ↓gOT, ↓gAS, ↓gOY, ↓gAY, ↓reduceIte, d10, nI_clamp, nI_1', i0eq, ↓gO0 h60, ↓gO2 h60, ↓gO6 h60, ↓gO10 h60, ↓gO11 h60, ↓gO14 h60, ↓gO21 h60, ↓gA1 h60, ↓gA3 h60, ↓gA4 h60, ↓gA5 h60, ↓gA7 h60, ↓gA8 h60, ↓gA9 h60, ↓gA12 h60, ↓gA13 h60, ↓gA15 h60, ↓gA16 h60, ↓gA17 h60, ↓gA18 h60, ↓gA19 h60, ↓gA20 h60, ↓gA22 h60, ↓gA23 h60, ↓gA24 h60, ↓cC_0_0 hRC, ↓cC_0_1 hRC, ↓cC_0_2 hRC, ↓cC_0_3 hRC, ↓cC_0_4 hRC, ↓cC_2_0 hRC, ↓cC_2_2 hRC, ↓cC_2_3 hRC, ↓cC_6_0 hRC, ↓cC_6_1 hRC, ↓cC_6_2 hRC, ↓cC_10_0 hRC, ↓cC_10_1 hRC, ↓cC_10_2 hRC, ↓cC_10_3 hRC, ↓cC_10_4 hRC, ↓cC_10_5 hRC, ↓cC_11_0 hRC, ↓cC_11_1 hRC, ↓cC_14_0 hRC, ↓cC_14_1 hRC, ↓cC_21_0 hRC, ↓cC_21_1 hRC, ↓cC_21_2 hRC, ↓bdn7, ↓brf7, ↓bgr7, ↓ban7]
        rw [key]
        exact ih n (j + 1) v2 _ (by omega) (by omega) (by show s.2.1 + 1 = j + 1; omega) w1 w3 w4
      | false =>
        rw [c, b2i_f] at hem
        have hle := le_t hPL
        cases hl : lem s.1 with
        | none =>
          rw [hl] at hle
          have hle : f_X1_leastEmpty 14 v = some (-1) := hle
          have hd : dst (gol A) s.1 b = none := by unfold dst; rw [if_neg (by rw [c]; decide), hl]; rfl
          refine Or.inr ⟨v, pl_n hx hd, hP.1, ?_⟩
          rw [L_X4_makePlan_27]
          simp (disch := first | exact h60 | omega | with_unfolding_all exact h60) only [eq_false hnl, ↓bd_of hnb, eq_false m, ↓bd_of hem, ↓bd_of hle, ↓bb_e, ↓c_sI, ↓o_sI, ↓a_sI, ↓c_sL, ↓o_sL, ↓a_sL, ↓c_rI, ↓o_rI, ↓a_rI, ↓c_rL, ↓o_rL, ↓a_rL, ↓c_rngI, ↓o_rngI, ↓a_rngI, ↓c_rngL, ↓o_rngL, ↓a_rngL, ↓bd_s, ↓cs_s, ↓cs_n, ↓gd_t, ↓gB0, ↓gB1, ↓gOT, ↓gAS, ↓gOY, ↓gAY, ↓reduceIte, d10, nI_clamp, nI_1', i0eq, ↓gO0 h60, ↓gO2 h60, ↓gO6 h60, ↓gO10 h60, ↓gO11 h60, ↓gO14 h60, ↓gO21 h60, ↓gA1 h60, ↓gA3 h60, ↓gA4 h60, ↓gA5 h60, ↓gA7 h60, ↓gA8 h60, ↓gA9 h60, ↓gA12 h60, ↓gA13 h60, ↓gA15 h60, ↓gA16 h60, ↓gA17 h60, ↓gA18 h60, ↓gA19 h60, ↓gA20 h60, ↓gA22 h60, ↓gA23 h60, ↓gA24 h60, ↓cC_0_0 hRC, ↓cC_0_1 hRC, ↓cC_0_2 hRC, ↓cC_0_3 hRC, ↓cC_0_4 hRC, ↓cC_2_0 hRC, ↓cC_2_2 hRC, ↓cC_2_3 hRC, ↓cC_6_0 hRC, ↓cC_6_1 hRC, ↓cC_6_2 hRC, ↓cC_10_0 hRC, ↓cC_10_1 hRC, ↓cC_10_2 hRC, ↓cC_10_3 hRC, ↓cC_10_4 hRC, ↓cC_10_5 hRC, ↓cC_11_0 hRC, ↓cC_11_1 hRC, ↓cC_14_0 hRC, ↓cC_14_1 hRC, ↓cC_21_0 hRC, ↓cC_21_1 hRC, ↓cC_21_2 hRC, ↓bdn7, ↓brf7, ↓bgr7, ↓ban7]
        | some z =>
          rw [hl] at hle
          have hle : f_X1_leastEmpty 14 v = some (nI z) := hle
          have hz := kth_lt hl
          have m2 := nI_m1 (b := z) (by omega)
          have hd : dst (gol A) s.1 b = some (nI z) := by unfold dst; rw [if_neg (by rw [c]; decide), hl]; rfl
          obtain ⟨v2, w1, w2, w3, w4⟩ := go _ hd
          rw [pl_s hx hd]
          have key : L_X4_makePlan_27 10 (fun a30 u31 => gd (okO u31 10 4) (bd (f_X4_nextBox 10 u31) (fun w33 => (if w33 = -1 then some (1, u31) else some (0, u31))))) (n + 1) (nI j) v = L_X4_makePlan_27 10 (fun a30 u31 => gd (okO u31 10 4) (bd (f_X4_nextBox 10 u31) (fun w33 => (if w33 = -1 then some (1, u31) else some (0, u31))))) n (nI (j + 1)) v2 := by
            rw [L_X4_makePlan_27]
            generalize (fun (a30 : Int32) u31 => gd (okO u31 10 4) (bd (f_X4_nextBox 10 u31) (fun w33 => (if w33 = -1 then some (1, u31) else some (0, u31))))) = kk
            simp (disch := first | exact h60 | omega | with_unfolding_all exact h60) only [eq_false hnl, ↓bd_of hnb, eq_false m, ↓bd_of hem, ↓bd_of hle, eq_false m2, ↓bd_of w2, ↓bb_e, ↓c_sI, ↓o_sI, ↓a_sI, ↓c_sL, ↓o_sL, ↓a_sL, ↓c_rI, ↓o_rI, ↓a_rI, ↓c_rL, ↓o_rL, ↓a_rL, ↓c_rngI, ↓o_rngI, ↓a_rngI, ↓c_rngL, ↓o_rngL, ↓a_rngL, ↓bd_s, ↓cs_s, ↓cs_n, ↓gd_t, ↓gB0, ↓gB1, ↓gOT, ↓gAS, ↓gOY, ↓gAY, ↓reduceIte, d10, nI_clamp, nI_1', i0eq, ↓gO0 h60, ↓gO2 h60, ↓gO6 h60, ↓gO10 h60, ↓gO11 h60, ↓gO14 h60, ↓gO21 h60, ↓gA1 h60, ↓gA3 h60, ↓gA4 h60, ↓gA5 h60, ↓gA7 h60, ↓gA8 h60, ↓gA9 h60, ↓gA12 h60, ↓gA13 h60, ↓gA15 h60, ↓gA16 h60, ↓gA17 h60, ↓gA18 h60, ↓gA19 h60, ↓gA20 h60, ↓gA22 h60, ↓gA23 h60, ↓gA24 h60, ↓cC_0_0 hRC, ↓cC_0_1 hRC, ↓cC_0_2 hRC, ↓cC_0_3 hRC, ↓cC_0_4 hRC, ↓cC_2_0 hRC, ↓cC_2_2 hRC, ↓cC_2_3 hRC, ↓cC_6_0 hRC, ↓cC_6_1 hRC, ↓cC_6_2 hRC, ↓cC_10_0 hRC, ↓cC_10_1 hRC, ↓cC_10_2 hRC, ↓cC_10_3 hRC, ↓cC_10_4 hRC, ↓cC_10_5 hRC, ↓cC_11_0 hRC, ↓cC_11_1 hRC, ↓cC_14_0 hRC, ↓cC_14_1 hRC, ↓cC_21_0 hRC, ↓cC_21_1 hRC, ↓cC_21_2 hRC, ↓bdn7, ↓brf7, ↓bgr7, ↓ban7]
          rw [key]
          exact ih n (j + 1) v2 _ (by omega) (by omega) (by show s.2.1 + 1 = j + 1; omega) w1 w3 w4
def s0 (A : Ab) : PS := (plc A, 0, fun _ => 0, fun _ => 0, fun _ => 0)
/-- what a plan comes to: none if there is none -/
def plan (A : Ab) : Option PS := if ex (blk (gol A) (plc A)) 0 80 = true then none else pl (gol A) 80 (s0 A)
theorem okF_0 {A : Ab} (hW : Wf A) (h : ex (blk (gol A) (plc A)) 0 80 = false) : okF (gol A) (plc A) (an A) := by
  refine ⟨fun a b _ _ h e => plc_dist hW a b h e, fun a _ => plc_range hW a, fun a h => if_neg (by omega), fun a ha h1 i hi h2 h3 => ?_⟩
  have := ex_no h a (by omega) (by omega)
  unfold blk at this
  rw [h1, Bool.true_and] at this
  have := ex_no this i (by omega) (by omega)
  simp [h2, h3] at this
theorem mp_t {u : Mm} {A : Ab} (hW : Wf A) (hC : CR u A) : (∃ v s, plan A = some s ∧ PC u v s ∧ okF (gol A) s.1 (an A) ∧ s.2.1 ≤ 80 ∧ f_X4_makePlan 10 u = some (1, v)) ∨ (∃ v, plan A = none ∧ scr u v ∧ f_X4_makePlan 10 u = some (0, v)) := by
  have h80 := hW.1.1
  have hG := gol_ok hW
  obtain ⟨hRC, hN, -, -, -, -, -, -, hS⟩ := id hC
  have hn := hN.1
  have h60 : 60 ≤ u.1 := by omega
  obtain ⟨w, c1, c2, c3⟩ := cpd_t (v := sI u 10 6 0) hRC h60
  have c1 : f_X1_copyFrom 14 (gR (sI u 10 6 0) 10 0) (sI u 10 6 0) = some w := by rw [show gR (sI u 10 6 0) 10 0 = some 11 from rc_10_0 hRC]; exact c1
  have sw : scr u w := (scr.rf.sI (by omega)).trans c2.scr
  have hCw := hC.scr sw
  have hLw : Lay w 15 16 (plc A) := c3 _ (hS.1.cong (fun k => gI_n (by omega)) (fun k => gI_n (by omega)))
  have hPC : PC u w (s0 A) := ⟨sw, hLw, by rw [c2.2.2.2 10 6 (by omega) (by omega)]; exact gI_e, fun k hk => by have : k < 0 := hk; omega⟩
  have hPL := hPC.PL hW hC
  have hb := gb_t hG hPL hCw.2.2.2.2.2.2.2.2.1 (fun a b _ _ h e => plc_dist hW a b h e)
  have g60 := hPL.2.1
  have gRC := hPL.1
  unfold plan
  cases cb : ex (blk (gol A) (plc A)) 0 80 with
  | true =>
    have hb : f_X4_isGoalBlocked 10 w = some 1 := by rw [hb]; show some (b2i (ex (blk (gol A) (plc A)) 0 80)) = _; rw [cb]; rfl
    refine Or.inr ⟨w, rfl, sw, ?_⟩
    rw [f_X4_makePlan]
    simp (disch := first | exact h60 | omega | with_unfolding_all exact h60) only [↓bd_of c1, ↓bd_of hb, ↓gO10 g60, ↓bb_e, ↓c_sI, ↓o_sI, ↓a_sI, ↓c_sL, ↓o_sL, ↓a_sL, ↓c_rI, ↓o_rI, ↓a_rI, ↓c_rL, ↓o_rL, ↓a_rL, ↓c_rngI, ↓o_rngI, ↓a_rngI, ↓c_rngL, ↓o_rngL, ↓a_rngL, ↓bd_s, ↓cs_s, ↓cs_n, ↓gd_t, ↓gB0, ↓gB1, ↓gOT, ↓gAS, ↓gOY, ↓gAY, ↓reduceIte, d10, nI_clamp, nI_1', i0eq, ↓gO0 h60, ↓gO2 h60, ↓gO6 h60, ↓gO10 h60, ↓gO11 h60, ↓gO14 h60, ↓gO21 h60, ↓gA1 h60, ↓gA3 h60, ↓gA4 h60, ↓gA5 h60, ↓gA7 h60, ↓gA8 h60, ↓gA9 h60, ↓gA12 h60, ↓gA13 h60, ↓gA15 h60, ↓gA16 h60, ↓gA17 h60, ↓gA18 h60, ↓gA19 h60, ↓gA20 h60, ↓gA22 h60, ↓gA23 h60, ↓gA24 h60, ↓cC_0_0 hRC, ↓cC_0_1 hRC, ↓cC_0_2 hRC, ↓cC_0_3 hRC, ↓cC_0_4 hRC, ↓cC_2_0 hRC, ↓cC_2_2 hRC, ↓cC_2_3 hRC, ↓cC_6_0 hRC, ↓cC_6_1 hRC, ↓cC_6_2 hRC, ↓cC_10_0 hRC, ↓cC_10_1 hRC, ↓cC_10_2 hRC, ↓cC_10_3 hRC, ↓cC_10_4 hRC, ↓cC_10_5 hRC, ↓cC_11_0 hRC, ↓cC_11_1 hRC, ↓cC_14_0 hRC, ↓cC_14_1 hRC, ↓cC_21_0 hRC, ↓cC_21_1 hRC, ↓cC_21_2 hRC, ↓bdn7, ↓brf7, ↓bgr7, ↓ban7]
  | false =>
    have hb : f_X4_isGoalBlocked 10 w = some 0 := by rw [hb]; show some (b2i (ex (blk (gol A) (plc A)) 0 80)) = _; rw [cb]; rfl
    have hF := okF_0 hW cb
    have l := mp_l hW hC 80 1000 0 w (s0 A) (by omega) (by omega) rfl hPC hF (phi_80 hF)
    rw [nI_0] at l
    rw [if_neg (by decide)]
    rcases l with ⟨v', s', l1, l2, l3, l4, l5⟩ | ⟨v', l1, l2, l3⟩
    · refine Or.inl ⟨v', s', l1, l2, l3, l4, ?_⟩
      rw [f_X4_makePlan]
      simp (disch := first | exact h60 | omega | with_unfolding_all exact h60) only [↓bd_of c1, ↓bd_of hb, ↓gO10 g60, ↓l5, ↓bb_e, ↓c_sI, ↓o_sI, ↓a_sI, ↓c_sL, ↓o_sL, ↓a_sL, ↓c_rI, ↓o_rI, ↓a_rI, ↓c_rL, ↓o_rL, ↓a_rL, ↓c_rngI, ↓o_rngI, ↓a_rngI, ↓c_rngL, ↓o_rngL, ↓a_rngL, ↓bd_s, ↓cs_s, ↓cs_n, ↓gd_t, ↓gB0, ↓gB1, ↓gOT, ↓gAS, ↓gOY, ↓gAY, ↓reduceIte, d10, nI_clamp, nI_1', i0eq, ↓gO0 h60, ↓gO2 h60, ↓gO6 h60, ↓gO10 h60, ↓gO11 h60, ↓gO14 h60, ↓gO21 h60, ↓gA1 h60, ↓gA3 h60, ↓gA4 h60, ↓gA5 h60, ↓gA7 h60, ↓gA8 h60, ↓gA9 h60, ↓gA12 h60, ↓gA13 h60, ↓gA15 h60, ↓gA16 h60, ↓gA17 h60, ↓gA18 h60, ↓gA19 h60, ↓gA20 h60, ↓gA22 h60, ↓gA23 h60, ↓gA24 h60, ↓cC_0_0 hRC, ↓cC_0_1 hRC, ↓cC_0_2 hRC, ↓cC_0_3 hRC, ↓cC_0_4 hRC, ↓cC_2_0 hRC, ↓cC_2_2 hRC, ↓cC_2_3 hRC, ↓cC_6_0 hRC, ↓cC_6_1 hRC, ↓cC_6_2 hRC, ↓cC_10_0 hRC, ↓cC_10_1 hRC, ↓cC_10_2 hRC, ↓cC_10_3 hRC, ↓cC_10_4 hRC, ↓cC_10_5 hRC, ↓cC_11_0 hRC, ↓cC_11_1 hRC, ↓cC_14_0 hRC, ↓cC_14_1 hRC, ↓cC_21_0 hRC, ↓cC_21_1 hRC, ↓cC_21_2 hRC, ↓bdn7, ↓brf7, ↓bgr7, ↓ban7]
    · refine Or.inr ⟨v', l1, l2, ?_⟩
      rw [f_X4_makePlan]
      simp (disch := first | exact h60 | omega | with_unfolding_all exact h60) only [↓bd_of c1, ↓bd_of hb, ↓gO10 g60, ↓l3, ↓bb_e, ↓c_sI, ↓o_sI, ↓a_sI, ↓c_sL, ↓o_sL, ↓a_sL, ↓c_rI, ↓o_rI, ↓a_rI, ↓c_rL, ↓o_rL, ↓a_rL, ↓c_rngI, ↓o_rngI, ↓a_rngI, ↓c_rngL, ↓o_rngL, ↓a_rngL, ↓bd_s, ↓cs_s, ↓cs_n, ↓gd_t, ↓gB0, ↓gB1, ↓gOT, ↓gAS, ↓gOY, ↓gAY, ↓reduceIte, d10, nI_clamp, nI_1', i0eq, ↓gO0 h60, ↓gO2 h60, ↓gO6 h60, ↓gO10 h60, ↓gO11 h60, ↓gO14 h60, ↓gO21 h60, ↓gA1 h60, ↓gA3 h60, ↓gA4 h60, ↓gA5 h60, ↓gA7 h60, ↓gA8 h60, ↓gA9 h60, ↓gA12 h60, ↓gA13 h60, ↓gA15 h60, ↓gA16 h60, ↓gA17 h60, ↓gA18 h60, ↓gA19 h60, ↓gA20 h60, ↓gA22 h60, ↓gA23 h60, ↓gA24 h60, ↓cC_0_0 hRC, ↓cC_0_1 hRC, ↓cC_0_2 hRC, ↓cC_0_3 hRC, ↓cC_0_4 hRC, ↓cC_2_0 hRC, ↓cC_2_2 hRC, ↓cC_2_3 hRC, ↓cC_6_0 hRC, ↓cC_6_1 hRC, ↓cC_6_2 hRC, ↓cC_10_0 hRC, ↓cC_10_1 hRC, ↓cC_10_2 hRC, ↓cC_10_3 hRC, ↓cC_10_4 hRC, ↓cC_10_5 hRC, ↓cC_11_0 hRC, ↓cC_11_1 hRC, ↓cC_14_0 hRC, ↓cC_14_1 hRC, ↓cC_21_0 hRC, ↓cC_21_1 hRC, ↓cC_21_2 hRC, ↓bdn7, ↓brf7, ↓bgr7, ↓ban7]
