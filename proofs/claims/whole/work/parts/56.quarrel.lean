/-- the nearest with a span -/
def fsp (A : Ab) : List Nat → Option Nat
  | [] => none
  | i :: l => if aI A 42 i = -1 then fsp A l else some i
def quar (A : Ab) (i : Nat) : Bool := if aI A 42 i = -1 then false else match fsp A (lineO A (par A i)) with
  | none => false
  | some j => decide (aI A 42 i < aI A 42 j) || !decide (aI A 43 i ≤ aI A 43 j)
theorem fsp_mem {A : Ab} {j : Nat} : ∀ {l : List Nat}, fsp A l = some j → j ∈ l ∧ aI A 42 j ≠ -1
  | [], h => by cases h
  | i :: l, h => by
    unfold fsp at h
    split at h
    · have := fsp_mem h
      exact ⟨List.mem_cons_of_mem _ this.1, this.2⟩
    · rename_i h1
      cases h
      exact ⟨List.mem_cons_self, h1⟩
theorem line_lt {A : Ab} (hW : Wf A) : ∀ x : Option Nat, (∀ i, x = some i → i < an A) → ∀ j ∈ lineO A x, j < an A ∧ j < dpt x := by
  refine line_ind hW ?_ ?_
  · intro j h; cases h
  · intro i hi ih j hj
    have e : lineO A (some i) = i :: lineO A (par A i) := line_eq hW hi
    have hd := dpt_par hW hi
    rw [e] at hj
    rcases List.mem_cons.mp hj with rfl | h
    · exact ⟨hi, by simp [dpt]⟩
    · have := ih j h
      exact ⟨this.1, by omega⟩
theorem par_ok {A : Ab} (hW : Wf A) {i : Nat} (hi : i < an A) : ∀ j, par A i = some j → j < an A := fun j h => by have := par_lt hW hi h; omega
theorem hasSpan_t {u : Mm} {A : Ab} (hC : CR u A) {i : Nat} (hi : i < an A) : f_X5_hasSpan (60 + 2 * i) u = some (if aI A 42 i = -1 then 0 else 1) := by
  obtain ⟨-, hN, -, -, hT, -⟩ := hC
  have hn := hN.1
  obtain ⟨-, -, -, -, -, t6, -⟩ := hT i hi
  rw [f_X5_hasSpan, oT (by omega), gd_t, t6]
  split <;> rfl
theorem hasQ_l {u : Mm} {A : Ab} (hW : Wf A) (hC : CR u A) (r : Nat) {k : Option Nat → Option Int32} : ∀ x : Option Nat, (∀ i, x = some i → i < an A) → ∀ n, dpt x < n → L_X5_hasQuarrel_5 r u k n (pC x) = k (pC (fsp A (lineO A x))) := by
  refine line_ind hW ?_ ?_
  · intro n hn
    obtain ⟨n, rfl⟩ : ∃ a, n = a + 1 := ⟨n - 1, by omega⟩
    rfl
  · intro i hi ih n hn
    obtain ⟨n, rfl⟩ : ∃ a, n = a + 1 := ⟨n - 1, by omega⟩
    have hd := dpt_par hW hi
    have hN := hC.2.1.1
    obtain ⟨-, -, -, t4, -⟩ := hC.2.2.2.2.1 i hi
    have e : lineO A (some i) = i :: lineO A (par A i) := line_eq hW hi
    rw [e]
    show L_X5_hasQuarrel_5 r u k (n + 1) (some (60 + 2 * i)) = _
    rw [L_X5_hasQuarrel_5, cs_s, oT (by omega), gd_t, hasSpan_t hC hi, bd_s, bb_e, t4, fsp]
    by_cases h : aI A 42 i = -1
    · rw [if_pos h, if_pos h, if_pos rfl]
      exact ih n (by omega)
    · rw [if_neg h, if_neg h, if_neg (by decide)]
      rfl
theorem hasQ_t {u : Mm} {A : Ab} (hW : Wf A) (hC : CR u A) {i : Nat} (hi : i < an A) : f_X5_hasQuarrel (60 + 2 * i) u = some (b2i (quar A i)) := by
  have hN := hC.2.1.1
  have h80 := hW.1.1
  obtain ⟨-, -, -, t4, -, t6, t7, -⟩ := hC.2.2.2.2.1 i hi
  rw [f_X5_hasQuarrel, oT (by omega), gd_t, bb_e, t4, hasQ_l hW hC _ _ (par_ok hW hi) 1000 (by have := dpt_par hW hi; simp only [dpt] at this ⊢; omega), hasSpan_t hC hi, bd_s]
  unfold quar
  by_cases h : aI A 42 i = -1
  · rw [if_pos h, if_pos h, if_pos rfl]
    rfl
  · rw [if_neg h, if_neg h, if_neg (by decide)]
    cases hf : fsp A (lineO A (par A i)) with
    | none => rfl
    | some j =>
      obtain ⟨m1, m2⟩ := fsp_mem hf
      have hj := (line_lt hW _ (par_ok hW hi) j m1).1
      obtain ⟨-, -, -, -, -, s6, s7, -⟩ := hC.2.2.2.2.1 j hj
      show cs (some (60 + 2 * j)) _ _ = _
      rw [cs_s, oT (by omega), gd_t, t6, t7 h, s6, s7 m2]
      by_cases c1 : aI A 42 i < aI A 42 j
      · simp [c1, b2i]
      · by_cases c2 : aI A 43 i ≤ aI A 43 j <;> simp [c1, c2, b2i]
theorem span8_l {u : Mm} {A : Ab} (hW : Wf A) (hM : MR u A) (q a b : Int32) {k : Int32 → Option (Int32 × Mm)} : ∀ x : Option Nat, (∀ i, x = some i → i < an A) → ∀ n, dpt x < n → L_X8_quarrel_52 33 q a b u k n (pI x) = k (pI (fsp A (lineO A x))) := by
  refine line_ind hW ?_ ?_
  · intro n hn
    obtain ⟨n, rfl⟩ : ∃ a, n = a + 1 := ⟨n - 1, by omega⟩
    rw [L_X8_quarrel_52, if_pos (by decide)]
    rfl
  · intro i hi ih n hn
    obtain ⟨n, rfl⟩ : ∃ a, n = a + 1 := ⟨n - 1, by omega⟩
    have hd := dpt_par hW hi
    obtain ⟨hRM, h60, -, -, -, hT, -⟩ := id hM
    obtain ⟨k1, k2, k3, k4, k5, -⟩ := hT.1 i hi
    have h80 := hW.1.1
    have hr := (hW.1.2 i hi).2.2.2.2.1
    have e : lineO A (some i) = i :: lineO A (par A i) := line_eq hW hi
    rw [e]
    have ih := ih n (by omega)
    show L_X8_quarrel_52 33 q a b u k (n + 1) (nI i) = _
    rw [L_X8_quarrel_52, if_neg (nI_pos (by omega))]
    simp only [oO33 h60, gd_t, bb_e, rm_13 hRM, rm_9 hRM, cs_s, oA42 h60 (show i < 80 by omega), oA38 h60 (show i < 80 by omega), nI_clamp (show i < 2 ^ 31 by omega), k2, k5, par_pI hW hi, ih, fsp]
    simp only [i_le, i_eq, li_0, li_m1]
    by_cases h : (aI A 42 i).toInt = -1
    · rw [if_pos h, if_neg (by omega)]
    · rw [if_neg h, if_pos (by omega)]
      rfl
/-- the m-th of j .. j + d - 1 that has P -/
def kth (P : Nat → Bool) : Nat → Nat → Nat → Option Nat
  | _, 0, _ => none
  | j, d + 1, m => if P j = true then (match m with
    | 0 => some j
    | m + 1 => kth P (j + 1) d m) else kth P (j + 1) d m
theorem kth_f {P : Nat → Bool} {j d m : Nat} (h : P j = false) : kth P j (d + 1) m = kth P (j + 1) d m := by
  rw [kth.eq_def]
  simp [h]
theorem kth_0 {P : Nat → Bool} {j d : Nat} (h : P j = true) : kth P j (d + 1) 0 = some j := by
  rw [kth.eq_def]
  simp [h]
theorem kth_s {P : Nat → Bool} {j d m : Nat} (h : P j = true) : kth P j (d + 1) (m + 1) = kth P (j + 1) d m := by
  rw [kth.eq_def]
  simp [h]
theorem quar_l {u : Mm} {A : Ab} (hW : Wf A) (hC : CR u A) (q : Int32) : ∀ (d n j m : Nat), j + d = an A → d < n → m < 2 ^ 31 → L_X0_quarrelling_4 2 q u (fun _ _ => some (-1 : Int32)) n (nI m) (nI j) = some (pI (kth (quar A) j d m)) := by
  have h80 := hW.1.1
  obtain ⟨hRC, hN, -, -, hT, -⟩ := id hC
  have hn := hN.1
  have h60 : 60 ≤ u.1 := by omega
  intro d
  induction d with
  | zero =>
    intro n j m h1 h2 _
    obtain ⟨n, rfl⟩ : ∃ m, n = m + 1 := ⟨n - 1, by omega⟩
    have e : j = an A := by omega
    subst e
    rw [L_X0_quarrelling_4, oO2 h60, gd_t, hN.2, if_pos (nI_le (Nat.le_refl _) (by omega))]
    rfl
  | succ d ih =>
    intro n j m h1 h2 hm
    obtain ⟨n, rfl⟩ : ∃ m, n = m + 1 := ⟨n - 1, by omega⟩
    obtain ⟨t1, -⟩ := hT j (by omega)
    rw [L_X0_quarrelling_4, oO2 h60, gd_t, hN.2, if_neg (nI_ge (by omega) (by omega)), bb_e, rc_2_0 hRC, cs_s, oA3 h60 (by omega), gd_t, bb_e, nI_clamp (by omega), t1, cs_s, oT (by omega), gd_t, hasQ_t hW hC (by omega), bd_s]
    simp only [bb_e, nI_1']
    cases hq : quar A j with
    | false =>
      rw [b2i_f, if_pos rfl, ih n (j + 1) m (by omega) (by omega) hm, kth_f hq]
    | true =>
      rw [b2i_t, if_neg (by decide)]
      cases m with
      | zero => rw [if_pos nI_0, kth_0 hq]; rfl
      | succ m =>
        rw [kth_s hq, if_neg (nI_ne0 (by omega) hm), sub1, nI_pred, ih n (j + 1) m (by omega) (by omega) (by omega)]
theorem quar8_l {u : Mm} {A : Ab} (hW : Wf A) (hM : MR u A) {K : Nat} (hK : K < 2 ^ 31) {z : Option (Int32 × Mm)} : ∀ (d n j m c : Nat), j + d = an A → d < n → c + m = K → L_X8_quarrel_24 33 (nI K) u (fun _ _ => z) n (nI c) (nI j) = (match kth (quar A) j d m with
    | none => z
    | some t => some (nI t, u)) := by
  have h80 := hW.1.1
  obtain ⟨hRM, h60, h7, -, -, hT, -⟩ := id hM
  intro d
  induction d with
  | zero =>
    intro n j m c h1 h2 _
    obtain ⟨n, rfl⟩ : ∃ m, n = m + 1 := ⟨n - 1, by omega⟩
    have e : j = an A := by omega
    subst e
    rw [L_X8_quarrel_24, oO33 h60, gd_t, h7, if_pos (nI_le (Nat.le_refl _) (by omega))]
    rfl
  | succ d ih =>
    intro n j m c h1 h2 hm
    obtain ⟨n, rfl⟩ : ∃ m, n = m + 1 := ⟨n - 1, by omega⟩
    have hj : j < an A := by omega
    obtain ⟨k1, k2, k3, k4, k5, k6, -⟩ := hT.1 j hj
    have hr := (hW.1.2 j hj).2.2.2.2.1
    have hd := dpt_par hW hj
    have hd2 : dpt (some j) = j + 1 := rfl
    rw [L_X8_quarrel_24, oO33 h60, gd_t, h7, if_neg (nI_ge (by omega) (by omega))]
    simp only [bb_e, rm_13 hRM, rm_9 hRM, rm_14 hRM, cs_s, gd_t, oA42 h60 (show j < 80 by omega), oA38 h60 (show j < 80 by omega), oA43 h60 (show j < 80 by omega), nI_clamp (show j < 2 ^ 31 by omega), k2, k5, k6, par_pI hW hj, span8_l hW hM _ _ _ _ (par_ok hW hj) 1000 (by omega), nI_1']
    have hno : quar A j = false → L_X8_quarrel_24 33 (nI K) u (fun _ _ => z) n (nI c) (nI (j + 1)) = (match kth (quar A) j (d + 1) m with
        | none => z
        | some t => some (nI t, u)) := fun h => by
      rw [ih n (j + 1) m c (by omega) (by omega) hm, kth_f h]
    have hyes : quar A j = true → (if nI c = nI K then some (nI j, u) else L_X8_quarrel_24 33 (nI K) u (fun _ _ => z) n (nI (c + 1)) (nI (j + 1))) = (match kth (quar A) j (d + 1) m with
        | none => z
        | some t => some (nI t, u)) := fun h => by
      cases m with
      | zero => rw [kth_0 h, if_pos (by rw [show c = K by omega])]
      | succ m => rw [kth_s h, if_neg (by rw [nI_eq (by omega) (by omega)]; omega), ih n (j + 1) m (c + 1) (by omega) (by omega) (by omega)]
    by_cases h : aI A 42 j = -1
    · rw [if_neg (by rw [h]; decide)]
      exact hno (by unfold quar; rw [if_pos h])
    · have h' := i_ne h
      rw [if_pos (by rw [i_le, li_0]; omega)]
      cases hf : fsp A (lineO A (par A j)) with
      | none =>
        rw [show pI none = -1 from rfl, if_pos (by decide)]
        exact hno (by unfold quar; rw [if_neg h, hf])
      | some i =>
        obtain ⟨m1, m2⟩ := fsp_mem hf
        have hi := (line_lt hW _ (par_ok hW hj) i m1).1
        obtain ⟨-, -, -, -, s5, s6, -⟩ := hT.1 i hi
        rw [show pI (some i) = nI i from rfl, if_neg (nI_pos (by omega))]
        simp only [oA42 h60 (show i < 80 by omega), oA43 h60 (show i < 80 by omega), gd_t, nI_clamp (show i < 2 ^ 31 by omega), s5, s6]
        by_cases c1 : aI A 42 j < aI A 42 i
        · rw [if_pos c1]
          exact hyes (by unfold quar; rw [if_neg h, hf]; simp [c1])
        · rw [if_neg c1]
          by_cases c2 : aI A 43 i < aI A 43 j
          · rw [if_pos c2]
            exact hyes (by unfold quar; rw [if_neg h, hf]; have c3 : ¬ aI A 43 j ≤ aI A 43 i := by rw [i_le]; rw [i_lt] at c2; omega
                           simp [c3])
          · rw [if_neg c2]
            exact hno (by unfold quar; rw [if_neg h, hf]; have c3 : aI A 43 j ≤ aI A 43 i := by rw [i_le]; rw [i_lt] at c2; omega
                          simp [c1, c3])
theorem fsp_st (A : Ab) (c : Int32) : ∀ l, fsp (st A c) l = fsp A l
  | [] => rfl
  | i :: l => by simp only [fsp, aI_st (show 42 ≠ 33 by omega), fsp_st A c l]
theorem lineO_st (A : Ab) (c : Int32) (x : Option Nat) : lineO (st A c) x = lineO A x := by
  cases x with
  | none => rfl
  | some i => exact line_st A c i
theorem quar_st (A : Ab) (c : Int32) : quar (st A c) = quar A := by
  funext i
  unfold quar
  simp only [aI_st (show 42 ≠ 33 by omega), aI_st (show 43 ≠ 33 by omega), fsp_st, par_st, lineO_st]
theorem kth_lt {P : Nat → Bool} {t : Nat} : ∀ {d j m : Nat}, kth P j d m = some t → j ≤ t ∧ t < j + d
  | 0, j, m, h => by cases h
  | d + 1, j, m, h => by
    unfold kth at h
    split at h
    · cases m with
      | zero => cases h; omega
      | succ m => have := kth_lt h; omega
    · have := kth_lt h; omega
-- QUARREL
theorem P_quarrel {u : Mm} (hI : Inv u) (p1 : Int32) : Pq (f_X7_quarrel 0 p1) (f_X8_quarrel 33 p1) u := by
  obtain ⟨A, hW, hC, hM⟩ := hI
  obtain ⟨hRC, hN, hS, hF, hT, hPc, hY, hLg, hSh⟩ := id hC
  obtain ⟨hRM, h60, h7, hMs, hMf, hMt, hMy, hMl⟩ := id hM
  have h80 : an A ≤ 80 := hW.1.1
  have hn := hN.1
  by_cases hp : 0 ≤ p1.toInt
  · obtain ⟨K, rfl, hK1, hK⟩ := i_ex hp
    have h1 : f_X0_quarrelling 2 (nI K) u = some (pI (kth (quar A) 0 (an A) K)) := by
      have := quar_l hW hC (nI K) (an A) 1000 0 K (by omega) (by omega) hK
      rw [nI_0] at this
      exact this
    have h2 : ∀ c, L_X8_quarrel_24 33 (nI K) (m0 (sI u 0 5 c)) (fun a48 a49 => some ((-1 : Int32), sI (m0 (sI u 0 5 c)) 33 0 9)) 1000 0 0 = (match kth (quar A) 0 (an A) K with
        | none => some ((-1 : Int32), sI (m0 (sI u 0 5 c)) 33 0 9)
        | some t => some (nI t, m0 (sI u 0 5 c))) := fun c => by
      have := quar8_l (Wf_st 0 hW) (MR_k hM c) hK (z := some ((-1 : Int32), sI (m0 (sI u 0 5 c)) 33 0 9)) (an A) 1000 0 K 0 (by show 0 + an A = an A; omega) (by omega) (by omega)
      rw [nI_0, quar_st] at this
      exact this
    cases hk : kth (quar A) 0 (an A) K with
    | none =>
      rw [hk] at h1
      simp only [hk] at h2
      have h1 : f_X0_quarrelling 2 (nI K) u = some (-1) := h1
      refine leaf_st (A := A) (-1) 9 0 hW hC hM ?_ ?_
      · simp (disch := omega) only [f_X7_quarrel, h1, f_X7_refuse, gd_t, bb_e, bd_s, cs_n, cs_s, okO_sI, okO_sL, okO_sR, okO_rI, okO_rL, okA_sI, okA_sL, okA_sR, okA_rI, okA_rL, gI_sI, gI_sL, gI_sR, gI_rI, gI_rL, gL_sI, gL_sL, gL_sR, gL_rI, gL_rL, gR_sI, gR_sL, gR_sR, gR_rI, gR_rL, oT, oS, oY, oYn, i_lt, i_le, i_eq, nI_toInt, nI_clamp, ↓reduceIte, false_and, and_false, and_self, true_and, and_true, if_pos, if_neg, ite_self, isB_0, isB_1, ix6, ix40, li_0, li_1, li_2, li_3, li_4, li_5, li_6, li_7, li_8, li_9, li_10, li_11, li_12, li_15, li_16, li_20, li_39, li_40, li_80, li_200, li_400, li_999, li_9999, li_100000, li_200000, li_300000, li_65535, li_m1, oO0 h60, oO2 h60, oO6 h60, oO10 h60, oO11 h60, oO14 h60, oO21 h60, oA1 h60, oA3 h60, oA4 h60, oA5 h60, oA7 h60, oA8 h60, oA9 h60, oA12 h60, oA13 h60, oA15 h60, oA16 h60, oA17 h60, oA18 h60, oA19 h60, oA20 h60, oA22 h60, oA23 h60, oA24 h60, rc_0_0 hRC, rc_0_1 hRC, rc_0_2 hRC, rc_0_3 hRC, rc_0_4 hRC, rc_2_0 hRC, rc_2_2 hRC, rc_2_3 hRC, rc_6_0 hRC, rc_6_1 hRC, rc_6_2 hRC, rc_10_0 hRC, rc_10_1 hRC, rc_10_2 hRC, rc_10_3 hRC, rc_10_4 hRC, rc_10_5 hRC, rc_11_0 hRC, rc_11_1 hRC, rc_14_0 hRC, rc_14_1 hRC, rc_21_0 hRC, rc_21_1 hRC, rc_21_2 hRC]
      · simp (disch := omega) only [f_X8_quarrel, h2 9, f_X8_refuse, gd_t, bb_e, bd_s, cs_n, cs_s, okO_sI, okO_sL, okO_sR, okO_rI, okO_rL, okA_sI, okA_sL, okA_sR, okA_rI, okA_rL, gI_sI, gI_sL, gI_sR, gI_rI, gI_rL, gL_sI, gL_sL, gL_sR, gL_rI, gL_rL, gR_sI, gR_sL, gR_sR, gR_rI, gR_rL, oT, oS, oY, oYn, i_lt, i_le, i_eq, nI_toInt, nI_clamp, ↓reduceIte, false_and, and_false, and_self, true_and, and_true, if_pos, if_neg, ite_self, isB_0, isB_1, ix6, ix40, li_0, li_1, li_2, li_3, li_4, li_5, li_6, li_7, li_8, li_9, li_10, li_11, li_12, li_15, li_16, li_20, li_39, li_40, li_80, li_200, li_400, li_999, li_9999, li_100000, li_200000, li_300000, li_65535, li_m1, oO33 h60, oA34 h60, oA35 h60, oA36 h60, oA37 h60, oA38 h60, oA39 h60, oA40 h60, oA41 h60, oA42 h60, oA43 h60, oA44 h60, oA45 h60, oA46 h60, oA47 h60, oA48 h60, oA49 h60, oA50 h60, oA51 h60, oA52 h60, oA53 h60, oA54 h60, oA55 h60, oA56 h60, oA57 h60, oA58 h60, oA59 h60, rm_4 hRM, rm_5 hRM, rm_6 hRM, rm_8 hRM, rm_9 hRM, rm_10 hRM, rm_11 hRM, rm_12 hRM, rm_13 hRM, rm_14 hRM, rm_15 hRM, rm_16 hRM, rm_17 hRM, rm_18 hRM, rm_19 hRM, rm_20 hRM, rm_21 hRM, rm_23 hRM, rm_24 hRM, rm_25 hRM, rm_26 hRM, rm_27 hRM, rm_28 hRM, rm_29 hRM, rm_30 hRM, rm_32 hRM]
    | some t =>
      have ht := kth_lt hk
      rw [hk] at h1
      simp only [hk] at h2
      have h1 : f_X0_quarrelling 2 (nI K) u = some (nI t) := h1
      refine leaf_s1 (A := A) (nI t) 0 hW hC hM ?_ ?_
      · simp (disch := omega) only [f_X7_quarrel, h1, f_X7_answer, gd_t, bb_e, bd_s, cs_n, cs_s, okO_sI, okO_sL, okO_sR, okO_rI, okO_rL, okA_sI, okA_sL, okA_sR, okA_rI, okA_rL, gI_sI, gI_sL, gI_sR, gI_rI, gI_rL, gL_sI, gL_sL, gL_sR, gL_rI, gL_rL, gR_sI, gR_sL, gR_sR, gR_rI, gR_rL, oT, oS, oY, oYn, i_lt, i_le, i_eq, nI_toInt, nI_clamp, ↓reduceIte, false_and, and_false, and_self, true_and, and_true, if_pos, if_neg, ite_self, isB_0, isB_1, ix6, ix40, li_0, li_1, li_2, li_3, li_4, li_5, li_6, li_7, li_8, li_9, li_10, li_11, li_12, li_15, li_16, li_20, li_39, li_40, li_80, li_200, li_400, li_999, li_9999, li_100000, li_200000, li_300000, li_65535, li_m1, oO0 h60, oO2 h60, oO6 h60, oO10 h60, oO11 h60, oO14 h60, oO21 h60, oA1 h60, oA3 h60, oA4 h60, oA5 h60, oA7 h60, oA8 h60, oA9 h60, oA12 h60, oA13 h60, oA15 h60, oA16 h60, oA17 h60, oA18 h60, oA19 h60, oA20 h60, oA22 h60, oA23 h60, oA24 h60, rc_0_0 hRC, rc_0_1 hRC, rc_0_2 hRC, rc_0_3 hRC, rc_0_4 hRC, rc_2_0 hRC, rc_2_2 hRC, rc_2_3 hRC, rc_6_0 hRC, rc_6_1 hRC, rc_6_2 hRC, rc_10_0 hRC, rc_10_1 hRC, rc_10_2 hRC, rc_10_3 hRC, rc_10_4 hRC, rc_10_5 hRC, rc_11_0 hRC, rc_11_1 hRC, rc_14_0 hRC, rc_14_1 hRC, rc_21_0 hRC, rc_21_1 hRC, rc_21_2 hRC]
      · simp (disch := omega) only [f_X8_quarrel, h2 0, f_X8_refuse, gd_t, bb_e, bd_s, cs_n, cs_s, okO_sI, okO_sL, okO_sR, okO_rI, okO_rL, okA_sI, okA_sL, okA_sR, okA_rI, okA_rL, gI_sI, gI_sL, gI_sR, gI_rI, gI_rL, gL_sI, gL_sL, gL_sR, gL_rI, gL_rL, gR_sI, gR_sL, gR_sR, gR_rI, gR_rL, oT, oS, oY, oYn, i_lt, i_le, i_eq, nI_toInt, nI_clamp, ↓reduceIte, false_and, and_false, and_self, true_and, and_true, if_pos, if_neg, ite_self, isB_0, isB_1, ix6, ix40, li_0, li_1, li_2, li_3, li_4, li_5, li_6, li_7, li_8, li_9, li_10, li_11, li_12, li_15, li_16, li_20, li_39, li_40, li_80, li_200, li_400, li_999, li_9999, li_100000, li_200000, li_300000, li_65535, li_m1, oO33 h60, oA34 h60, oA35 h60, oA36 h60, oA37 h60, oA38 h60, oA39 h60, oA40 h60, oA41 h60, oA42 h60, oA43 h60, oA44 h60, oA45 h60, oA46 h60, oA47 h60, oA48 h60, oA49 h60, oA50 h60, oA51 h60, oA52 h60, oA53 h60, oA54 h60, oA55 h60, oA56 h60, oA57 h60, oA58 h60, oA59 h60, rm_4 hRM, rm_5 hRM, rm_6 hRM, rm_8 hRM, rm_9 hRM, rm_10 hRM, rm_11 hRM, rm_12 hRM, rm_13 hRM, rm_14 hRM, rm_15 hRM, rm_16 hRM, rm_17 hRM, rm_18 hRM, rm_19 hRM, rm_20 hRM, rm_21 hRM, rm_23 hRM, rm_24 hRM, rm_25 hRM, rm_26 hRM, rm_27 hRM, rm_28 hRM, rm_29 hRM, rm_30 hRM, rm_32 hRM]
  · refine leaf_st (A := A) (-1) 5 0 hW hC hM ?_ ?_
    · simp (disch := omega) only [f_X7_quarrel, f_X7_refuse, gd_t, bb_e, bd_s, cs_n, cs_s, okO_sI, okO_sL, okO_sR, okO_rI, okO_rL, okA_sI, okA_sL, okA_sR, okA_rI, okA_rL, gI_sI, gI_sL, gI_sR, gI_rI, gI_rL, gL_sI, gL_sL, gL_sR, gL_rI, gL_rL, gR_sI, gR_sL, gR_sR, gR_rI, gR_rL, oT, oS, oY, oYn, i_lt, i_le, i_eq, nI_toInt, nI_clamp, ↓reduceIte, false_and, and_false, and_self, true_and, and_true, if_pos, if_neg, ite_self, isB_0, isB_1, ix6, ix40, li_0, li_1, li_2, li_3, li_4, li_5, li_6, li_7, li_8, li_9, li_10, li_11, li_12, li_15, li_16, li_20, li_39, li_40, li_80, li_200, li_400, li_999, li_9999, li_100000, li_200000, li_300000, li_65535, li_m1, oO0 h60, oO2 h60, oO6 h60, oO10 h60, oO11 h60, oO14 h60, oO21 h60, oA1 h60, oA3 h60, oA4 h60, oA5 h60, oA7 h60, oA8 h60, oA9 h60, oA12 h60, oA13 h60, oA15 h60, oA16 h60, oA17 h60, oA18 h60, oA19 h60, oA20 h60, oA22 h60, oA23 h60, oA24 h60, rc_0_0 hRC, rc_0_1 hRC, rc_0_2 hRC, rc_0_3 hRC, rc_0_4 hRC, rc_2_0 hRC, rc_2_2 hRC, rc_2_3 hRC, rc_6_0 hRC, rc_6_1 hRC, rc_6_2 hRC, rc_10_0 hRC, rc_10_1 hRC, rc_10_2 hRC, rc_10_3 hRC, rc_10_4 hRC, rc_10_5 hRC, rc_11_0 hRC, rc_11_1 hRC, rc_14_0 hRC, rc_14_1 hRC, rc_21_0 hRC, rc_21_1 hRC, rc_21_2 hRC]
    · simp (disch := omega) only [f_X8_quarrel, f_X8_refuse, gd_t, bb_e, bd_s, cs_n, cs_s, okO_sI, okO_sL, okO_sR, okO_rI, okO_rL, okA_sI, okA_sL, okA_sR, okA_rI, okA_rL, gI_sI, gI_sL, gI_sR, gI_rI, gI_rL, gL_sI, gL_sL, gL_sR, gL_rI, gL_rL, gR_sI, gR_sL, gR_sR, gR_rI, gR_rL, oT, oS, oY, oYn, i_lt, i_le, i_eq, nI_toInt, nI_clamp, ↓reduceIte, false_and, and_false, and_self, true_and, and_true, if_pos, if_neg, ite_self, isB_0, isB_1, ix6, ix40, li_0, li_1, li_2, li_3, li_4, li_5, li_6, li_7, li_8, li_9, li_10, li_11, li_12, li_15, li_16, li_20, li_39, li_40, li_80, li_200, li_400, li_999, li_9999, li_100000, li_200000, li_300000, li_65535, li_m1, oO33 h60, oA34 h60, oA35 h60, oA36 h60, oA37 h60, oA38 h60, oA39 h60, oA40 h60, oA41 h60, oA42 h60, oA43 h60, oA44 h60, oA45 h60, oA46 h60, oA47 h60, oA48 h60, oA49 h60, oA50 h60, oA51 h60, oA52 h60, oA53 h60, oA54 h60, oA55 h60, oA56 h60, oA57 h60, oA58 h60, oA59 h60, rm_4 hRM, rm_5 hRM, rm_6 hRM, rm_8 hRM, rm_9 hRM, rm_10 hRM, rm_11 hRM, rm_12 hRM, rm_13 hRM, rm_14 hRM, rm_15 hRM, rm_16 hRM, rm_17 hRM, rm_18 hRM, rm_19 hRM, rm_20 hRM, rm_21 hRM, rm_23 hRM, rm_24 hRM, rm_25 hRM, rm_26 hRM, rm_27 hRM, rm_28 hRM, rm_29 hRM, rm_30 hRM, rm_32 hRM]
