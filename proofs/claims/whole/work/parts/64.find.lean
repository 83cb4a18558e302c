/-! FIND -/
theorem cf_snoc (P : Nat → Bool) : ∀ (d j : Nat), cf P j (d + 1) = cf P j d + (if P (j + d) = true then 1 else 0)
  | 0, j => by simp [cf]
  | d + 1, j => by
    have := cf_snoc P d (j + 1)
    rw [cf, this, cf, show j + 1 + d = j + (d + 1) by omega]
    omega
theorem cf_le (P : Nat → Bool) : ∀ (d j : Nat), cf P j d ≤ d
  | 0, j => by simp [cf]
  | d + 1, j => by
    have := cf_le P d (j + 1)
    rw [cf]
    split <;> omega
theorem kth_cf (P : Nat → Bool) : ∀ (e d i : Nat), e < d → P (i + e) = true → kth P i d (cf P i e) = some (i + e)
  | 0, d, i, h, hp => by
    obtain ⟨d, rfl⟩ : ∃ a, d = a + 1 := ⟨d - 1, by omega⟩
    have hp : P i = true := hp
    rw [show cf P i 0 = 0 from rfl, kth_0 hp]
    rfl
  | e + 1, d, i, h, hp => by
    obtain ⟨d, rfl⟩ : ∃ a, d = a + 1 := ⟨d - 1, by omega⟩
    have := kth_cf P e d (i + 1) (by omega) (by rw [show i + 1 + e = i + (e + 1) by omega]; exact hp)
    rw [cf]
    by_cases c : P i = true
    · rw [if_pos c, Nat.add_comm 1, kth_s c, this, show i + 1 + e = i + (e + 1) by omega]
    · rw [if_neg c, Nat.zero_add, kth_f (by simpa using c), this, show i + 1 + e = i + (e + 1) by omega]
/-- a row in which the first c (at most k) of val stand from off on -/
def rw' (val : Nat → Int64) (k : Nat) (g : Nat → Int64) (off c : Nat) : Nat → Int64 := fun x => if off ≤ x ∧ x < off + min c k then val (x - off) else g x
theorem rw_0 (val : Nat → Int64) (k : Nat) (g : Nat → Int64) (off : Nat) : ∀ x, rw' val k g off 0 x = g x := fun x => by
  unfold rw'
  rw [if_neg (by omega)]
theorem rw_s {val : Nat → Int64} {k : Nat} {g : Nat → Int64} {off c : Nat} {v : Int64} (h : c < k) (hv : v = val c) : (fun j => if j = off + c then v else rw' val k g off c j) = rw' val k g off (c + 1) := by
  funext x
  unfold rw'
  by_cases e : x = off + c
  · rw [if_pos e, if_pos (by omega), hv]
    congr 1
    omega
  · rw [if_neg e]
    by_cases e2 : off ≤ x ∧ x < off + min c k
    · rw [if_pos e2, if_pos (by omega)]
    · rw [if_neg e2, if_neg (by omega)]
theorem rw_n {val : Nat → Int64} {k : Nat} {g : Nat → Int64} {off c : Nat} (h : ¬ c < k) : rw' val k g off c = rw' val k g off (c + 1) := by
  funext x
  unfold rw'
  rw [show min c k = min (c + 1) k by omega]
/-- the same lines, the same sayings, the same sights -/
theorem ln_cong {A B : Ab} (h : ∀ i, par A i = par B i) : ∀ k i, lnA A k i = lnA B k i
  | 0, _ => rfl
  | k + 1, i => by
    simp only [lnA, h]
    cases par B i with
    | none => rfl
    | some j => simp only [ln_cong h k j]
theorem par_qL (A : Ab) (r : Nat) (g : Nat → Int64) (i : Nat) : par (qL A r g) i = par A i := rfl
theorem line_qL (A : Ab) (r : Nat) (g : Nat → Int64) (i : Nat) : line (qL A r g) i = line A i := ln_cong (par_qL A r g) _ _
theorem sd_qL (A : Ab) (r : Nat) (g : Nat → Int64) (f : Nat) : ∀ l, sd (qL A r g) f l = sd A f l
  | [] => rfl
  | i :: l => by simp only [sd, aI_qL, sd_qL A r g f l]
theorem seen_qL (A : Ab) (r : Nat) (g : Nat → Int64) (p d : Int32) (l : List Nat) : seen (qL A r g) p d l = seen A p d l := rfl
/-- what is found -/
def fP (A : Ab) (f : Nat) (p2 p3 p4 : Int32) (j : Nat) : Bool := decide (aI A 37 j = 3) && decide (sd A f (line A j) = p2) && seen A p3 p4 (line A j)
def fV (A : Ab) (f : Nat) (p2 p3 p4 s : Int32) (m : Nat) : Int64 := cutv s (Int32.toInt64 (pI (kth (fP A f p2 p3 p4) 0 (an A) m)))
abbrev fA (A : Ab) (val : Nat → Int64) (t k c : Nat) : Ab := qL A 36 (rw' val k (aL A 36) (40 * t) c)
theorem CR_find {u : Mm} {A : Ab} (hC : CR u A) {t k : Nat} (ht : t < 4) (hk : k ≤ 40) (val : Nat → Int64) (yt : aI A 35 t = nI k) (c : Nat) : CR (rL u (26 + 2 * t) (rw' val k (gL u (26 + 2 * t)) 0 c)) (fA A val t k c) := by
  refine CR_y hC rfl (fun _ _ => rfl) (fun _ _ _ => rfl) (by intro r k h; rw [gL_rL, if_neg (by omega)]) rfl rfl (fun _ _ _ => rfl) (by intro r k h; rw [aL_qL, if_neg h]) ?_
  intro x hx
  rcases y_cases hC hx with y | ⟨k', q1, q2, q3, q4, q5⟩
  · exact Or.inl y
  · refine Or.inr ⟨k', q1, q2, q3, q4, fun j hj => ?_⟩
    rw [gL_rL, aL_qL, if_pos rfl]
    unfold rw'
    by_cases e : x = t
    · subst e
      rw [if_pos rfl]
      by_cases e2 : j < min c k
      · rw [if_pos (by omega), if_pos (by omega)]
        congr 1
        omega
      · rw [if_neg (by omega), if_neg (by omega)]
        exact q5 j hj
    · rw [if_neg (by omega), if_neg (by omega)]
      exact q5 j hj
theorem MR_find {w : Mm} {A : Ab} (hM : MR w A) {t k : Nat} (ht : t < 4) (hk : k ≤ 40) (val : Nat → Int64) (yt : aI A 35 t = nI k) (c : Nat) : MR (rL w 36 (rw' val k (gL w 36) (40 * t) c)) (fA A val t k c) := by
  refine MR_y hM rfl (fun _ _ => rfl) (fun _ _ _ => rfl) (by intro r k h; rw [gL_rL, if_neg h]) rfl rfl (fun _ _ _ => rfl) (by intro r k h; rw [aL_qL, if_neg h]) ?_
  obtain ⟨-, -, -, -, -, -, hy, -⟩ := hM
  intro x hx
  obtain ⟨q1, q2, q3⟩ := hy x hx
  refine ⟨q1, q2, fun k' e1 e2 j hj => ?_⟩
  rw [gL_rL_e, aL_qL, if_pos rfl]
  unfold rw'
  by_cases e : 40 * t ≤ 40 * x + j ∧ 40 * x + j < 40 * t + min c k
  · rw [if_pos e, if_pos e]
  · rw [if_neg e, if_neg e]
    exact q3 k' e1 e2 j hj
theorem place_t {u : Mm} {A : Ab} (hC : CR u A) {t k c : Nat} (ht : t < 4) (hk : k ≤ 40) (yt : aI A 35 t = nI k) (hc : c < 2 ^ 31) : f_X6_hasPlace (25 + 2 * t) (nI c) u = some (if c < k then 1 else 0) := by
  have hn := hC.2.1.1
  rw [f_X6_hasPlace, if_neg (nI_pos hc), oY (by omega) ht, gd_t, (yl hC ht hk yt).2]
  by_cases e : c < k
  · rw [if_pos e, if_neg (nI_ge e (by omega))]
  · rw [if_neg e, if_pos (nI_le (by omega) hc)]
theorem put_t {u : Mm} {A : Ab} (hC : CR u A) {t k c : Nat} (ht : t < 4) (hk : k ≤ 40) (yt : aI A 35 t = nI k) (hc : c < k) (x : Int64) : f_X6_put (25 + 2 * t) (nI c) x u = some (sL u (26 + 2 * t) c (cutv (aI A 34 t) x)) := by
  have hn := hC.2.1.1
  have hRC := hC.1
  rw [f_X6_put, oY (by omega) ht, gd_t, bb_e, cut6 (oY (by omega) ht), bd_s, rc_yn hRC ht, cs_s, oYn (by omega) ht (by omega), gd_t, nI_clamp (by omega), (yl hC ht hk yt).1]
theorem fd_l {u : Mm} {A : Ab} (hW : Wf A) (hC : CR u A) {f t k : Nat} (hf : f < 6) (ht : t < 4) (hk : k ≤ 40) (yt : aI A 35 t = nI k) {p2 p3 p4 p5 : Int32} {K : Int32 → Int32 → Mm → Option (Int32 × Mm)} : ∀ (d n j : Nat), j + d = an A → d < n →
    L_X7_find_84 0 (nI f) p2 p3 p4 p5 (25 + 2 * t) K n (nI (cf (fP A f p2 p3 p4) 0 j)) (nI j) (rL u (26 + 2 * t) (rw' (fV A f p2 p3 p4 (aI A 34 t)) k (gL u (26 + 2 * t)) 0 (cf (fP A f p2 p3 p4) 0 j))) = K (nI (cf (fP A f p2 p3 p4) 0 (an A))) (nI (an A)) (rL u (26 + 2 * t) (rw' (fV A f p2 p3 p4 (aI A 34 t)) k (gL u (26 + 2 * t)) 0 (cf (fP A f p2 p3 p4) 0 (an A)))) := by
  have h80 := hW.1.1
  intro d
  induction d with
  | zero =>
    intro n j h1 h2
    obtain ⟨n, rfl⟩ : ∃ m, n = m + 1 := ⟨n - 1, by omega⟩
    have e : j = an A := by omega
    subst e
    have hC' := CR_find hC ht hk (fV A f p2 p3 p4 (aI A 34 t)) yt (cf (fP A f p2 p3 p4) 0 (an A))
    generalize rL u (26 + 2 * t) (rw' (fV A f p2 p3 p4 (aI A 34 t)) k (gL u (26 + 2 * t)) 0 (cf (fP A f p2 p3 p4) 0 (an A))) = v at *
    obtain ⟨hRC, hN, -⟩ := hC'
    have hn := hN.1
    have h60 : 60 ≤ v.1 := by omega
    have h7 : gI v 2 1 = nI (an A) := hN.2
    have hle : nI (an A) ≤ nI (an A) := nI_le (Nat.le_refl _) (by omega)
    simp (disch := first | exact h60 | omega | with_unfolding_all exact h60) only [L_X7_find_84, h7, eq_true hle, ↓bb_e, ↓c_sI, ↓o_sI, ↓a_sI, ↓c_sL, ↓o_sL, ↓a_sL, ↓c_rI, ↓o_rI, ↓a_rI, ↓c_rL, ↓o_rL, ↓a_rL, ↓c_rngI, ↓o_rngI, ↓a_rngI, ↓c_rngL, ↓o_rngL, ↓a_rngL, ↓bd_s, ↓cs_s, ↓cs_n, ↓gd_t, ↓gB0, ↓gB1, ↓gOT, ↓gAS, ↓gOY, ↓gAY, ↓reduceIte, d10, nI_clamp, nI_1', i0eq, ↓gO0 h60, ↓gO2 h60, ↓gO6 h60, ↓gO10 h60, ↓gO11 h60, ↓gO14 h60, ↓gO21 h60, ↓gA1 h60, ↓gA3 h60, ↓gA4 h60, ↓gA5 h60, ↓gA7 h60, ↓gA8 h60, ↓gA9 h60, ↓gA12 h60, ↓gA13 h60, ↓gA15 h60, ↓gA16 h60, ↓gA17 h60, ↓gA18 h60, ↓gA19 h60, ↓gA20 h60, ↓gA22 h60, ↓gA23 h60, ↓gA24 h60, ↓cC_0_0 hRC, ↓cC_0_1 hRC, ↓cC_0_2 hRC, ↓cC_0_3 hRC, ↓cC_0_4 hRC, ↓cC_2_0 hRC, ↓cC_2_2 hRC, ↓cC_2_3 hRC, ↓cC_6_0 hRC, ↓cC_6_1 hRC, ↓cC_6_2 hRC, ↓cC_10_0 hRC, ↓cC_10_1 hRC, ↓cC_10_2 hRC, ↓cC_10_3 hRC, ↓cC_10_4 hRC, ↓cC_10_5 hRC, ↓cC_11_0 hRC, ↓cC_11_1 hRC, ↓cC_14_0 hRC, ↓cC_14_1 hRC, ↓cC_21_0 hRC, ↓cC_21_1 hRC, ↓cC_21_2 hRC, ↓bdn7, ↓brf7, ↓bgr7, ↓ban7]
  | succ d ih =>
    intro n j h1 h2
    obtain ⟨n, rfl⟩ : ∃ m, n = m + 1 := ⟨n - 1, by omega⟩
    have hj : j < an A := by omega
    have ih := ih n (j + 1) (by omega) (by omega)
    rw [cf_snoc, Nat.zero_add] at ih
    have hcl : cf (fP A f p2 p3 p4) 0 j ≤ j := cf_le _ _ _
    have hval : fP A f p2 p3 p4 j = true → fV A f p2 p3 p4 (aI A 34 t) (cf (fP A f p2 p3 p4) 0 j) = cutv (aI A 34 t) (Int32.toInt64 (nI j)) := fun h => by
      have := kth_cf (fP A f p2 p3 p4) j (an A) 0 hj (by rw [Nat.zero_add]; exact h)
      rw [Nat.zero_add] at this
      unfold fV
      rw [this]
      rfl
    generalize hval' : fV A f p2 p3 p4 (aI A 34 t) = val at *
    generalize hc : cf (fP A f p2 p3 p4) 0 j = c at *
    have hC' := CR_find hC ht hk val yt c
    have hW' : Wf (fA A val t k c) := hW
    have hs := said_t hW' hC' hf hj
    rw [line_qL, sd_qL] at hs
    have hv := isSeen_t hW' hC' hj p3 p4
    rw [line_qL, seen_qL] at hv
    have hpl := place_t hC' (c := c) ht hk yt (by omega)
    have hput := fun hcc => put_t hC' (c := c) ht hk yt hcc (Int32.toInt64 (nI j))
    simp only [sL_rL, aI_qL] at hput
    have hst : ∀ v, c < k → v = val c → (fun x => if x = c then v else rw' val k (gL u (26 + 2 * t)) 0 c x) = rw' val k (gL u (26 + 2 * t)) 0 (c + 1) := fun v a b => by
      have := rw_s (off := 0) (g := gL u (26 + 2 * t)) a b
      rw [Nat.zero_add] at this
      exact this
    have hno := rw_n (val := val) (k := k) (g := gL u (26 + 2 * t)) (off := 0) (c := c)
    generalize hm : rL u (26 + 2 * t) (rw' val k (gL u (26 + 2 * t)) 0 c) = v at *
    obtain ⟨hRC, hN, -, -, hT, -⟩ := id hC'
    have hn := hN.1
    have h60 : 60 ≤ v.1 := by omega
    have h7 : gI v 2 1 = nI (an A) := hN.2
    have hnl : ¬ nI (an A) ≤ nI j := nI_ge (by omega) (by omega)
    obtain ⟨t1, -, t3, -⟩ := hT j hj
    have t3 : gI v (60 + 2 * j) 1 = aI A 37 j := t3
    have hn : v.1 = 60 + 2 * an A := hn
    have skip : fP A f p2 p3 p4 j = false → L_X7_find_84 0 (nI f) p2 p3 p4 p5 (25 + 2 * t) K n (nI c) (nI (j + 1)) v = K (nI (cf (fP A f p2 p3 p4) 0 (an A))) (nI (an A)) (rL u (26 + 2 * t) (rw' val k (gL u (26 + 2 * t)) 0 (cf (fP A f p2 p3 p4) 0 (an A)))) := fun h => by
      rw [h, if_neg (by decide), Nat.add_zero, hm] at ih
      exact ih
    by_cases a1 : aI A 37 j = 3
    · by_cases a2 : sd A f (line A j) = p2
      · cases a3 : seen A p3 p4 (line A j) with
        | true =>
          rw [a3, b2i_t] at hv
          have hp : fP A f p2 p3 p4 j = true := by simp [fP, a1, a2, a3]
          rw [hp, if_pos rfl] at ih
          by_cases a4 : c < k
          · rw [if_pos a4] at hpl
            have hput := hput a4
            rw [hst _ a4 (hval hp).symm] at hput
            simp (disch := first | exact h60 | omega | with_unfolding_all exact h60) only [L_X7_find_84, h7, eq_false hnl, ↓cs_of t1, t3, eq_true a1, ↓bd_of hs, eq_true a2, ↓bd_of hv, ↓bd_of hpl, ↓bd_of hput, ↓bb_e, ↓c_sI, ↓o_sI, ↓a_sI, ↓c_sL, ↓o_sL, ↓a_sL, ↓c_rI, ↓o_rI, ↓a_rI, ↓c_rL, ↓o_rL, ↓a_rL, ↓c_rngI, ↓o_rngI, ↓a_rngI, ↓c_rngL, ↓o_rngL, ↓a_rngL, ↓bd_s, ↓cs_s, ↓cs_n, ↓gd_t, ↓gB0, ↓gB1, ↓gOT, ↓gAS, ↓gOY, ↓gAY, ↓reduceIte, d10, nI_clamp, nI_1', i0eq, ↓gO0 h60, ↓gO2 h60, ↓gO6 h60, ↓gO10 h60, ↓gO11 h60, ↓gO14 h60, ↓gO21 h60, ↓gA1 h60, ↓gA3 h60, ↓gA4 h60, ↓gA5 h60, ↓gA7 h60, ↓gA8 h60, ↓gA9 h60, ↓gA12 h60, ↓gA13 h60, ↓gA15 h60, ↓gA16 h60, ↓gA17 h60, ↓gA18 h60, ↓gA19 h60, ↓gA20 h60, ↓gA22 h60, ↓gA23 h60, ↓gA24 h60, ↓cC_0_0 hRC, ↓cC_0_1 hRC, ↓cC_0_2 hRC, ↓cC_0_3 hRC, ↓cC_0_4 hRC, ↓cC_2_0 hRC, ↓cC_2_2 hRC, ↓cC_2_3 hRC, ↓cC_6_0 hRC, ↓cC_6_1 hRC, ↓cC_6_2 hRC, ↓cC_10_0 hRC, ↓cC_10_1 hRC, ↓cC_10_2 hRC, ↓cC_10_3 hRC, ↓cC_10_4 hRC, ↓cC_10_5 hRC, ↓cC_11_0 hRC, ↓cC_11_1 hRC, ↓cC_14_0 hRC, ↓cC_14_1 hRC, ↓cC_21_0 hRC, ↓cC_21_1 hRC, ↓cC_21_2 hRC, ↓bdn7, ↓brf7, ↓bgr7, ↓ban7]
            exact ih
          · rw [if_neg a4] at hpl
            rw [← hno a4, hm] at ih
            simp (disch := first | exact h60 | omega | with_unfolding_all exact h60) only [L_X7_find_84, h7, eq_false hnl, ↓cs_of t1, t3, eq_true a1, ↓bd_of hs, eq_true a2, ↓bd_of hv, ↓bd_of hpl, ↓bb_e, ↓c_sI, ↓o_sI, ↓a_sI, ↓c_sL, ↓o_sL, ↓a_sL, ↓c_rI, ↓o_rI, ↓a_rI, ↓c_rL, ↓o_rL, ↓a_rL, ↓c_rngI, ↓o_rngI, ↓a_rngI, ↓c_rngL, ↓o_rngL, ↓a_rngL, ↓bd_s, ↓cs_s, ↓cs_n, ↓gd_t, ↓gB0, ↓gB1, ↓gOT, ↓gAS, ↓gOY, ↓gAY, ↓reduceIte, d10, nI_clamp, nI_1', i0eq, ↓gO0 h60, ↓gO2 h60, ↓gO6 h60, ↓gO10 h60, ↓gO11 h60, ↓gO14 h60, ↓gO21 h60, ↓gA1 h60, ↓gA3 h60, ↓gA4 h60, ↓gA5 h60, ↓gA7 h60, ↓gA8 h60, ↓gA9 h60, ↓gA12 h60, ↓gA13 h60, ↓gA15 h60, ↓gA16 h60, ↓gA17 h60, ↓gA18 h60, ↓gA19 h60, ↓gA20 h60, ↓gA22 h60, ↓gA23 h60, ↓gA24 h60, ↓cC_0_0 hRC, ↓cC_0_1 hRC, ↓cC_0_2 hRC, ↓cC_0_3 hRC, ↓cC_0_4 hRC, ↓cC_2_0 hRC, ↓cC_2_2 hRC, ↓cC_2_3 hRC, ↓cC_6_0 hRC, ↓cC_6_1 hRC, ↓cC_6_2 hRC, ↓cC_10_0 hRC, ↓cC_10_1 hRC, ↓cC_10_2 hRC, ↓cC_10_3 hRC, ↓cC_10_4 hRC, ↓cC_10_5 hRC, ↓cC_11_0 hRC, ↓cC_11_1 hRC, ↓cC_14_0 hRC, ↓cC_14_1 hRC, ↓cC_21_0 hRC, ↓cC_21_1 hRC, ↓cC_21_2 hRC, ↓bdn7, ↓brf7, ↓bgr7, ↓ban7]
            exact ih
        | false =>
          rw [a3, b2i_f] at hv
          simp (disch := first | exact h60 | omega | with_unfolding_all exact h60) only [L_X7_find_84, h7, eq_false hnl, ↓cs_of t1, t3, eq_true a1, ↓bd_of hs, eq_true a2, ↓bd_of hv, ↓bb_e, ↓c_sI, ↓o_sI, ↓a_sI, ↓c_sL, ↓o_sL, ↓a_sL, ↓c_rI, ↓o_rI, ↓a_rI, ↓c_rL, ↓o_rL, ↓a_rL, ↓c_rngI, ↓o_rngI, ↓a_rngI, ↓c_rngL, ↓o_rngL, ↓a_rngL, ↓bd_s, ↓cs_s, ↓cs_n, ↓gd_t, ↓gB0, ↓gB1, ↓gOT, ↓gAS, ↓gOY, ↓gAY, ↓reduceIte, d10, nI_clamp, nI_1', i0eq, ↓gO0 h60, ↓gO2 h60, ↓gO6 h60, ↓gO10 h60, ↓gO11 h60, ↓gO14 h60, ↓gO21 h60, ↓gA1 h60, ↓gA3 h60, ↓gA4 h60, ↓gA5 h60, ↓gA7 h60, ↓gA8 h60, ↓gA9 h60, ↓gA12 h60, ↓gA13 h60, ↓gA15 h60, ↓gA16 h60, ↓gA17 h60, ↓gA18 h60, ↓gA19 h60, ↓gA20 h60, ↓gA22 h60, ↓gA23 h60, ↓gA24 h60, ↓cC_0_0 hRC, ↓cC_0_1 hRC, ↓cC_0_2 hRC, ↓cC_0_3 hRC, ↓cC_0_4 hRC, ↓cC_2_0 hRC, ↓cC_2_2 hRC, ↓cC_2_3 hRC, ↓cC_6_0 hRC, ↓cC_6_1 hRC, ↓cC_6_2 hRC, ↓cC_10_0 hRC, ↓cC_10_1 hRC, ↓cC_10_2 hRC, ↓cC_10_3 hRC, ↓cC_10_4 hRC, ↓cC_10_5 hRC, ↓cC_11_0 hRC, ↓cC_11_1 hRC, ↓cC_14_0 hRC, ↓cC_14_1 hRC, ↓cC_21_0 hRC, ↓cC_21_1 hRC, ↓cC_21_2 hRC, ↓bdn7, ↓brf7, ↓bgr7, ↓ban7]
          exact skip (by simp [fP, a3])
      · simp (disch := first | exact h60 | omega | with_unfolding_all exact h60) only [L_X7_find_84, h7, eq_false hnl, ↓cs_of t1, t3, eq_true a1, ↓bd_of hs, eq_false a2, ↓bb_e, ↓c_sI, ↓o_sI, ↓a_sI, ↓c_sL, ↓o_sL, ↓a_sL, ↓c_rI, ↓o_rI, ↓a_rI, ↓c_rL, ↓o_rL, ↓a_rL, ↓c_rngI, ↓o_rngI, ↓a_rngI, ↓c_rngL, ↓o_rngL, ↓a_rngL, ↓bd_s, ↓cs_s, ↓cs_n, ↓gd_t, ↓gB0, ↓gB1, ↓gOT, ↓gAS, ↓gOY, ↓gAY, ↓reduceIte, d10, nI_clamp, nI_1', i0eq, ↓gO0 h60, ↓gO2 h60, ↓gO6 h60, ↓gO10 h60, ↓gO11 h60, ↓gO14 h60, ↓gO21 h60, ↓gA1 h60, ↓gA3 h60, ↓gA4 h60, ↓gA5 h60, ↓gA7 h60, ↓gA8 h60, ↓gA9 h60, ↓gA12 h60, ↓gA13 h60, ↓gA15 h60, ↓gA16 h60, ↓gA17 h60, ↓gA18 h60, ↓gA19 h60, ↓gA20 h60, ↓gA22 h60, ↓gA23 h60, ↓gA24 h60, ↓cC_0_0 hRC, ↓cC_0_1 hRC, ↓cC_0_2 hRC, ↓cC_0_3 hRC, ↓cC_0_4 hRC, ↓cC_2_0 hRC, ↓cC_2_2 hRC, ↓cC_2_3 hRC, ↓cC_6_0 hRC, ↓cC_6_1 hRC, ↓cC_6_2 hRC, ↓cC_10_0 hRC, ↓cC_10_1 hRC, ↓cC_10_2 hRC, ↓cC_10_3 hRC, ↓cC_10_4 hRC, ↓cC_10_5 hRC, ↓cC_11_0 hRC, ↓cC_11_1 hRC, ↓cC_14_0 hRC, ↓cC_14_1 hRC, ↓cC_21_0 hRC, ↓cC_21_1 hRC, ↓cC_21_2 hRC, ↓bdn7, ↓brf7, ↓bgr7, ↓ban7]
        exact skip (by simp [fP, a2])
    · simp (disch := first | exact h60 | omega | with_unfolding_all exact h60) only [L_X7_find_84, h7, eq_false hnl, ↓cs_of t1, t3, eq_false a1, ↓bb_e, ↓c_sI, ↓o_sI, ↓a_sI, ↓c_sL, ↓o_sL, ↓a_sL, ↓c_rI, ↓o_rI, ↓a_rI, ↓c_rL, ↓o_rL, ↓a_rL, ↓c_rngI, ↓o_rngI, ↓a_rngI, ↓c_rngL, ↓o_rngL, ↓a_rngL, ↓bd_s, ↓cs_s, ↓cs_n, ↓gd_t, ↓gB0, ↓gB1, ↓gOT, ↓gAS, ↓gOY, ↓gAY, ↓reduceIte, d10, nI_clamp, nI_1', i0eq, ↓gO0 h60, ↓gO2 h60, ↓gO6 h60, ↓gO10 h60, ↓gO11 h60, ↓gO14 h60, ↓gO21 h60, ↓gA1 h60, ↓gA3 h60, ↓gA4 h60, ↓gA5 h60, ↓gA7 h60, ↓gA8 h60, ↓gA9 h60, ↓gA12 h60, ↓gA13 h60, ↓gA15 h60, ↓gA16 h60, ↓gA17 h60, ↓gA18 h60, ↓gA19 h60, ↓gA20 h60, ↓gA22 h60, ↓gA23 h60, ↓gA24 h60, ↓cC_0_0 hRC, ↓cC_0_1 hRC, ↓cC_0_2 hRC, ↓cC_0_3 hRC, ↓cC_0_4 hRC, ↓cC_2_0 hRC, ↓cC_2_2 hRC, ↓cC_2_3 hRC, ↓cC_6_0 hRC, ↓cC_6_1 hRC, ↓cC_6_2 hRC, ↓cC_10_0 hRC, ↓cC_10_1 hRC, ↓cC_10_2 hRC, ↓cC_10_3 hRC, ↓cC_10_4 hRC, ↓cC_10_5 hRC, ↓cC_11_0 hRC, ↓cC_11_1 hRC, ↓cC_14_0 hRC, ↓cC_14_1 hRC, ↓cC_21_0 hRC, ↓cC_21_1 hRC, ↓cC_21_2 hRC, ↓bdn7, ↓brf7, ↓bgr7, ↓ban7]
      exact skip (by simp [fP, a1])
theorem fd8_l {w : Mm} {A : Ab} (hW : Wf A) (hM : MR w A) {f t k : Nat} (hf : f < 6) (ht : t < 4) (hk : k ≤ 40) (yt : aI A 35 t = nI k) {p2 p3 p4 : Int32} {K : Int32 → Int32 → Mm → Option (Int32 × Mm)} : ∀ (d n j : Nat), j + d = an A → d < n →
    L_X8_find_94 33 (nI f) p2 p3 p4 (nI t) K n (nI (cf (fP A f p2 p3 p4) 0 j)) (nI j) (rL w 36 (rw' (fV A f p2 p3 p4 (aI A 34 t)) k (gL w 36) (40 * t) (cf (fP A f p2 p3 p4) 0 j))) = K (nI (cf (fP A f p2 p3 p4) 0 (an A))) (nI (an A)) (rL w 36 (rw' (fV A f p2 p3 p4 (aI A 34 t)) k (gL w 36) (40 * t) (cf (fP A f p2 p3 p4) 0 (an A)))) := by
  have h80 := hW.1.1
  intro d
  induction d with
  | zero =>
    intro n j h1 h2
    obtain ⟨n, rfl⟩ : ∃ m, n = m + 1 := ⟨n - 1, by omega⟩
    have e : j = an A := by omega
    subst e
    have hM' := MR_find hM ht hk (fV A f p2 p3 p4 (aI A 34 t)) yt (cf (fP A f p2 p3 p4) 0 (an A))
    generalize rL w 36 (rw' (fV A f p2 p3 p4 (aI A 34 t)) k (gL w 36) (40 * t) (cf (fP A f p2 p3 p4) 0 (an A))) = v at *
    obtain ⟨hRM, h60, h7, -⟩ := hM'
    have h7 : gI v 33 7 = nI (an A) := h7
    have hle : nI (an A) ≤ nI (an A) := nI_le (Nat.le_refl _) (by omega)
    simp (disch := first | exact h60 | omega | with_unfolding_all exact h60) only [L_X8_find_94, h7, eq_true hle, ↓bb_e, ↓c_sI, ↓o_sI, ↓a_sI, ↓c_sL, ↓o_sL, ↓a_sL, ↓c_rI, ↓o_rI, ↓a_rI, ↓c_rL, ↓o_rL, ↓a_rL, ↓c_rngI, ↓o_rngI, ↓a_rngI, ↓c_rngL, ↓o_rngL, ↓a_rngL, ↓bd_s, ↓cs_s, ↓cs_n, ↓gd_t, ↓gB0, ↓gB1, ↓gOT, ↓gAS, ↓gOY, ↓gAY, ↓reduceIte, d10, nI_clamp, nI_1', i0eq, ↓gO33 h60, ↓gA34 h60, ↓gA35 h60, ↓gA36 h60, ↓gA37 h60, ↓gA38 h60, ↓gA39 h60, ↓gA40 h60, ↓gA41 h60, ↓gA42 h60, ↓gA43 h60, ↓gA44 h60, ↓gA45 h60, ↓gA46 h60, ↓gA47 h60, ↓gA48 h60, ↓gA49 h60, ↓gA50 h60, ↓gA51 h60, ↓gA52 h60, ↓gA53 h60, ↓gA54 h60, ↓gA55 h60, ↓gA56 h60, ↓gA57 h60, ↓gA58 h60, ↓gA59 h60, ↓cM_4 hRM, ↓cM_5 hRM, ↓cM_6 hRM, ↓cM_8 hRM, ↓cM_9 hRM, ↓cM_10 hRM, ↓cM_11 hRM, ↓cM_12 hRM, ↓cM_13 hRM, ↓cM_14 hRM, ↓cM_15 hRM, ↓cM_16 hRM, ↓cM_17 hRM, ↓cM_18 hRM, ↓cM_19 hRM, ↓cM_20 hRM, ↓cM_21 hRM, ↓cM_23 hRM, ↓cM_24 hRM, ↓cM_25 hRM, ↓cM_26 hRM, ↓cM_27 hRM, ↓cM_28 hRM, ↓cM_29 hRM, ↓cM_30 hRM, ↓cM_32 hRM, ↓bno8, ↓brf8]
  | succ d ih =>
    intro n j h1 h2
    obtain ⟨n, rfl⟩ : ∃ m, n = m + 1 := ⟨n - 1, by omega⟩
    have hj : j < an A := by omega
    have ih := ih n (j + 1) (by omega) (by omega)
    rw [cf_snoc, Nat.zero_add] at ih
    have hcl : cf (fP A f p2 p3 p4) 0 j ≤ j := cf_le _ _ _
    have hval : fP A f p2 p3 p4 j = true → fV A f p2 p3 p4 (aI A 34 t) (cf (fP A f p2 p3 p4) 0 j) = cutv (aI A 34 t) (Int32.toInt64 (nI j)) := fun h => by
      have := kth_cf (fP A f p2 p3 p4) j (an A) 0 hj (by rw [Nat.zero_add]; exact h)
      rw [Nat.zero_add] at this
      unfold fV
      rw [this]
      rfl
    generalize hval' : fV A f p2 p3 p4 (aI A 34 t) = val at *
    generalize hc : cf (fP A f p2 p3 p4) 0 j = c at *
    have hM' := MR_find hM ht hk val yt c
    have hW' : Wf (fA A val t k c) := hW
    have hs := hasOf_t hW' hM' hf hj
    rw [line_qL, sd_qL] at hs
    have hv := seesOf_t hW' hM' hj p3 p4
    rw [line_qL, seen_qL] at hv
    have hst := fun v a b => rw_s (val := val) (k := k) (g := gL w 36) (off := 40 * t) (c := c) (v := v) a b
    have hno := rw_n (val := val) (k := k) (g := gL w 36) (off := 40 * t) (c := c)
    have hsl := fun v => sL_rL w 36 (40 * t + c) (rw' val k (gL w 36) (40 * t) c) v
    generalize hm : rL w 36 (rw' val k (gL w 36) (40 * t) c) = v at *
    obtain ⟨hRM, h60, h7, -, -, hT, hY, -⟩ := id hM'
    have h7 : gI v 33 7 = nI (an A) := h7
    have hnl : ¬ nI (an A) ≤ nI j := nI_ge (by omega) (by omega)
    have k1 : gI v 37 j = aI A 37 j := (hT.1 j hj).1
    have y1 : gI v 34 t = aI A 34 t := (hY t ht).1
    have y2 : gI v 35 t = nI k := by rw [← yt]; exact (hY t ht).2.1
    have skip : fP A f p2 p3 p4 j = false → L_X8_find_94 33 (nI f) p2 p3 p4 (nI t) K n (nI c) (nI (j + 1)) v = K (nI (cf (fP A f p2 p3 p4) 0 (an A))) (nI (an A)) (rL w 36 (rw' val k (gL w 36) (40 * t) (cf (fP A f p2 p3 p4) 0 (an A)))) := fun h => by
      rw [h, if_neg (by decide), Nat.add_zero, hm] at ih
      exact ih
    by_cases a1 : aI A 37 j = 3
    · by_cases a2 : sd A f (line A j) = p2
      · cases a3 : seen A p3 p4 (line A j) with
        | true =>
          rw [a3, b2i_t] at hv
          have hp : fP A f p2 p3 p4 j = true := by simp [fP, a1, a2, a3]
          rw [hp, if_pos rfl] at ih
          by_cases a4 : c < k
          · have a5 : ¬ nI k ≤ nI c := nI_ge a4 (by omega)
            simp (disch := first | exact h60 | omega | with_unfolding_all exact h60) only [L_X8_find_94, h7, eq_false hnl, k1, eq_true a1, ↓bd_of hs, eq_true a2, ↓bd_of hv, y2, eq_false a5, y1, ↓bd_of (cut8 _ _ _), ix40, ↓bb_e, ↓c_sI, ↓o_sI, ↓a_sI, ↓c_sL, ↓o_sL, ↓a_sL, ↓c_rI, ↓o_rI, ↓a_rI, ↓c_rL, ↓o_rL, ↓a_rL, ↓c_rngI, ↓o_rngI, ↓a_rngI, ↓c_rngL, ↓o_rngL, ↓a_rngL, ↓bd_s, ↓cs_s, ↓cs_n, ↓gd_t, ↓gB0, ↓gB1, ↓gOT, ↓gAS, ↓gOY, ↓gAY, ↓reduceIte, d10, nI_clamp, nI_1', i0eq, ↓gO33 h60, ↓gA34 h60, ↓gA35 h60, ↓gA36 h60, ↓gA37 h60, ↓gA38 h60, ↓gA39 h60, ↓gA40 h60, ↓gA41 h60, ↓gA42 h60, ↓gA43 h60, ↓gA44 h60, ↓gA45 h60, ↓gA46 h60, ↓gA47 h60, ↓gA48 h60, ↓gA49 h60, ↓gA50 h60, ↓gA51 h60, ↓gA52 h60, ↓gA53 h60, ↓gA54 h60, ↓gA55 h60, ↓gA56 h60, ↓gA57 h60, ↓gA58 h60, ↓gA59 h60, ↓cM_4 hRM, ↓cM_5 hRM, ↓cM_6 hRM, ↓cM_8 hRM, ↓cM_9 hRM, ↓cM_10 hRM, ↓cM_11 hRM, ↓cM_12 hRM, ↓cM_13 hRM, ↓cM_14 hRM, ↓cM_15 hRM, ↓cM_16 hRM, ↓cM_17 hRM, ↓cM_18 hRM, ↓cM_19 hRM, ↓cM_20 hRM, ↓cM_21 hRM, ↓cM_23 hRM, ↓cM_24 hRM, ↓cM_25 hRM, ↓cM_26 hRM, ↓cM_27 hRM, ↓cM_28 hRM, ↓cM_29 hRM, ↓cM_30 hRM, ↓cM_32 hRM, ↓bno8, ↓brf8]
            rw [hsl, hst _ a4 (hval hp).symm]
            exact ih
          · have a5 : nI k ≤ nI c := nI_le (by omega) (by omega)
            rw [← hno a4, hm] at ih
            simp (disch := first | exact h60 | omega | with_unfolding_all exact h60) only [L_X8_find_94, h7, eq_false hnl, k1, eq_true a1, ↓bd_of hs, eq_true a2, ↓bd_of hv, y2, eq_true a5, ↓bb_e, ↓c_sI, ↓o_sI, ↓a_sI, ↓c_sL, ↓o_sL, ↓a_sL, ↓c_rI, ↓o_rI, ↓a_rI, ↓c_rL, ↓o_rL, ↓a_rL, ↓c_rngI, ↓o_rngI, ↓a_rngI, ↓c_rngL, ↓o_rngL, ↓a_rngL, ↓bd_s, ↓cs_s, ↓cs_n, ↓gd_t, ↓gB0, ↓gB1, ↓gOT, ↓gAS, ↓gOY, ↓gAY, ↓reduceIte, d10, nI_clamp, nI_1', i0eq, ↓gO33 h60, ↓gA34 h60, ↓gA35 h60, ↓gA36 h60, ↓gA37 h60, ↓gA38 h60, ↓gA39 h60, ↓gA40 h60, ↓gA41 h60, ↓gA42 h60, ↓gA43 h60, ↓gA44 h60, ↓gA45 h60, ↓gA46 h60, ↓gA47 h60, ↓gA48 h60, ↓gA49 h60, ↓gA50 h60, ↓gA51 h60, ↓gA52 h60, ↓gA53 h60, ↓gA54 h60, ↓gA55 h60, ↓gA56 h60, ↓gA57 h60, ↓gA58 h60, ↓gA59 h60, ↓cM_4 hRM, ↓cM_5 hRM, ↓cM_6 hRM, ↓cM_8 hRM, ↓cM_9 hRM, ↓cM_10 hRM, ↓cM_11 hRM, ↓cM_12 hRM, ↓cM_13 hRM, ↓cM_14 hRM, ↓cM_15 hRM, ↓cM_16 hRM, ↓cM_17 hRM, ↓cM_18 hRM, ↓cM_19 hRM, ↓cM_20 hRM, ↓cM_21 hRM, ↓cM_23 hRM, ↓cM_24 hRM, ↓cM_25 hRM, ↓cM_26 hRM, ↓cM_27 hRM, ↓cM_28 hRM, ↓cM_29 hRM, ↓cM_30 hRM, ↓cM_32 hRM, ↓bno8, ↓brf8]
            exact ih
        | false =>
          rw [a3, b2i_f] at hv
          simp (disch := first | exact h60 | omega | with_unfolding_all exact h60) only [L_X8_find_94, h7, eq_false hnl, k1, eq_true a1, ↓bd_of hs, eq_true a2, ↓bd_of hv, ↓bb_e, ↓c_sI, ↓o_sI, ↓a_sI, ↓c_sL, ↓o_sL, ↓a_sL, ↓c_rI, ↓o_rI, ↓a_rI, ↓c_rL, ↓o_rL, ↓a_rL, ↓c_rngI, ↓o_rngI, ↓a_rngI, ↓c_rngL, ↓o_rngL, ↓a_rngL, ↓bd_s, ↓cs_s, ↓cs_n, ↓gd_t, ↓gB0, ↓gB1, ↓gOT, ↓gAS, ↓gOY, ↓gAY, ↓reduceIte, d10, nI_clamp, nI_1', i0eq, ↓gO33 h60, ↓gA34 h60, ↓gA35 h60, ↓gA36 h60, ↓gA37 h60, ↓gA38 h60, ↓gA39 h60, ↓gA40 h60, ↓gA41 h60, ↓gA42 h60, ↓gA43 h60, ↓gA44 h60, ↓gA45 h60, ↓gA46 h60, ↓gA47 h60, ↓gA48 h60, ↓gA49 h60, ↓gA50 h60, ↓gA51 h60, ↓gA52 h60, ↓gA53 h60, ↓gA54 h60, ↓gA55 h60, ↓gA56 h60, ↓gA57 h60, ↓gA58 h60, ↓gA59 h60, ↓cM_4 hRM, ↓cM_5 hRM, ↓cM_6 hRM, ↓cM_8 hRM, ↓cM_9 hRM, ↓cM_10 hRM, ↓cM_11 hRM, ↓cM_12 hRM, ↓cM_13 hRM, ↓cM_14 hRM, ↓cM_15 hRM, ↓cM_16 hRM, ↓cM_17 hRM, ↓cM_18 hRM, ↓cM_19 hRM, ↓cM_20 hRM, ↓cM_21 hRM, ↓cM_23 hRM, ↓cM_24 hRM, ↓cM_25 hRM, ↓cM_26 hRM, ↓cM_27 hRM, ↓cM_28 hRM, ↓cM_29 hRM, ↓cM_30 hRM, ↓cM_32 hRM, ↓bno8, ↓brf8]
          exact skip (by simp [fP, a3])
      · simp (disch := first | exact h60 | omega | with_unfolding_all exact h60) only [L_X8_find_94, h7, eq_false hnl, k1, eq_true a1, ↓bd_of hs, eq_false a2, ↓bb_e, ↓c_sI, ↓o_sI, ↓a_sI, ↓c_sL, ↓o_sL, ↓a_sL, ↓c_rI, ↓o_rI, ↓a_rI, ↓c_rL, ↓o_rL, ↓a_rL, ↓c_rngI, ↓o_rngI, ↓a_rngI, ↓c_rngL, ↓o_rngL, ↓a_rngL, ↓bd_s, ↓cs_s, ↓cs_n, ↓gd_t, ↓gB0, ↓gB1, ↓gOT, ↓gAS, ↓gOY, ↓gAY, ↓reduceIte, d10, nI_clamp, nI_1', i0eq, ↓gO33 h60, ↓gA34 h60, ↓gA35 h60, ↓gA36 h60, ↓gA37 h60, ↓gA38 h60, ↓gA39 h60, ↓gA40 h60, ↓gA41 h60, ↓gA42 h60, ↓gA43 h60, ↓gA44 h60, ↓gA45 h60, ↓gA46 h60, ↓gA47 h60, ↓gA48 h60, ↓gA49 h60, ↓gA50 h60, ↓gA51 h60, ↓gA52 h60, ↓gA53 h60, ↓gA54 h60, ↓gA55 h60, ↓gA56 h60, ↓gA57 h60, ↓gA58 h60, ↓gA59 h60, ↓cM_4 hRM, ↓cM_5 hRM, ↓cM_6 hRM, ↓cM_8 hRM, ↓cM_9 hRM, ↓cM_10 hRM, ↓cM_11 hRM, ↓cM_12 hRM, ↓cM_13 hRM, ↓cM_14 hRM, ↓cM_15 hRM, ↓cM_16 hRM, ↓cM_17 hRM, ↓cM_18 hRM, ↓cM_19 hRM, ↓cM_20 hRM, ↓cM_21 hRM, ↓cM_23 hRM, ↓cM_24 hRM, ↓cM_25 hRM, ↓cM_26 hRM, ↓cM_27 hRM, ↓cM_28 hRM, ↓cM_29 hRM, ↓cM_30 hRM, ↓cM_32 hRM, ↓bno8, ↓brf8]
        exact skip (by simp [fP, a2])
    · simp (disch := first | exact h60 | omega | with_unfolding_all exact h60) only [L_X8_find_94, h7, eq_false hnl, k1, eq_false a1, ↓bb_e, ↓c_sI, ↓o_sI, ↓a_sI, ↓c_sL, ↓o_sL, ↓a_sL, ↓c_rI, ↓o_rI, ↓a_rI, ↓c_rL, ↓o_rL, ↓a_rL, ↓c_rngI, ↓o_rngI, ↓a_rngI, ↓c_rngL, ↓o_rngL, ↓a_rngL, ↓bd_s, ↓cs_s, ↓cs_n, ↓gd_t, ↓gB0, ↓gB1, ↓gOT, ↓gAS, ↓gOY, ↓gAY, ↓reduceIte, d10, nI_clamp, nI_1', i0eq, ↓gO33 h60, ↓gA34 h60, ↓gA35 h60, ↓gA36 h60, ↓gA37 h60, ↓gA38 h60, ↓gA39 h60, ↓gA40 h60, ↓gA41 h60, ↓gA42 h60, ↓gA43 h60, ↓gA44 h60, ↓gA45 h60, ↓gA46 h60, ↓gA47 h60, ↓gA48 h60, ↓gA49 h60, ↓gA50 h60, ↓gA51 h60, ↓gA52 h60, ↓gA53 h60, ↓gA54 h60, ↓gA55 h60, ↓gA56 h60, ↓gA57 h60, ↓gA58 h60, ↓gA59 h60, ↓cM_4 hRM, ↓cM_5 hRM, ↓cM_6 hRM, ↓cM_8 hRM, ↓cM_9 hRM, ↓cM_10 hRM, ↓cM_11 hRM, ↓cM_12 hRM, ↓cM_13 hRM, ↓cM_14 hRM, ↓cM_15 hRM, ↓cM_16 hRM, ↓cM_17 hRM, ↓cM_18 hRM, ↓cM_19 hRM, ↓cM_20 hRM, ↓cM_21 hRM, ↓cM_23 hRM, ↓cM_24 hRM, ↓cM_25 hRM, ↓cM_26 hRM, ↓cM_27 hRM, ↓cM_28 hRM, ↓cM_29 hRM, ↓cM_30 hRM, ↓cM_32 hRM, ↓bno8, ↓brf8]
      exact skip (by simp [fP, a1])
theorem fP_st (A : Ab) (c : Int32) (f : Nat) (p2 p3 p4 : Int32) : fP (st A c) f p2 p3 p4 = fP A f p2 p3 p4 := by
  funext j
  unfold fP
  rw [aI_st (by omega), line_st, sd_st, seen_st]
theorem fV_st (A : Ab) (c : Int32) (f : Nat) (p2 p3 p4 s : Int32) : fV (st A c) f p2 p3 p4 s = fV A f p2 p3 p4 s := by
  funext j
  unfold fV
  rw [fP_st]
  rfl
-- FIND
theorem P_find {u : Mm} (hI : Inv u) (p1 p2 p3 p4 p5 : Int32) : Pq (f_X7_find 0 p1 p2 p3 p4 p5) (f_X8_find 33 p1 p2 p3 p4 p5) u := by
  obtain ⟨A, hW, hC, hM⟩ := hI
  obtain ⟨hRC, hN, hS, hF, hT, hPc, hY, hLg, hSh⟩ := id hC
  obtain ⟨hRM, h60, h7, hMs, hMf, hMt, hMy, hMl⟩ := id hM
  have h80 : an A ≤ 80 := hW.1.1
  have hn := hN.1
  by_cases h5 : 0 ≤ p5.toInt ∧ p5.toInt < 4
  · obtain ⟨t, ht, rfl⟩ := i_ex2 (n := 4) h5
    have hta := ta_some hC ht
    have b1 : ¬ nI t < 0 := nI_pos (by omega)
    have b2 : nI t < 4 := by rw [show (4 : Int32) = nI 4 from rfl]; exact nI_lt ht (by omega)
    by_cases h1 : 0 ≤ p1.toInt ∧ p1.toInt < 6
    · have h1' := h1
      obtain ⟨f, hf, rfl⟩ := i_ex2 (n := 6) h1
      by_cases h3 : 0 ≤ p3.toInt ∧ p3.toInt < 16
      · by_cases yt : aI A 35 t = -1
        · refine leaf_st (A := A) (-1) 3 0 hW hC hM ?_ ?_
          · simp (disch := first | exact h60 | omega | with_unfolding_all exact h60) only [f_X7_find, ↓bd_of hta, ↓bd_of (isF_t u h1'), ↓bd_of (isP_t u h3), ↓bd_of (miss_t hC ht yt), ↓bb_e, ↓c_sI, ↓o_sI, ↓a_sI, ↓c_sL, ↓o_sL, ↓a_sL, ↓c_rI, ↓o_rI, ↓a_rI, ↓c_rL, ↓o_rL, ↓a_rL, ↓c_rngI, ↓o_rngI, ↓a_rngI, ↓c_rngL, ↓o_rngL, ↓a_rngL, ↓bd_s, ↓cs_s, ↓cs_n, ↓gd_t, ↓gB0, ↓gB1, ↓gOT, ↓gAS, ↓gOY, ↓gAY, ↓reduceIte, d10, nI_clamp, nI_1', i0eq, ↓gO0 h60, ↓gO2 h60, ↓gO6 h60, ↓gO10 h60, ↓gO11 h60, ↓gO14 h60, ↓gO21 h60, ↓gA1 h60, ↓gA3 h60, ↓gA4 h60, ↓gA5 h60, ↓gA7 h60, ↓gA8 h60, ↓gA9 h60, ↓gA12 h60, ↓gA13 h60, ↓gA15 h60, ↓gA16 h60, ↓gA17 h60, ↓gA18 h60, ↓gA19 h60, ↓gA20 h60, ↓gA22 h60, ↓gA23 h60, ↓gA24 h60, ↓cC_0_0 hRC, ↓cC_0_1 hRC, ↓cC_0_2 hRC, ↓cC_0_3 hRC, ↓cC_0_4 hRC, ↓cC_2_0 hRC, ↓cC_2_2 hRC, ↓cC_2_3 hRC, ↓cC_6_0 hRC, ↓cC_6_1 hRC, ↓cC_6_2 hRC, ↓cC_10_0 hRC, ↓cC_10_1 hRC, ↓cC_10_2 hRC, ↓cC_10_3 hRC, ↓cC_10_4 hRC, ↓cC_10_5 hRC, ↓cC_11_0 hRC, ↓cC_11_1 hRC, ↓cC_14_0 hRC, ↓cC_14_1 hRC, ↓cC_21_0 hRC, ↓cC_21_1 hRC, ↓cC_21_2 hRC, ↓bdn7, ↓brf7, ↓bgr7, ↓ban7]
          · have k2 : gI (sI (sI (sI u 0 5 3) 33 1 0) 33 0 0) 35 t = -1 := by rw [← yt]; exact (hMy t ht).2.1
            have c1 : ¬ (0 : Int32) ≤ -1 := by decide
            rw [f_X8_find, oO33 (u := sI u 0 5 3) h60, gd_t]
            have hM' := MR_k hM 3
            unfold m0 at hM'
            generalize sI (sI (sI u 0 5 3) 33 1 0) 33 0 0 = w at *
            clear h60 hRM
            obtain ⟨hRM, h60, -⟩ := hM'
            simp (disch := first | exact h60 | omega | with_unfolding_all exact h60) only [eq_false b1, eq_true b2, ↓bd_of (mF_t _ h1'), ↓bd_of (mP_t _ h3), k2, eq_false c1, ↓bb_e, ↓c_sI, ↓o_sI, ↓a_sI, ↓c_sL, ↓o_sL, ↓a_sL, ↓c_rI, ↓o_rI, ↓a_rI, ↓c_rL, ↓o_rL, ↓a_rL, ↓c_rngI, ↓o_rngI, ↓a_rngI, ↓c_rngL, ↓o_rngL, ↓a_rngL, ↓bd_s, ↓cs_s, ↓cs_n, ↓gd_t, ↓gB0, ↓gB1, ↓gOT, ↓gAS, ↓gOY, ↓gAY, ↓reduceIte, d10, nI_clamp, nI_1', i0eq, ↓gO33 h60, ↓gA34 h60, ↓gA35 h60, ↓gA36 h60, ↓gA37 h60, ↓gA38 h60, ↓gA39 h60, ↓gA40 h60, ↓gA41 h60, ↓gA42 h60, ↓gA43 h60, ↓gA44 h60, ↓gA45 h60, ↓gA46 h60, ↓gA47 h60, ↓gA48 h60, ↓gA49 h60, ↓gA50 h60, ↓gA51 h60, ↓gA52 h60, ↓gA53 h60, ↓gA54 h60, ↓gA55 h60, ↓gA56 h60, ↓gA57 h60, ↓gA58 h60, ↓gA59 h60, ↓cM_4 hRM, ↓cM_5 hRM, ↓cM_6 hRM, ↓cM_8 hRM, ↓cM_9 hRM, ↓cM_10 hRM, ↓cM_11 hRM, ↓cM_12 hRM, ↓cM_13 hRM, ↓cM_14 hRM, ↓cM_15 hRM, ↓cM_16 hRM, ↓cM_17 hRM, ↓cM_18 hRM, ↓cM_19 hRM, ↓cM_20 hRM, ↓cM_21 hRM, ↓cM_23 hRM, ↓cM_24 hRM, ↓cM_25 hRM, ↓cM_26 hRM, ↓cM_27 hRM, ↓cM_28 hRM, ↓cM_29 hRM, ↓cM_30 hRM, ↓cM_32 hRM, ↓bno8, ↓brf8]
        · obtain ⟨k, hk, yt⟩ : ∃ k, k ≤ 40 ∧ aI A 35 t = nI k := by
            have := (hW.2.2.2.2.1 t ht).2
            have := i_ne yt
            obtain ⟨k, hk, e⟩ := i_ex2 (p := aI A 35 t) (n := 41) (by omega)
            exact ⟨k, by omega, e⟩
          have hms := miss_f hW hC ht hk yt
          have c1 : 0 ≤ nI k := nI_pos' (by omega)
          have refuse : ¬ ((0 ≤ p2.toInt ∧ p2.toInt ≤ 999) ∧ 0 ≤ p4.toInt ∧ p4.toInt ≤ 300000) → Pq (f_X7_find 0 (nI f) p2 p3 p4 (nI t)) (f_X8_find 33 (nI f) p2 p3 p4 (nI t)) u := fun hx => by
            refine leaf_st (A := A) (-1) 5 0 hW hC hM ?_ ?_
            · by_cases h2 : 0 ≤ p2.toInt ∧ p2.toInt ≤ 999
              · have h4 : ¬ (0 ≤ p4.toInt ∧ p4.toInt ≤ 300000) := fun q => hx ⟨h2, q⟩
                simp (disch := first | exact h60 | omega | with_unfolding_all exact h60) only [f_X7_find, ↓bd_of hta, ↓bd_of (isF_t u h1'), ↓bd_of (isP_t u h3), ↓bd_of hms, ↓bd_of (wi_t (p := p2) (a := 0) (b := 999) u (by rw [li_0, li_999]; exact h2)), ↓bd_of (isD_f u h4), ↓bb_e, ↓c_sI, ↓o_sI, ↓a_sI, ↓c_sL, ↓o_sL, ↓a_sL, ↓c_rI, ↓o_rI, ↓a_rI, ↓c_rL, ↓o_rL, ↓a_rL, ↓c_rngI, ↓o_rngI, ↓a_rngI, ↓c_rngL, ↓o_rngL, ↓a_rngL, ↓bd_s, ↓cs_s, ↓cs_n, ↓gd_t, ↓gB0, ↓gB1, ↓gOT, ↓gAS, ↓gOY, ↓gAY, ↓reduceIte, d10, nI_clamp, nI_1', i0eq, ↓gO0 h60, ↓gO2 h60, ↓gO6 h60, ↓gO10 h60, ↓gO11 h60, ↓gO14 h60, ↓gO21 h60, ↓gA1 h60, ↓gA3 h60, ↓gA4 h60, ↓gA5 h60, ↓gA7 h60, ↓gA8 h60, ↓gA9 h60, ↓gA12 h60, ↓gA13 h60, ↓gA15 h60, ↓gA16 h60, ↓gA17 h60, ↓gA18 h60, ↓gA19 h60, ↓gA20 h60, ↓gA22 h60, ↓gA23 h60, ↓gA24 h60, ↓cC_0_0 hRC, ↓cC_0_1 hRC, ↓cC_0_2 hRC, ↓cC_0_3 hRC, ↓cC_0_4 hRC, ↓cC_2_0 hRC, ↓cC_2_2 hRC, ↓cC_2_3 hRC, ↓cC_6_0 hRC, ↓cC_6_1 hRC, ↓cC_6_2 hRC, ↓cC_10_0 hRC, ↓cC_10_1 hRC, ↓cC_10_2 hRC, ↓cC_10_3 hRC, ↓cC_10_4 hRC, ↓cC_10_5 hRC, ↓cC_11_0 hRC, ↓cC_11_1 hRC, ↓cC_14_0 hRC, ↓cC_14_1 hRC, ↓cC_21_0 hRC, ↓cC_21_1 hRC, ↓cC_21_2 hRC, ↓bdn7, ↓brf7, ↓bgr7, ↓ban7]
              · simp (disch := first | exact h60 | omega | with_unfolding_all exact h60) only [f_X7_find, ↓bd_of hta, ↓bd_of (isF_t u h1'), ↓bd_of (isP_t u h3), ↓bd_of hms, ↓bd_of (wi_f (p := p2) (a := 0) (b := 999) u (by rw [li_0, li_999]; exact h2)), ↓bb_e, ↓c_sI, ↓o_sI, ↓a_sI, ↓c_sL, ↓o_sL, ↓a_sL, ↓c_rI, ↓o_rI, ↓a_rI, ↓c_rL, ↓o_rL, ↓a_rL, ↓c_rngI, ↓o_rngI, ↓a_rngI, ↓c_rngL, ↓o_rngL, ↓a_rngL, ↓bd_s, ↓cs_s, ↓cs_n, ↓gd_t, ↓gB0, ↓gB1, ↓gOT, ↓gAS, ↓gOY, ↓gAY, ↓reduceIte, d10, nI_clamp, nI_1', i0eq, ↓gO0 h60, ↓gO2 h60, ↓gO6 h60, ↓gO10 h60, ↓gO11 h60, ↓gO14 h60, ↓gO21 h60, ↓gA1 h60, ↓gA3 h60, ↓gA4 h60, ↓gA5 h60, ↓gA7 h60, ↓gA8 h60, ↓gA9 h60, ↓gA12 h60, ↓gA13 h60, ↓gA15 h60, ↓gA16 h60, ↓gA17 h60, ↓gA18 h60, ↓gA19 h60, ↓gA20 h60, ↓gA22 h60, ↓gA23 h60, ↓gA24 h60, ↓cC_0_0 hRC, ↓cC_0_1 hRC, ↓cC_0_2 hRC, ↓cC_0_3 hRC, ↓cC_0_4 hRC, ↓cC_2_0 hRC, ↓cC_2_2 hRC, ↓cC_2_3 hRC, ↓cC_6_0 hRC, ↓cC_6_1 hRC, ↓cC_6_2 hRC, ↓cC_10_0 hRC, ↓cC_10_1 hRC, ↓cC_10_2 hRC, ↓cC_10_3 hRC, ↓cC_10_4 hRC, ↓cC_10_5 hRC, ↓cC_11_0 hRC, ↓cC_11_1 hRC, ↓cC_14_0 hRC, ↓cC_14_1 hRC, ↓cC_21_0 hRC, ↓cC_21_1 hRC, ↓cC_21_2 hRC, ↓bdn7, ↓brf7, ↓bgr7, ↓ban7]
            · have k2 : gI (sI (sI (sI u 0 5 5) 33 1 0) 33 0 0) 35 t = nI k := by rw [← yt]; exact (hMy t ht).2.1
              rw [f_X8_find, oO33 (u := sI u 0 5 5) h60, gd_t]
              have hM' := MR_k hM 5
              unfold m0 at hM'
              generalize sI (sI (sI u 0 5 5) 33 1 0) 33 0 0 = w at *
              clear h60 hRM
              obtain ⟨hRM, h60, -⟩ := hM'
              by_cases d1 : p2 < 0
              · simp (disch := first | exact h60 | omega | with_unfolding_all exact h60) only [eq_false b1, eq_true b2, ↓bd_of (mF_t _ h1'), ↓bd_of (mP_t _ h3), k2, eq_true c1, eq_true d1, ↓bb_e, ↓c_sI, ↓o_sI, ↓a_sI, ↓c_sL, ↓o_sL, ↓a_sL, ↓c_rI, ↓o_rI, ↓a_rI, ↓c_rL, ↓o_rL, ↓a_rL, ↓c_rngI, ↓o_rngI, ↓a_rngI, ↓c_rngL, ↓o_rngL, ↓a_rngL, ↓bd_s, ↓cs_s, ↓cs_n, ↓gd_t, ↓gB0, ↓gB1, ↓gOT, ↓gAS, ↓gOY, ↓gAY, ↓reduceIte, d10, nI_clamp, nI_1', i0eq, ↓gO33 h60, ↓gA34 h60, ↓gA35 h60, ↓gA36 h60, ↓gA37 h60, ↓gA38 h60, ↓gA39 h60, ↓gA40 h60, ↓gA41 h60, ↓gA42 h60, ↓gA43 h60, ↓gA44 h60, ↓gA45 h60, ↓gA46 h60, ↓gA47 h60, ↓gA48 h60, ↓gA49 h60, ↓gA50 h60, ↓gA51 h60, ↓gA52 h60, ↓gA53 h60, ↓gA54 h60, ↓gA55 h60, ↓gA56 h60, ↓gA57 h60, ↓gA58 h60, ↓gA59 h60, ↓cM_4 hRM, ↓cM_5 hRM, ↓cM_6 hRM, ↓cM_8 hRM, ↓cM_9 hRM, ↓cM_10 hRM, ↓cM_11 hRM, ↓cM_12 hRM, ↓cM_13 hRM, ↓cM_14 hRM, ↓cM_15 hRM, ↓cM_16 hRM, ↓cM_17 hRM, ↓cM_18 hRM, ↓cM_19 hRM, ↓cM_20 hRM, ↓cM_21 hRM, ↓cM_23 hRM, ↓cM_24 hRM, ↓cM_25 hRM, ↓cM_26 hRM, ↓cM_27 hRM, ↓cM_28 hRM, ↓cM_29 hRM, ↓cM_30 hRM, ↓cM_32 hRM, ↓bno8, ↓brf8]
              · by_cases d2 : 999 < p2
                · simp (disch := first | exact h60 | omega | with_unfolding_all exact h60) only [eq_false b1, eq_true b2, ↓bd_of (mF_t _ h1'), ↓bd_of (mP_t _ h3), k2, eq_true c1, eq_false d1, eq_true d2, ↓bb_e, ↓c_sI, ↓o_sI, ↓a_sI, ↓c_sL, ↓o_sL, ↓a_sL, ↓c_rI, ↓o_rI, ↓a_rI, ↓c_rL, ↓o_rL, ↓a_rL, ↓c_rngI, ↓o_rngI, ↓a_rngI, ↓c_rngL, ↓o_rngL, ↓a_rngL, ↓bd_s, ↓cs_s, ↓cs_n, ↓gd_t, ↓gB0, ↓gB1, ↓gOT, ↓gAS, ↓gOY, ↓gAY, ↓reduceIte, d10, nI_clamp, nI_1', i0eq, ↓gO33 h60, ↓gA34 h60, ↓gA35 h60, ↓gA36 h60, ↓gA37 h60, ↓gA38 h60, ↓gA39 h60, ↓gA40 h60, ↓gA41 h60, ↓gA42 h60, ↓gA43 h60, ↓gA44 h60, ↓gA45 h60, ↓gA46 h60, ↓gA47 h60, ↓gA48 h60, ↓gA49 h60, ↓gA50 h60, ↓gA51 h60, ↓gA52 h60, ↓gA53 h60, ↓gA54 h60, ↓gA55 h60, ↓gA56 h60, ↓gA57 h60, ↓gA58 h60, ↓gA59 h60, ↓cM_4 hRM, ↓cM_5 hRM, ↓cM_6 hRM, ↓cM_8 hRM, ↓cM_9 hRM, ↓cM_10 hRM, ↓cM_11 hRM, ↓cM_12 hRM, ↓cM_13 hRM, ↓cM_14 hRM, ↓cM_15 hRM, ↓cM_16 hRM, ↓cM_17 hRM, ↓cM_18 hRM, ↓cM_19 hRM, ↓cM_20 hRM, ↓cM_21 hRM, ↓cM_23 hRM, ↓cM_24 hRM, ↓cM_25 hRM, ↓cM_26 hRM, ↓cM_27 hRM, ↓cM_28 hRM, ↓cM_29 hRM, ↓cM_30 hRM, ↓cM_32 hRM, ↓bno8, ↓brf8]
                · have h4 : ¬ (0 ≤ p4.toInt ∧ p4.toInt ≤ 300000) := fun q => hx ⟨by rw [i_lt, li_0] at d1; rw [i_lt, li_999] at d2; omega, q⟩
                  simp (disch := first | exact h60 | omega | with_unfolding_all exact h60) only [eq_false b1, eq_true b2, ↓bd_of (mF_t _ h1'), ↓bd_of (mP_t _ h3), k2, eq_true c1, eq_false d1, eq_false d2, ↓bd_of (mD_f w h4), ↓bb_e, ↓c_sI, ↓o_sI, ↓a_sI, ↓c_sL, ↓o_sL, ↓a_sL, ↓c_rI, ↓o_rI, ↓a_rI, ↓c_rL, ↓o_rL, ↓a_rL, ↓c_rngI, ↓o_rngI, ↓a_rngI, ↓c_rngL, ↓o_rngL, ↓a_rngL, ↓bd_s, ↓cs_s, ↓cs_n, ↓gd_t, ↓gB0, ↓gB1, ↓gOT, ↓gAS, ↓gOY, ↓gAY, ↓reduceIte, d10, nI_clamp, nI_1', i0eq, ↓gO33 h60, ↓gA34 h60, ↓gA35 h60, ↓gA36 h60, ↓gA37 h60, ↓gA38 h60, ↓gA39 h60, ↓gA40 h60, ↓gA41 h60, ↓gA42 h60, ↓gA43 h60, ↓gA44 h60, ↓gA45 h60, ↓gA46 h60, ↓gA47 h60, ↓gA48 h60, ↓gA49 h60, ↓gA50 h60, ↓gA51 h60, ↓gA52 h60, ↓gA53 h60, ↓gA54 h60, ↓gA55 h60, ↓gA56 h60, ↓gA57 h60, ↓gA58 h60, ↓gA59 h60, ↓cM_4 hRM, ↓cM_5 hRM, ↓cM_6 hRM, ↓cM_8 hRM, ↓cM_9 hRM, ↓cM_10 hRM, ↓cM_11 hRM, ↓cM_12 hRM, ↓cM_13 hRM, ↓cM_14 hRM, ↓cM_15 hRM, ↓cM_16 hRM, ↓cM_17 hRM, ↓cM_18 hRM, ↓cM_19 hRM, ↓cM_20 hRM, ↓cM_21 hRM, ↓cM_23 hRM, ↓cM_24 hRM, ↓cM_25 hRM, ↓cM_26 hRM, ↓cM_27 hRM, ↓cM_28 hRM, ↓cM_29 hRM, ↓cM_30 hRM, ↓cM_32 hRM, ↓bno8, ↓brf8]
          by_cases hx : ¬ ((0 ≤ p2.toInt ∧ p2.toInt ≤ 999) ∧ 0 ≤ p4.toInt ∧ p4.toInt ≤ 300000)
          · exact refuse hx
          obtain ⟨h2, h4⟩ := Decidable.not_not.mp hx
          clear refuse hx
          have l7 := fd_l hW hC hf ht hk yt (p2 := p2) (p3 := p3) (p4 := p4) (p5 := nI t) (K := fun a48 a49 u50 => gd (okO u50 0 7) (bd (f_X7_answer 0 a48 u50) (fun w52 => some (w52.1, w52.2)))) (an A) 1000 0 (by omega) (by omega)
          rw [show cf (fP A f p2 p3 p4) 0 0 = 0 from rfl, rL_self u (26 + 2 * t) _ (rw_0 _ _ _ _), nI_0] at l7
          have hM1 : MR (sI (rL u (26 + 2 * t) (rw' (fV A f p2 p3 p4 (aI A 34 t)) k (gL u (26 + 2 * t)) 0 (cf (fP A f p2 p3 p4) 0 (an A)))) 0 5 0) A := hM.keep ((keepM.rf.rL (by omega)).sI (by omega))
          have l8 := fd8_l (Wf_st 0 hW) (MR_m0 hM1) hf ht hk (by rw [aI_st (by omega)]; exact yt) (p2 := p2) (p3 := p3) (p4 := p4) (K := fun a48 a49 u50 => some (a48, u50)) (an A) 1000 0 (by show 0 + an A = an A; omega) (by omega)
          rw [show cf (fP (st A 0) f p2 p3 p4) 0 0 = 0 from rfl, rL_self _ 36 _ (rw_0 _ _ _ _), nI_0, fP_st, fV_st, aI_st (by omega)] at l8
          have hCf := CR_find hC ht hk (fV A f p2 p3 p4 (aI A 34 t)) yt (cf (fP A f p2 p3 p4) 0 (an A))
          have hMf' := MR_find (MR_m0 hM1) ht hk (fV A f p2 p3 p4 (aI A 34 t)) (by rw [aI_st (by omega)]; exact yt) (cf (fP A f p2 p3 p4) 0 (an A))
          have hR : f_X8_find 33 (nI f) p2 p3 p4 (nI t) (sI (rL u (26 + 2 * t) (rw' (fV A f p2 p3 p4 (aI A 34 t)) k (gL u (26 + 2 * t)) 0 (cf (fP A f p2 p3 p4) 0 (an A)))) 0 5 0) = some (nI (cf (fP A f p2 p3 p4) 0 (an A)), rL (m0 (sI (rL u (26 + 2 * t) (rw' (fV A f p2 p3 p4 (aI A 34 t)) k (gL u (26 + 2 * t)) 0 (cf (fP A f p2 p3 p4) 0 (an A)))) 0 5 0)) 36 (rw' (fV A f p2 p3 p4 (aI A 34 t)) k (gL (m0 (sI (rL u (26 + 2 * t) (rw' (fV A f p2 p3 p4 (aI A 34 t)) k (gL u (26 + 2 * t)) 0 (cf (fP A f p2 p3 p4) 0 (an A)))) 0 5 0)) 36) (40 * t) (cf (fP A f p2 p3 p4) 0 (an A)))) := by
            rw [f_X8_find, oO33 hM1.2.1, gd_t]
            have hM' := MR_m0 hM1
            unfold m0 at hM' l8 ⊢
            generalize sI (sI (sI (rL u (26 + 2 * t) (rw' (fV A f p2 p3 p4 (aI A 34 t)) k (gL u (26 + 2 * t)) 0 (cf (fP A f p2 p3 p4) 0 (an A)))) 0 5 0) 33 1 0) 33 0 0 = w at *
            clear h60 hRM
            obtain ⟨hRM, h60, -, -, -, -, hy, -⟩ := hM'
            have k2 : gI w 35 t = nI k := by rw [← yt, ← aI_st (A := A) (c := 0) (r := 35) (by omega)]; exact (hy t ht).2.1
            have d1 : ¬ p2 < 0 := by rw [i_lt, li_0]; omega
            have d2 : ¬ 999 < p2 := by rw [i_lt, li_999]; omega
            simp (disch := first | exact h60 | omega | with_unfolding_all exact h60) only [eq_false b1, eq_true b2, ↓bd_of (mF_t _ h1'), ↓bd_of (mP_t _ h3), k2, eq_true c1, eq_false d1, eq_false d2, ↓bd_of (mD_t w h4), ↓l8, ↓bb_e, ↓c_sI, ↓o_sI, ↓a_sI, ↓c_sL, ↓o_sL, ↓a_sL, ↓c_rI, ↓o_rI, ↓a_rI, ↓c_rL, ↓o_rL, ↓a_rL, ↓c_rngI, ↓o_rngI, ↓a_rngI, ↓c_rngL, ↓o_rngL, ↓a_rngL, ↓bd_s, ↓cs_s, ↓cs_n, ↓gd_t, ↓gB0, ↓gB1, ↓gOT, ↓gAS, ↓gOY, ↓gAY, ↓reduceIte, d10, nI_clamp, nI_1', i0eq, ↓gO33 h60, ↓gA34 h60, ↓gA35 h60, ↓gA36 h60, ↓gA37 h60, ↓gA38 h60, ↓gA39 h60, ↓gA40 h60, ↓gA41 h60, ↓gA42 h60, ↓gA43 h60, ↓gA44 h60, ↓gA45 h60, ↓gA46 h60, ↓gA47 h60, ↓gA48 h60, ↓gA49 h60, ↓gA50 h60, ↓gA51 h60, ↓gA52 h60, ↓gA53 h60, ↓gA54 h60, ↓gA55 h60, ↓gA56 h60, ↓gA57 h60, ↓gA58 h60, ↓gA59 h60, ↓cM_4 hRM, ↓cM_5 hRM, ↓cM_6 hRM, ↓cM_8 hRM, ↓cM_9 hRM, ↓cM_10 hRM, ↓cM_11 hRM, ↓cM_12 hRM, ↓cM_13 hRM, ↓cM_14 hRM, ↓cM_15 hRM, ↓cM_16 hRM, ↓cM_17 hRM, ↓cM_18 hRM, ↓cM_19 hRM, ↓cM_20 hRM, ↓cM_21 hRM, ↓cM_23 hRM, ↓cM_24 hRM, ↓cM_25 hRM, ↓cM_26 hRM, ↓cM_27 hRM, ↓cM_28 hRM, ↓cM_29 hRM, ↓cM_30 hRM, ↓cM_32 hRM, ↓bno8, ↓brf8]
            rfl
          refine leaf_ok (A' := fA A (fV A f p2 p3 p4 (aI A 34 t)) t k (cf (fP A f p2 p3 p4) 0 (an A))) (nI (cf (fP A f p2 p3 p4) 0 (an A))) ?_ hR hW hCf hMf' (((keepC.rf.sI (by omega)).sI (by omega)).rL (by omega))
          simp (disch := first | exact h60 | omega | with_unfolding_all exact h60) only [f_X7_find, ↓bd_of hta, ↓bd_of (isF_t u h1'), ↓bd_of (isP_t u h3), ↓bd_of hms, ↓bd_of (wi_t (p := p2) (a := 0) (b := 999) u (by rw [li_0, li_999]; exact h2)), ↓bd_of (isD_t u h4), ↓l7, ↓bb_e, ↓c_sI, ↓o_sI, ↓a_sI, ↓c_sL, ↓o_sL, ↓a_sL, ↓c_rI, ↓o_rI, ↓a_rI, ↓c_rL, ↓o_rL, ↓a_rL, ↓c_rngI, ↓o_rngI, ↓a_rngI, ↓c_rngL, ↓o_rngL, ↓a_rngL, ↓bd_s, ↓cs_s, ↓cs_n, ↓gd_t, ↓gB0, ↓gB1, ↓gOT, ↓gAS, ↓gOY, ↓gAY, ↓reduceIte, d10, nI_clamp, nI_1', i0eq, ↓gO0 h60, ↓gO2 h60, ↓gO6 h60, ↓gO10 h60, ↓gO11 h60, ↓gO14 h60, ↓gO21 h60, ↓gA1 h60, ↓gA3 h60, ↓gA4 h60, ↓gA5 h60, ↓gA7 h60, ↓gA8 h60, ↓gA9 h60, ↓gA12 h60, ↓gA13 h60, ↓gA15 h60, ↓gA16 h60, ↓gA17 h60, ↓gA18 h60, ↓gA19 h60, ↓gA20 h60, ↓gA22 h60, ↓gA23 h60, ↓gA24 h60, ↓cC_0_0 hRC, ↓cC_0_1 hRC, ↓cC_0_2 hRC, ↓cC_0_3 hRC, ↓cC_0_4 hRC, ↓cC_2_0 hRC, ↓cC_2_2 hRC, ↓cC_2_3 hRC, ↓cC_6_0 hRC, ↓cC_6_1 hRC, ↓cC_6_2 hRC, ↓cC_10_0 hRC, ↓cC_10_1 hRC, ↓cC_10_2 hRC, ↓cC_10_3 hRC, ↓cC_10_4 hRC, ↓cC_10_5 hRC, ↓cC_11_0 hRC, ↓cC_11_1 hRC, ↓cC_14_0 hRC, ↓cC_14_1 hRC, ↓cC_21_0 hRC, ↓cC_21_1 hRC, ↓cC_21_2 hRC, ↓bdn7, ↓brf7, ↓bgr7, ↓ban7]
          rw [an7 (w := rL u (26 + 2 * t) (rw' (fV A f p2 p3 p4 (aI A 34 t)) k (gL u (26 + 2 * t)) 0 (cf (fP A f p2 p3 p4) 0 (an A)))) h60, bd_s]
      · refine leaf_st (A := A) (-1) 2 0 hW hC hM ?_ ?_
        · simp (disch := first | exact h60 | omega | with_unfolding_all exact h60) only [f_X7_find, ↓bd_of hta, ↓bd_of (isF_t u h1'), ↓bd_of (isP_f u h3), ↓bb_e, ↓c_sI, ↓o_sI, ↓a_sI, ↓c_sL, ↓o_sL, ↓a_sL, ↓c_rI, ↓o_rI, ↓a_rI, ↓c_rL, ↓o_rL, ↓a_rL, ↓c_rngI, ↓o_rngI, ↓a_rngI, ↓c_rngL, ↓o_rngL, ↓a_rngL, ↓bd_s, ↓cs_s, ↓cs_n, ↓gd_t, ↓gB0, ↓gB1, ↓gOT, ↓gAS, ↓gOY, ↓gAY, ↓reduceIte, d10, nI_clamp, nI_1', i0eq, ↓gO0 h60, ↓gO2 h60, ↓gO6 h60, ↓gO10 h60, ↓gO11 h60, ↓gO14 h60, ↓gO21 h60, ↓gA1 h60, ↓gA3 h60, ↓gA4 h60, ↓gA5 h60, ↓gA7 h60, ↓gA8 h60, ↓gA9 h60, ↓gA12 h60, ↓gA13 h60, ↓gA15 h60, ↓gA16 h60, ↓gA17 h60, ↓gA18 h60, ↓gA19 h60, ↓gA20 h60, ↓gA22 h60, ↓gA23 h60, ↓gA24 h60, ↓cC_0_0 hRC, ↓cC_0_1 hRC, ↓cC_0_2 hRC, ↓cC_0_3 hRC, ↓cC_0_4 hRC, ↓cC_2_0 hRC, ↓cC_2_2 hRC, ↓cC_2_3 hRC, ↓cC_6_0 hRC, ↓cC_6_1 hRC, ↓cC_6_2 hRC, ↓cC_10_0 hRC, ↓cC_10_1 hRC, ↓cC_10_2 hRC, ↓cC_10_3 hRC, ↓cC_10_4 hRC, ↓cC_10_5 hRC, ↓cC_11_0 hRC, ↓cC_11_1 hRC, ↓cC_14_0 hRC, ↓cC_14_1 hRC, ↓cC_21_0 hRC, ↓cC_21_1 hRC, ↓cC_21_2 hRC, ↓bdn7, ↓brf7, ↓bgr7, ↓ban7]
        · rw [f_X8_find, oO33 (u := sI u 0 5 2) h60, gd_t]
          have hM' := MR_k hM 2
          unfold m0 at hM'
          generalize sI (sI (sI u 0 5 2) 33 1 0) 33 0 0 = w at *
          clear h60 hRM
          obtain ⟨hRM, h60, -⟩ := hM'
          simp (disch := first | exact h60 | omega | with_unfolding_all exact h60) only [eq_false b1, eq_true b2, ↓bd_of (mF_t _ h1'), ↓bd_of (mP_f _ h3), ↓bb_e, ↓c_sI, ↓o_sI, ↓a_sI, ↓c_sL, ↓o_sL, ↓a_sL, ↓c_rI, ↓o_rI, ↓a_rI, ↓c_rL, ↓o_rL, ↓a_rL, ↓c_rngI, ↓o_rngI, ↓a_rngI, ↓c_rngL, ↓o_rngL, ↓a_rngL, ↓bd_s, ↓cs_s, ↓cs_n, ↓gd_t, ↓gB0, ↓gB1, ↓gOT, ↓gAS, ↓gOY, ↓gAY, ↓reduceIte, d10, nI_clamp, nI_1', i0eq, ↓gO33 h60, ↓gA34 h60, ↓gA35 h60, ↓gA36 h60, ↓gA37 h60, ↓gA38 h60, ↓gA39 h60, ↓gA40 h60, ↓gA41 h60, ↓gA42 h60, ↓gA43 h60, ↓gA44 h60, ↓gA45 h60, ↓gA46 h60, ↓gA47 h60, ↓gA48 h60, ↓gA49 h60, ↓gA50 h60, ↓gA51 h60, ↓gA52 h60, ↓gA53 h60, ↓gA54 h60, ↓gA55 h60, ↓gA56 h60, ↓gA57 h60, ↓gA58 h60, ↓gA59 h60, ↓cM_4 hRM, ↓cM_5 hRM, ↓cM_6 hRM, ↓cM_8 hRM, ↓cM_9 hRM, ↓cM_10 hRM, ↓cM_11 hRM, ↓cM_12 hRM, ↓cM_13 hRM, ↓cM_14 hRM, ↓cM_15 hRM, ↓cM_16 hRM, ↓cM_17 hRM, ↓cM_18 hRM, ↓cM_19 hRM, ↓cM_20 hRM, ↓cM_21 hRM, ↓cM_23 hRM, ↓cM_24 hRM, ↓cM_25 hRM, ↓cM_26 hRM, ↓cM_27 hRM, ↓cM_28 hRM, ↓cM_29 hRM, ↓cM_30 hRM, ↓cM_32 hRM, ↓bno8, ↓brf8]
    · refine leaf_st (A := A) (-1) 2 0 hW hC hM ?_ ?_
      · simp (disch := first | exact h60 | omega | with_unfolding_all exact h60) only [f_X7_find, ↓bd_of hta, ↓bd_of (isF_f u h1), ↓bb_e, ↓c_sI, ↓o_sI, ↓a_sI, ↓c_sL, ↓o_sL, ↓a_sL, ↓c_rI, ↓o_rI, ↓a_rI, ↓c_rL, ↓o_rL, ↓a_rL, ↓c_rngI, ↓o_rngI, ↓a_rngI, ↓c_rngL, ↓o_rngL, ↓a_rngL, ↓bd_s, ↓cs_s, ↓cs_n, ↓gd_t, ↓gB0, ↓gB1, ↓gOT, ↓gAS, ↓gOY, ↓gAY, ↓reduceIte, d10, nI_clamp, nI_1', i0eq, ↓gO0 h60, ↓gO2 h60, ↓gO6 h60, ↓gO10 h60, ↓gO11 h60, ↓gO14 h60, ↓gO21 h60, ↓gA1 h60, ↓gA3 h60, ↓gA4 h60, ↓gA5 h60, ↓gA7 h60, ↓gA8 h60, ↓gA9 h60, ↓gA12 h60, ↓gA13 h60, ↓gA15 h60, ↓gA16 h60, ↓gA17 h60, ↓gA18 h60, ↓gA19 h60, ↓gA20 h60, ↓gA22 h60, ↓gA23 h60, ↓gA24 h60, ↓cC_0_0 hRC, ↓cC_0_1 hRC, ↓cC_0_2 hRC, ↓cC_0_3 hRC, ↓cC_0_4 hRC, ↓cC_2_0 hRC, ↓cC_2_2 hRC, ↓cC_2_3 hRC, ↓cC_6_0 hRC, ↓cC_6_1 hRC, ↓cC_6_2 hRC, ↓cC_10_0 hRC, ↓cC_10_1 hRC, ↓cC_10_2 hRC, ↓cC_10_3 hRC, ↓cC_10_4 hRC, ↓cC_10_5 hRC, ↓cC_11_0 hRC, ↓cC_11_1 hRC, ↓cC_14_0 hRC, ↓cC_14_1 hRC, ↓cC_21_0 hRC, ↓cC_21_1 hRC, ↓cC_21_2 hRC, ↓bdn7, ↓brf7, ↓bgr7, ↓ban7]
      · rw [f_X8_find, oO33 (u := sI u 0 5 2) h60, gd_t]
        have hM' := MR_k hM 2
        unfold m0 at hM'
        generalize sI (sI (sI u 0 5 2) 33 1 0) 33 0 0 = w at *
        clear h60 hRM
        obtain ⟨hRM, h60, -⟩ := hM'
        simp (disch := first | exact h60 | omega | with_unfolding_all exact h60) only [eq_false b1, eq_true b2, ↓bd_of (mF_f _ h1), ↓bb_e, ↓c_sI, ↓o_sI, ↓a_sI, ↓c_sL, ↓o_sL, ↓a_sL, ↓c_rI, ↓o_rI, ↓a_rI, ↓c_rL, ↓o_rL, ↓a_rL, ↓c_rngI, ↓o_rngI, ↓a_rngI, ↓c_rngL, ↓o_rngL, ↓a_rngL, ↓bd_s, ↓cs_s, ↓cs_n, ↓gd_t, ↓gB0, ↓gB1, ↓gOT, ↓gAS, ↓gOY, ↓gAY, ↓reduceIte, d10, nI_clamp, nI_1', i0eq, ↓gO33 h60, ↓gA34 h60, ↓gA35 h60, ↓gA36 h60, ↓gA37 h60, ↓gA38 h60, ↓gA39 h60, ↓gA40 h60, ↓gA41 h60, ↓gA42 h60, ↓gA43 h60, ↓gA44 h60, ↓gA45 h60, ↓gA46 h60, ↓gA47 h60, ↓gA48 h60, ↓gA49 h60, ↓gA50 h60, ↓gA51 h60, ↓gA52 h60, ↓gA53 h60, ↓gA54 h60, ↓gA55 h60, ↓gA56 h60, ↓gA57 h60, ↓gA58 h60, ↓gA59 h60, ↓cM_4 hRM, ↓cM_5 hRM, ↓cM_6 hRM, ↓cM_8 hRM, ↓cM_9 hRM, ↓cM_10 hRM, ↓cM_11 hRM, ↓cM_12 hRM, ↓cM_13 hRM, ↓cM_14 hRM, ↓cM_15 hRM, ↓cM_16 hRM, ↓cM_17 hRM, ↓cM_18 hRM, ↓cM_19 hRM, ↓cM_20 hRM, ↓cM_21 hRM, ↓cM_23 hRM, ↓cM_24 hRM, ↓cM_25 hRM, ↓cM_26 hRM, ↓cM_27 hRM, ↓cM_28 hRM, ↓cM_29 hRM, ↓cM_30 hRM, ↓cM_32 hRM, ↓bno8, ↓brf8]
  · refine leaf_st (A := A) (-1) 1 0 hW hC hM ?_ ?_
    · simp (disch := first | exact h60 | omega | with_unfolding_all exact h60) only [f_X7_find, ↓bd_of (ta_none hC h5), ↓bb_e, ↓c_sI, ↓o_sI, ↓a_sI, ↓c_sL, ↓o_sL, ↓a_sL, ↓c_rI, ↓o_rI, ↓a_rI, ↓c_rL, ↓o_rL, ↓a_rL, ↓c_rngI, ↓o_rngI, ↓a_rngI, ↓c_rngL, ↓o_rngL, ↓a_rngL, ↓bd_s, ↓cs_s, ↓cs_n, ↓gd_t, ↓gB0, ↓gB1, ↓gOT, ↓gAS, ↓gOY, ↓gAY, ↓reduceIte, d10, nI_clamp, nI_1', i0eq, ↓gO0 h60, ↓gO2 h60, ↓gO6 h60, ↓gO10 h60, ↓gO11 h60, ↓gO14 h60, ↓gO21 h60, ↓gA1 h60, ↓gA3 h60, ↓gA4 h60, ↓gA5 h60, ↓gA7 h60, ↓gA8 h60, ↓gA9 h60, ↓gA12 h60, ↓gA13 h60, ↓gA15 h60, ↓gA16 h60, ↓gA17 h60, ↓gA18 h60, ↓gA19 h60, ↓gA20 h60, ↓gA22 h60, ↓gA23 h60, ↓gA24 h60, ↓cC_0_0 hRC, ↓cC_0_1 hRC, ↓cC_0_2 hRC, ↓cC_0_3 hRC, ↓cC_0_4 hRC, ↓cC_2_0 hRC, ↓cC_2_2 hRC, ↓cC_2_3 hRC, ↓cC_6_0 hRC, ↓cC_6_1 hRC, ↓cC_6_2 hRC, ↓cC_10_0 hRC, ↓cC_10_1 hRC, ↓cC_10_2 hRC, ↓cC_10_3 hRC, ↓cC_10_4 hRC, ↓cC_10_5 hRC, ↓cC_11_0 hRC, ↓cC_11_1 hRC, ↓cC_14_0 hRC, ↓cC_14_1 hRC, ↓cC_21_0 hRC, ↓cC_21_1 hRC, ↓cC_21_2 hRC, ↓bdn7, ↓brf7, ↓bgr7, ↓ban7]
    · rw [f_X8_find, oO33 (u := sI u 0 5 1) h60, gd_t]
      have hM' := MR_k hM 1
      unfold m0 at hM'
      generalize sI (sI (sI u 0 5 1) 33 1 0) 33 0 0 = w at *
      clear h60 hRM
      obtain ⟨hRM, h60, -⟩ := hM'
      by_cases d1 : p5 < 0
      · simp (disch := first | exact h60 | omega | with_unfolding_all exact h60) only [eq_true d1, ↓bb_e, ↓c_sI, ↓o_sI, ↓a_sI, ↓c_sL, ↓o_sL, ↓a_sL, ↓c_rI, ↓o_rI, ↓a_rI, ↓c_rL, ↓o_rL, ↓a_rL, ↓c_rngI, ↓o_rngI, ↓a_rngI, ↓c_rngL, ↓o_rngL, ↓a_rngL, ↓bd_s, ↓cs_s, ↓cs_n, ↓gd_t, ↓gB0, ↓gB1, ↓gOT, ↓gAS, ↓gOY, ↓gAY, ↓reduceIte, d10, nI_clamp, nI_1', i0eq, ↓gO33 h60, ↓gA34 h60, ↓gA35 h60, ↓gA36 h60, ↓gA37 h60, ↓gA38 h60, ↓gA39 h60, ↓gA40 h60, ↓gA41 h60, ↓gA42 h60, ↓gA43 h60, ↓gA44 h60, ↓gA45 h60, ↓gA46 h60, ↓gA47 h60, ↓gA48 h60, ↓gA49 h60, ↓gA50 h60, ↓gA51 h60, ↓gA52 h60, ↓gA53 h60, ↓gA54 h60, ↓gA55 h60, ↓gA56 h60, ↓gA57 h60, ↓gA58 h60, ↓gA59 h60, ↓cM_4 hRM, ↓cM_5 hRM, ↓cM_6 hRM, ↓cM_8 hRM, ↓cM_9 hRM, ↓cM_10 hRM, ↓cM_11 hRM, ↓cM_12 hRM, ↓cM_13 hRM, ↓cM_14 hRM, ↓cM_15 hRM, ↓cM_16 hRM, ↓cM_17 hRM, ↓cM_18 hRM, ↓cM_19 hRM, ↓cM_20 hRM, ↓cM_21 hRM, ↓cM_23 hRM, ↓cM_24 hRM, ↓cM_25 hRM, ↓cM_26 hRM, ↓cM_27 hRM, ↓cM_28 hRM, ↓cM_29 hRM, ↓cM_30 hRM, ↓cM_32 hRM, ↓bno8, ↓brf8]
      · have d2 : ¬ p5 < 4 := by rw [i_lt, li_0] at d1; rw [i_lt, li_4]; omega
        simp (disch := first | exact h60 | omega | with_unfolding_all exact h60) only [eq_false d1, eq_false d2, ↓bb_e, ↓c_sI, ↓o_sI, ↓a_sI, ↓c_sL, ↓o_sL, ↓a_sL, ↓c_rI, ↓o_rI, ↓a_rI, ↓c_rL, ↓o_rL, ↓a_rL, ↓c_rngI, ↓o_rngI, ↓a_rngI, ↓c_rngL, ↓o_rngL, ↓a_rngL, ↓bd_s, ↓cs_s, ↓cs_n, ↓gd_t, ↓gB0, ↓gB1, ↓gOT, ↓gAS, ↓gOY, ↓gAY, ↓reduceIte, d10, nI_clamp, nI_1', i0eq, ↓gO33 h60, ↓gA34 h60, ↓gA35 h60, ↓gA36 h60, ↓gA37 h60, ↓gA38 h60, ↓gA39 h60, ↓gA40 h60, ↓gA41 h60, ↓gA42 h60, ↓gA43 h60, ↓gA44 h60, ↓gA45 h60, ↓gA46 h60, ↓gA47 h60, ↓gA48 h60, ↓gA49 h60, ↓gA50 h60, ↓gA51 h60, ↓gA52 h60, ↓gA53 h60, ↓gA54 h60, ↓gA55 h60, ↓gA56 h60, ↓gA57 h60, ↓gA58 h60, ↓gA59 h60, ↓cM_4 hRM, ↓cM_5 hRM, ↓cM_6 hRM, ↓cM_8 hRM, ↓cM_9 hRM, ↓cM_10 hRM, ↓cM_11 hRM, ↓cM_12 hRM, ↓cM_13 hRM, ↓cM_14 hRM, ↓cM_15 hRM, ↓cM_16 hRM, ↓cM_17 hRM, ↓cM_18 hRM, ↓cM_19 hRM, ↓cM_20 hRM, ↓cM_21 hRM, ↓cM_23 hRM, ↓cM_24 hRM, ↓cM_25 hRM, ↓cM_26 hRM, ↓cM_27 hRM, ↓cM_28 hRM, ↓cM_29 hRM, ↓cM_30 hRM, ↓cM_32 hRM, ↓bno8, ↓brf8]
