/-- places a to a + n - 1 of a row are v -/
def rngL (u : Mm) (r a n : Nat) (v : Int64) : Mm := (u.1, u.2.1, fun b j => if b = r ∧ a ≤ j ∧ j < a + n then v else u.2.2.1 b j, u.2.2.2)
def rngI (u : Mm) (r a n : Nat) (v : Int32) : Mm := (u.1, fun b j => if b = r ∧ a ≤ j ∧ j < a + n then v else u.2.1 b j, u.2.2.1, u.2.2.2)
theorem gI_rngL (u : Mm) (r a n : Nat) (v : Int64) (b j : Nat) : gI (rngL u r a n v) b j = gI u b j := rfl
theorem gR_rngL (u : Mm) (r a n : Nat) (v : Int64) (b j : Nat) : gR (rngL u r a n v) b j = gR u b j := rfl
theorem gL_rngL (u : Mm) (r a n : Nat) (v : Int64) (b j : Nat) : gL (rngL u r a n v) b j = if b = r ∧ a ≤ j ∧ j < a + n then v else gL u b j := rfl
theorem gI_rngI (u : Mm) (r a n : Nat) (v : Int32) (b j : Nat) : gI (rngI u r a n v) b j = if b = r ∧ a ≤ j ∧ j < a + n then v else gI u b j := rfl
theorem gR_rngI (u : Mm) (r a n : Nat) (v : Int32) (b j : Nat) : gR (rngI u r a n v) b j = gR u b j := rfl
theorem gL_rngI (u : Mm) (r a n : Nat) (v : Int32) (b j : Nat) : gL (rngI u r a n v) b j = gL u b j := rfl
theorem rngL_0 (u : Mm) (r a : Nat) (v : Int64) : rngL u r a 0 v = u := by
  obtain ⟨n, i, l, q⟩ := u
  simp only [rngL, Prod.mk.injEq, true_and, and_true]
  funext b j
  rw [if_neg (by omega)]
theorem rngI_0 (u : Mm) (r a : Nat) (v : Int32) : rngI u r a 0 v = u := by
  obtain ⟨n, i, l, q⟩ := u
  simp only [rngI, Prod.mk.injEq, true_and, and_true]
  funext b j
  rw [if_neg (by omega)]
theorem rngL_s (u : Mm) (r a n : Nat) (v : Int64) : sL (rngL u r a n v) r (a + n) v = rngL u r a (n + 1) v := by
  obtain ⟨m, i, l, q⟩ := u
  simp only [rngL, sL, up2, Prod.mk.injEq, true_and, and_true]
  funext b j
  simp only [up2]
  by_cases h : b = r ∧ j = a + n
  · rw [if_pos h, if_pos (by omega)]
  · rw [if_neg h]
    by_cases h2 : b = r ∧ a ≤ j ∧ j < a + n
    · rw [if_pos h2, if_pos (by omega)]
    · rw [if_neg h2, if_neg (by omega)]
theorem rngI_s (u : Mm) (r a n : Nat) (v : Int32) : sI (rngI u r a n v) r (a + n) v = rngI u r a (n + 1) v := by
  obtain ⟨m, i, l, q⟩ := u
  simp only [rngI, sI, up2, Prod.mk.injEq, true_and, and_true]
  funext b j
  simp only [up2]
  by_cases h : b = r ∧ j = a + n
  · rw [if_pos h, if_pos (by omega)]
  · rw [if_neg h]
    by_cases h2 : b = r ∧ a ≤ j ∧ j < a + n
    · rw [if_pos h2, if_pos (by omega)]
    · rw [if_neg h2, if_neg (by omega)]
theorem okO_rngL (u : Mm) (r a n : Nat) (v : Int64) (b c : Nat) : okO (rngL u r a n v) b c = okO u b c := rfl
theorem okA_rngL (u : Mm) (r a n : Nat) (v : Int64) (b c : Nat) (i : Int32) : okA (rngL u r a n v) b c i = okA u b c i := rfl
theorem okO_rngI (u : Mm) (r a n : Nat) (v : Int32) (b c : Nat) : okO (rngI u r a n v) b c = okO u b c := rfl
theorem okA_rngI (u : Mm) (r a n : Nat) (v : Int32) (b c : Nat) (i : Int32) : okA (rngI u r a n v) b c i = okA u b c i := rfl
theorem nI_1' (a : Nat) : nI a + (1) = nI (a + 1) := nI_1 a
theorem fill_loop {u : Mm} {r len : Nat} {v : Int64} {k : Int32 → Mm → Option Mm} (hl : len < 2 ^ 31) (hok : ∀ j, j < len → okA u r 10 (nI j) = true) : ∀ (d n j : Nat), j + d = len → d < n → L_J7_fill_d0a16_6 r v (nI len) k n (nI j) (rngL u r 0 j v) = k (nI len) (rngL u r 0 len v) := by
  intro d
  induction d with
  | zero =>
    intro n j h1 h2
    obtain ⟨n, rfl⟩ : ∃ m, n = m + 1 := ⟨n - 1, by omega⟩
    have e : j = len := by omega
    subst e
    rw [L_J7_fill_d0a16_6, if_pos (nI_le (Nat.le_refl _) hl)]
  | succ d ih =>
    intro n j h1 h2
    obtain ⟨n, rfl⟩ : ∃ m, n = m + 1 := ⟨n - 1, by omega⟩
    rw [L_J7_fill_d0a16_6, if_neg (nI_ge (by omega) hl), okA_rngL, hok j (by omega), gd_t, bb_e, nI_clamp (by omega), nI_1', show sL (rngL u r 0 j v) r j v = rngL u r 0 (j + 1) v from by have := rngL_s u r 0 j v; rwa [Nat.zero_add] at this]
    exact ih n (j + 1) (by omega) (by omega)
theorem fill_L {u : Mm} {r : Nat} {v : Int64} (hr : r < u.1) (hs : shp r = 10) (hl : aln r < 1000) : f_J7_fill_d0a16 (some r) v u = some (rngL u r 0 (aln r) v) := by
  rw [f_J7_fill_d0a16, cs_s, okO_t hr hs, gd_t, bb_e]
  have h := fill_loop (u := u) (r := r) (v := v) (len := aln r) (k := fun a7 u8 => some u8) (by omega) (fun j hj => okA_t hr hs rfl (by omega) hj) (aln r) 1000 0 (by omega) (by omega)
  rw [rngL_0] at h
  exact h
theorem fillI_loop {u : Mm} {r len : Nat} {v : Int32} {k : Int32 → Mm → Option Mm} (hl : len < 2 ^ 31) (hok : ∀ j, j < len → okA u r 9 (nI j) = true) : ∀ (d n j : Nat), j + d = len → d < n → L_J7_fill_53178_5 r v (nI len) k n (nI j) (rngI u r 0 j v) = k (nI len) (rngI u r 0 len v) := by
  intro d
  induction d with
  | zero =>
    intro n j h1 h2
    obtain ⟨n, rfl⟩ : ∃ m, n = m + 1 := ⟨n - 1, by omega⟩
    have e : j = len := by omega
    subst e
    rw [L_J7_fill_53178_5, if_pos (nI_le (Nat.le_refl _) hl)]
  | succ d ih =>
    intro n j h1 h2
    obtain ⟨n, rfl⟩ : ∃ m, n = m + 1 := ⟨n - 1, by omega⟩
    rw [L_J7_fill_53178_5, if_neg (nI_ge (by omega) hl), okA_rngI, hok j (by omega), gd_t, bb_e, nI_clamp (by omega), nI_1', show sI (rngI u r 0 j v) r j v = rngI u r 0 (j + 1) v from by have := rngI_s u r 0 j v; rwa [Nat.zero_add] at this]
    exact ih n (j + 1) (by omega) (by omega)
theorem fill_I {u : Mm} {r : Nat} {v : Int32} (hr : r < u.1) (hs : shp r = 9) (hl : aln r < 1000) : f_J7_fill_53178 (some r) v u = some (rngI u r 0 (aln r) v) := by
  rw [f_J7_fill_53178, cs_s, okO_t hr hs, gd_t, bb_e]
  have h := fillI_loop (u := u) (r := r) (v := v) (len := aln r) (k := fun a7 u8 => some u8) (by omega) (fun j hj => okA_t hr hs rfl (by omega) hj) (aln r) 1000 0 (by omega) (by omega)
  rw [rngI_0] at h
  exact h
theorem keepM.rngL {u v : Mm} {r a n : Nat} {x : Int64} (h : keepM u v) (hr : r < 33 ∨ 60 ≤ r) : keepM u (rngL v r a n x) := ⟨h.1, fun b h1 h2 => ⟨(h.2 b h1 h2).1, fun j => by rw [gL_rngL, if_neg (by omega)]; exact (h.2 b h1 h2).2.1 j, (h.2 b h1 h2).2.2⟩⟩
theorem keepC.rngL {u v : Mm} {r a n : Nat} {x : Int64} (h : keepC u v) (hr : 33 ≤ r ∧ r < 60) : keepC u (rngL v r a n x) := ⟨h.1, fun b h1 => ⟨(h.2 b h1).1, fun j => by rw [gL_rngL, if_neg (by omega)]; exact (h.2 b h1).2.1 j, (h.2 b h1).2.2⟩⟩
-- the trays alone change
theorem CR_y {u v : Mm} {A A' : Ab} (hC : CR u A) (h1 : v.1 = u.1) (hR : ∀ r k, gR v r k = gR u r k) (hI : ∀ r k, r < 25 ∨ 33 ≤ r → gI v r k = gI u r k) (hL : ∀ r k, r < 25 ∨ 33 ≤ r → gL v r k = gL u r k) (hn : an A' = an A) (he : ae A' = ae A) (hA : ∀ r k, r < 34 ∨ 35 < r → aI A' r k = aI A r k) (hAL : ∀ r k, r ≠ 36 → aL A' r k = aL A r k) (hy : GY v A') : CR v A' := by
  obtain ⟨c1, c2, c3, c4, c5, c6, c7, c8, c9⟩ := hC
  refine ⟨RC_cong c1 (fun r k _ _ _ => hR r k), ⟨by rw [h1, hn]; exact c2.1, by rw [hI 2 1 (by omega), hn]; exact c2.2⟩, by rw [hI 0 5 (by omega), hA 33 0 (by omega)]; exact c3, ⟨by rw [hL 0 6 (by omega), hAL 33 2 (by omega)]; exact c4.1, by rw [hL 0 7 (by omega), hAL 33 3 (by omega)]; exact c4.2⟩, ?_, ?_, hy, ?_, ?_⟩
  · exact GT_cong c5 hn (fun r k _ => hI r k (by omega)) (fun r k _ => hR r k) (fun k => hR 3 k) (fun r k _ _ => hA r k (by omega))
  · exact GP_cong c6 hn (fun i => hI _ _ (by omega)) (fun k => hA 40 k (by omega))
  · exact GL_cong c8 he (fun r k _ _ => hI r k (by omega)) (fun r k _ _ => hA r k (by omega))
  · exact GS_cong c9 hn (fun r k _ => hI r k (by omega)) (fun r k _ _ => hA r k (by omega))
theorem MR_y {u v : Mm} {A A' : Ab} (hM : MR u A) (h1 : v.1 = u.1) (hR : ∀ r k, gR v r k = gR u r k) (hI : ∀ r k, r < 34 ∨ 35 < r → gI v r k = gI u r k) (hL : ∀ r k, r ≠ 36 → gL v r k = gL u r k) (hn : an A' = an A) (he : ae A' = ae A) (hA : ∀ r k, r < 34 ∨ 35 < r → aI A' r k = aI A r k) (hAL : ∀ r k, r ≠ 36 → aL A' r k = aL A r k) (hy : HY v A') : MR v A' := by
  obtain ⟨c1, c2, c3, c4, c5, c6, c7, c8⟩ := hM
  refine ⟨RM_cong c1 (fun k => hR 33 k), by rw [h1]; exact c2, by rw [hI 33 7 (by omega), hn]; exact c3, by rw [hI 33 0 (by omega), hA 33 0 (by omega)]; exact c4, ⟨by rw [hL 33 2 (by omega), hAL 33 2 (by omega)]; exact c5.1, by rw [hL 33 3 (by omega), hAL 33 3 (by omega)]; exact c5.2⟩, ?_, hy, ?_⟩
  · exact HT_cong c6 hn (fun r k _ _ => hI r k (by omega)) (fun r k _ _ => hA r k (by omega))
  · exact HL_cong c8 he (hI 33 22 (by omega)) (fun r k _ _ => hI r k (by omega)) (fun r k _ _ => hA r k (by omega))
theorem Wf_y {A A' : Ab} (hW : Wf A) (hn : an A' = an A) (he : ae A' = ae A) (hA : ∀ r k, r < 34 ∨ 35 < r → aI A' r k = aI A r k) (hy : WY A') : Wf A' := by
  obtain ⟨c1, c2, c3, c4, c5, c6⟩ := hW
  exact ⟨WT_cong c1 hn (fun r k _ _ => hA r k (by omega)), WD_cong c2 hn (fun k => hA 46 k (by omega)), WD_cong c3 hn (fun k => hA 47 k (by omega)), WD_cong c4 hn (fun k => hA 48 k (by omega)), hy, WL_cong c6 he (fun r k _ _ => hA r k (by omega))⟩
-- the class's trays
theorem ta_some {u : Mm} {A : Ab} (hC : CR u A) {t : Nat} (ht : t < 4) : f_X7_trayAt 0 (nI t) u = some (some (25 + 2 * t)) := by
  obtain ⟨hRC, hN, -⟩ := hC
  have hn := hN.1
  have h60 : 60 ≤ u.1 := by omega
  simp (disch := omega) only [f_X7_trayAt, f_X7_within, gd_t, bb_e, bd_s, cs_n, cs_s, okO_sI, okO_sL, okO_sR, okO_rI, okO_rL, okA_sI, okA_sL, okA_sR, okA_rI, okA_rL, gI_sI, gI_sL, gI_sR, gI_rI, gI_rL, gL_sI, gL_sL, gL_sR, gL_rI, gL_rL, gR_sI, gR_sL, gR_sR, gR_rI, gR_rL, oT, oS, oY, oYn, i_lt, i_le, i_eq, nI_toInt, nI_clamp, ↓reduceIte, false_and, and_false, and_self, true_and, and_true, if_pos, if_neg, ite_self, isB_0, isB_1, ix6, ix40, li_0, li_1, li_2, li_3, li_4, li_5, li_6, li_7, li_8, li_9, li_10, li_11, li_12, li_15, li_16, li_20, li_39, li_40, li_80, li_200, li_400, li_999, li_9999, li_100000, li_200000, li_300000, li_65535, li_m1, oO0 h60, oO2 h60, oO6 h60, oO10 h60, oO11 h60, oO14 h60, oO21 h60, oA1 h60, oA3 h60, oA4 h60, oA5 h60, oA7 h60, oA8 h60, oA9 h60, oA12 h60, oA13 h60, oA15 h60, oA16 h60, oA17 h60, oA18 h60, oA19 h60, oA20 h60, oA22 h60, oA23 h60, oA24 h60, rc_0_0 hRC, rc_0_1 hRC, rc_0_2 hRC, rc_0_3 hRC, rc_0_4 hRC, rc_2_0 hRC, rc_2_2 hRC, rc_2_3 hRC, rc_6_0 hRC, rc_6_1 hRC, rc_6_2 hRC, rc_10_0 hRC, rc_10_1 hRC, rc_10_2 hRC, rc_10_3 hRC, rc_10_4 hRC, rc_10_5 hRC, rc_11_0 hRC, rc_11_1 hRC, rc_14_0 hRC, rc_14_1 hRC, rc_21_0 hRC, rc_21_1 hRC, rc_21_2 hRC, rc_y hRC ht]
theorem ta_none {u : Mm} {A : Ab} (hC : CR u A) {p : Int32} (hp : ¬ (0 ≤ p.toInt ∧ p.toInt < 4)) : f_X7_trayAt 0 p u = some none := by
  obtain ⟨hRC, hN, -⟩ := hC
  have hn := hN.1
  have h60 : 60 ≤ u.1 := by omega
  rw [f_X7_trayAt, wi_f u (by rw [li_0, li_3]; omega), bd_s]
  simp only [gd_t, bb_e, bd_s, cs_n, cs_s, okO_sI, okO_sL, okO_sR, okO_rI, okO_rL, okA_sI, okA_sL, okA_sR, okA_rI, okA_rL, gI_sI, gI_sL, gI_sR, gI_rI, gI_rL, gL_sI, gL_sL, gL_sR, gL_rI, gL_rL, gR_sI, gR_sL, gR_sR, gR_rI, gR_rL, oT, oS, oY, oYn, i_lt, i_le, i_eq, nI_toInt, nI_clamp, ↓reduceIte, false_and, and_false, and_self, true_and, and_true, if_pos, if_neg, ite_self, isB_0, isB_1, ix6, ix40, li_0, li_1, li_2, li_3, li_4, li_5, li_6, li_7, li_8, li_9, li_10, li_11, li_12, li_15, li_16, li_20, li_39, li_40, li_80, li_200, li_400, li_999, li_9999, li_100000, li_200000, li_300000, li_65535, li_m1]
/-- how long a tray is: -1 if it is missing -/
theorem y_cases {u : Mm} {A : Ab} (hC : CR u A) {t : Nat} (ht : t < 4) : (aI A 35 t = -1 ∧ gI u (25 + 2 * t) 1 = -1 ∧ gI u (25 + 2 * t) 2 = 0) ∨ (∃ k, k ≤ 40 ∧ aI A 35 t = nI k ∧ gI u (25 + 2 * t) 1 = aI A 34 t ∧ gI u (25 + 2 * t) 2 = nI k ∧ ∀ j, j < k → gL u (26 + 2 * t) j = aL A 36 (40 * t + j)) := by
  obtain ⟨-, -, -, -, -, -, h, -⟩ := hC
  exact h t ht
