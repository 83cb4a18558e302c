/-! THING: one thing more -/
theorem add_t {u : Mm} {n : Nat} (hRC : RC u) (hu : u.1 = 60 + 2 * n) (hm : gI u 2 1 = nI n) (hn : n < 80) (p1 : Int32) (x : Option Nat) : ∃ W, f_X0_add 2 p1 x u = some (nI n, W) ∧ W.1 = 62 + 2 * n ∧ (∀ r k, r < 60 + 2 * n → ¬ (r = 2 ∧ k = 1) → gI W r k = gI u r k) ∧ gI W 2 1 = nI (n + 1) ∧ (∀ r k, r < 60 + 2 * n → ¬ (r = 3 ∧ k = n) → gR W r k = gR u r k) ∧ gR W 3 n = some (60 + 2 * n) ∧ (∀ r k, r < 60 + 2 * n → gL W r k = gL u r k) ∧
    gI W (60 + 2 * n) 0 = nI n ∧ gI W (60 + 2 * n) 1 = p1 ∧ gR W (60 + 2 * n) 2 = x ∧ gR W (60 + 2 * n) 3 = some (61 + 2 * n) ∧ gI W (60 + 2 * n) 4 = -1 ∧ gI W (60 + 2 * n) 6 = -1 ∧ gI W (60 + 2 * n) 7 = -1 ∧ gI W (60 + 2 * n) 8 = 0 ∧ gI W (60 + 2 * n) 9 = -1 ∧ gI W (60 + 2 * n) 10 = nI n ∧ ∀ f, f < 6 → gI W (61 + 2 * n) f = -1 := by
  have h60 : 60 ≤ u.1 := by omega
  have e1 : (nw u).1 = 61 + 2 * n := by rw [n_nw, hu]; omega
  have e2 : (nw (nw u)).1 = 62 + 2 * n := by rw [n_nw, e1]; omega
  have hf := fill_I (u := (sI (sR (sI (sI (sI (sI (sI (sI (sI (sI (sR (nw (nw u)) (60 + 2 * n) 3 (some (61 + 2 * n))) (60 + 2 * n) 4 (-1)) (60 + 2 * n) 5 (-1)) (60 + 2 * n) 6 (-1)) (60 + 2 * n) 7 (-1)) (60 + 2 * n) 8 0) (60 + 2 * n) 9 (-1)) (60 + 2 * n) 0 (nI n)) (60 + 2 * n) 1 p1) (60 + 2 * n) 2 x) (60 + 2 * n) 10 (nI n))) (r := 61 + 2 * n) (v := -1) (by show 61 + 2 * n < (nw (nw u)).1; omega) (shp_s n) (by rw [aln_s]; omega)
  rw [aln_s] at hf
  refine ⟨(sI (sR (rngI (sI (sR (sI (sI (sI (sI (sI (sI (sI (sI (sR (nw (nw u)) (60 + 2 * n) 3 (some (61 + 2 * n))) (60 + 2 * n) 4 (-1)) (60 + 2 * n) 5 (-1)) (60 + 2 * n) 6 (-1)) (60 + 2 * n) 7 (-1)) (60 + 2 * n) 8 0) (60 + 2 * n) 9 (-1)) (60 + 2 * n) 0 (nI n)) (60 + 2 * n) 1 p1) (60 + 2 * n) 2 x) (60 + 2 * n) 10 (nI n)) (61 + 2 * n) 0 6 (-1)) 3 n (some (60 + 2 * n))) 2 1 (nI (n + 1))), ?_, ?_, ?_, ?_, ?_, ?_, ?_, ?_, ?_, ?_, ?_, ?_, ?_, ?_, ?_, ?_, ?_, ?_⟩
  · have hc : f_X5_init (60 + 2 * n) (nI n) p1 x (nw u) = some (rngI (sI (sR (sI (sI (sI (sI (sI (sI (sI (sI (sR (nw (nw u)) (60 + 2 * n) 3 (some (61 + 2 * n))) (60 + 2 * n) 4 (-1)) (60 + 2 * n) 5 (-1)) (60 + 2 * n) 6 (-1)) (60 + 2 * n) 7 (-1)) (60 + 2 * n) 8 0) (60 + 2 * n) 9 (-1)) (60 + 2 * n) 0 (nI n)) (60 + 2 * n) 1 p1) (60 + 2 * n) 2 x) (60 + 2 * n) 10 (nI n)) (61 + 2 * n) 0 6 (-1)) := by
      rw [f_X5_init, okM_t (by rw [e1]; exact shp_s n) (by rw [e1]; exact aln_s n), gd_t, bb_e, e1, oT (by omega), gd_t, bb_e]
      rw [show gR (sI (sR (sI (sI (sI (sI (sI (sI (sI (sI (sR (nw (nw u)) (60 + 2 * n) 3 (some (61 + 2 * n))) (60 + 2 * n) 4 (-1)) (60 + 2 * n) 5 (-1)) (60 + 2 * n) 6 (-1)) (60 + 2 * n) 7 (-1)) (60 + 2 * n) 8 0) (60 + 2 * n) 9 (-1)) (60 + 2 * n) 0 (nI n)) (60 + 2 * n) 1 p1) (60 + 2 * n) 2 x) (60 + 2 * n) 10 (nI n)) (60 + 2 * n) 3 = some (61 + 2 * n) from by simp (disch := omega) only [gI_e, gL_e, gR_e, gI_n, gL_n, gR_n, gI_re, gI_rn, gI_nn, gL_nn, gR_nn, gI_sR, gI_sL, gR_sI, gR_sL, gL_sI, gL_sR, gR_rngI, gL_rngI, gI_rngL, gR_rngL], hf, bd_s]
    have o1 : okO (rngI (sI (sR (sI (sI (sI (sI (sI (sI (sI (sI (sR (nw (nw u)) (60 + 2 * n) 3 (some (61 + 2 * n))) (60 + 2 * n) 4 (-1)) (60 + 2 * n) 5 (-1)) (60 + 2 * n) 6 (-1)) (60 + 2 * n) 7 (-1)) (60 + 2 * n) 8 0) (60 + 2 * n) 9 (-1)) (60 + 2 * n) 0 (nI n)) (60 + 2 * n) 1 p1) (60 + 2 * n) 2 x) (60 + 2 * n) 10 (nI n)) (61 + 2 * n) 0 6 (-1)) (60 + 2 * n) 5 = true := oT (u := nw (nw u)) (by omega)
    have o2 : okA (rngI (sI (sR (sI (sI (sI (sI (sI (sI (sI (sI (sR (nw (nw u)) (60 + 2 * n) 3 (some (61 + 2 * n))) (60 + 2 * n) 4 (-1)) (60 + 2 * n) 5 (-1)) (60 + 2 * n) 6 (-1)) (60 + 2 * n) 7 (-1)) (60 + 2 * n) 8 0) (60 + 2 * n) 9 (-1)) (60 + 2 * n) 0 (nI n)) (60 + 2 * n) 1 p1) (60 + 2 * n) 2 x) (60 + 2 * n) 10 (nI n)) (61 + 2 * n) 0 6 (-1)) 3 12 (nI n) = true := oA3 (u := nw (nw u)) (by omega) hn
    have o3 : okO (sR (rngI (sI (sR (sI (sI (sI (sI (sI (sI (sI (sI (sR (nw (nw u)) (60 + 2 * n) 3 (some (61 + 2 * n))) (60 + 2 * n) 4 (-1)) (60 + 2 * n) 5 (-1)) (60 + 2 * n) 6 (-1)) (60 + 2 * n) 7 (-1)) (60 + 2 * n) 8 0) (60 + 2 * n) 9 (-1)) (60 + 2 * n) 0 (nI n)) (60 + 2 * n) 1 p1) (60 + 2 * n) 2 x) (60 + 2 * n) 10 (nI n)) (61 + 2 * n) 0 6 (-1)) 3 n (some (60 + 2 * n))) 2 0 = true := oO2 (u := nw (nw u)) (by omega)
    rw [f_X0_add, oO2 h60, gd_t, bb_e, hm, if_pos (by rw [show (80 : Int32) = nI 80 from rfl]; exact nI_lt hn (by omega)), bb_e, okN_t (by rw [hu]; exact shp_t n), gd_t, bb_e, hu, hc, bd_s, rc_2_0 hRC, cs_s, o1, gd_t, o2, gd_t, nI_clamp (by omega), o3, gd_t, nI_1']
  · exact e2
  · intro r k h1 h2
    simp (disch := omega) only [gI_e, gL_e, gR_e, gI_n, gL_n, gR_n, gI_re, gI_rn, gI_nn, gL_nn, gR_nn, gI_sR, gI_sL, gR_sI, gR_sL, gL_sI, gL_sR, gR_rngI, gL_rngI, gI_rngL, gR_rngL]
  · exact gI_e
  · intro r k h1 h2
    simp (disch := omega) only [gI_e, gL_e, gR_e, gI_n, gL_n, gR_n, gI_re, gI_rn, gI_nn, gL_nn, gR_nn, gI_sR, gI_sL, gR_sI, gR_sL, gL_sI, gL_sR, gR_rngI, gL_rngI, gI_rngL, gR_rngL]
  · simp only [gR_sI, gR_e]
  · intro r k h1
    simp (disch := omega) only [gI_e, gL_e, gR_e, gI_n, gL_n, gR_n, gI_re, gI_rn, gI_nn, gL_nn, gR_nn, gI_sR, gI_sL, gR_sI, gR_sL, gL_sI, gL_sR, gR_rngI, gL_rngI, gI_rngL, gR_rngL]
  · simp (disch := omega) only [gI_e, gL_e, gR_e, gI_n, gL_n, gR_n, gI_re, gI_rn, gI_nn, gL_nn, gR_nn, gI_sR, gI_sL, gR_sI, gR_sL, gL_sI, gL_sR, gR_rngI, gL_rngI, gI_rngL, gR_rngL]
  · simp (disch := omega) only [gI_e, gL_e, gR_e, gI_n, gL_n, gR_n, gI_re, gI_rn, gI_nn, gL_nn, gR_nn, gI_sR, gI_sL, gR_sI, gR_sL, gL_sI, gL_sR, gR_rngI, gL_rngI, gI_rngL, gR_rngL]
  · simp (disch := omega) only [gI_e, gL_e, gR_e, gI_n, gL_n, gR_n, gI_re, gI_rn, gI_nn, gL_nn, gR_nn, gI_sR, gI_sL, gR_sI, gR_sL, gL_sI, gL_sR, gR_rngI, gL_rngI, gI_rngL, gR_rngL]
  · simp (disch := omega) only [gI_e, gL_e, gR_e, gI_n, gL_n, gR_n, gI_re, gI_rn, gI_nn, gL_nn, gR_nn, gI_sR, gI_sL, gR_sI, gR_sL, gL_sI, gL_sR, gR_rngI, gL_rngI, gI_rngL, gR_rngL]
  · simp (disch := omega) only [gI_e, gL_e, gR_e, gI_n, gL_n, gR_n, gI_re, gI_rn, gI_nn, gL_nn, gR_nn, gI_sR, gI_sL, gR_sI, gR_sL, gL_sI, gL_sR, gR_rngI, gL_rngI, gI_rngL, gR_rngL]
  · simp (disch := omega) only [gI_e, gL_e, gR_e, gI_n, gL_n, gR_n, gI_re, gI_rn, gI_nn, gL_nn, gR_nn, gI_sR, gI_sL, gR_sI, gR_sL, gL_sI, gL_sR, gR_rngI, gL_rngI, gI_rngL, gR_rngL]
  · simp (disch := omega) only [gI_e, gL_e, gR_e, gI_n, gL_n, gR_n, gI_re, gI_rn, gI_nn, gL_nn, gR_nn, gI_sR, gI_sL, gR_sI, gR_sL, gL_sI, gL_sR, gR_rngI, gL_rngI, gI_rngL, gR_rngL]
  · simp (disch := omega) only [gI_e, gL_e, gR_e, gI_n, gL_n, gR_n, gI_re, gI_rn, gI_nn, gL_nn, gR_nn, gI_sR, gI_sL, gR_sI, gR_sL, gL_sI, gL_sR, gR_rngI, gL_rngI, gI_rngL, gR_rngL]
  · simp (disch := omega) only [gI_e, gL_e, gR_e, gI_n, gL_n, gR_n, gI_re, gI_rn, gI_nn, gL_nn, gR_nn, gI_sR, gI_sL, gR_sI, gR_sL, gL_sI, gL_sR, gR_rngI, gL_rngI, gI_rngL, gR_rngL]
  · simp (disch := omega) only [gI_e, gL_e, gR_e, gI_n, gL_n, gR_n, gI_re, gI_rn, gI_nn, gL_nn, gR_nn, gI_sR, gI_sL, gR_sI, gR_sL, gL_sI, gL_sR, gR_rngI, gL_rngI, gI_rngL, gR_rngL]
  · intro f hf
    simp (disch := omega) only [gI_e, gL_e, gR_e, gI_n, gL_n, gR_n, gI_re, gI_rn, gI_nn, gL_nn, gR_nn, gI_sR, gI_sL, gR_sI, gR_sL, gL_sI, gL_sR, gR_rngI, gL_rngI, gI_rngL, gR_rngL]
def nv (p1 p2 z : Int32) (n r : Nat) : Int32 := if r = 37 then p1 else if r = 38 then p2 else if r = 40 then nI n else if r = 43 then z else if r = 45 then 0 else -1
def thA (A : Ab) (p1 p2 z : Int32) : Ab := (an A + 1, ae A, fun r k => if 37 ≤ r ∧ r ≤ 48 ∧ ((r = 41 ∧ 6 * an A ≤ k ∧ k < 6 * an A + 6) ∨ (r ≠ 41 ∧ k = an A)) then nv p1 p2 z (an A) r else aI A r k, fun r k => aL A r k)
theorem aI_thA (A : Ab) (p1 p2 z : Int32) (r k : Nat) : aI (thA A p1 p2 z) r k = if 37 ≤ r ∧ r ≤ 48 ∧ ((r = 41 ∧ 6 * an A ≤ k ∧ k < 6 * an A + 6) ∨ (r ≠ 41 ∧ k = an A)) then nv p1 p2 z (an A) r else aI A r k := rfl
theorem th_st (A : Ab) (p1 p2 z c : Int32) : thA (st A c) p1 p2 z = st (thA A p1 p2 z) c := by
  unfold thA st tI
  simp only [Prod.mk.injEq]
  refine ⟨rfl, rfl, ?_, rfl⟩
  funext r k
  simp only [up2, aI, an]
  by_cases h : r = 33 ∧ k = 0
  · obtain ⟨rfl, rfl⟩ := h
    simp
  · simp only [if_neg h]
    rfl
theorem th_old (A : Ab) (p1 p2 z : Int32) {r k : Nat} (h : r < 37 ∨ 48 < r ∨ (r ≠ 41 ∧ k ≠ an A)) : aI (thA A p1 p2 z) r k = aI A r k := by rw [aI_thA, if_neg (by omega)]
theorem th_said (A : Ab) (p1 p2 z : Int32) {i f : Nat} (hi : i < an A) (hf : f < 6) : aI (thA A p1 p2 z) 41 (6 * i + f) = aI A 41 (6 * i + f) := by rw [aI_thA, if_neg (by omega)]
theorem th_new (A : Ab) (p1 p2 z : Int32) {r : Nat} (h1 : 37 ≤ r) (h2 : r ≤ 48) (h3 : r ≠ 41) : aI (thA A p1 p2 z) r (an A) = nv p1 p2 z (an A) r := by rw [aI_thA, if_pos (by omega)]
theorem th_news (A : Ab) (p1 p2 z : Int32) {f : Nat} (hf : f < 6) : aI (thA A p1 p2 z) 41 (6 * an A + f) = -1 := by rw [aI_thA, if_pos (by omega)]; rfl
theorem par_new (A : Ab) (p1 p2 z : Int32) : par (thA A p1 p2 z) (an A) = if p2 = -1 then none else some p2.toNatClampNeg := by
  unfold par
  rw [th_new A p1 p2 z (by omega) (by omega) (by omega)]
  rfl
theorem par_old (A : Ab) (p1 p2 z : Int32) {i : Nat} (h : i < an A) : par (thA A p1 p2 z) i = par A i := by
  unfold par
  rw [th_old A p1 p2 z (by omega)]
theorem CR_thing {u W : Mm} {A : Ab} (hC : CR u A) (hW : Wf A) (p1 p2 z : Int32) {x : Option Nat} (hx : x = pC (if p2 = -1 then none else some p2.toNatClampNeg)) (w1 : W.1 = 62 + 2 * an A) (w2 : ∀ r k, r < 60 + 2 * an A → ¬ (r = 2 ∧ k = 1) → gI W r k = gI u r k) (w3 : gI W 2 1 = nI (an A + 1)) (w4 : ∀ r k, r < 60 + 2 * an A → ¬ (r = 3 ∧ k = an A) → gR W r k = gR u r k) (w5 : gR W 3 (an A) = some (60 + 2 * an A)) (w6 : ∀ r k, r < 60 + 2 * an A → gL W r k = gL u r k)
    (y0 : gI W (60 + 2 * an A) 0 = nI (an A)) (y1 : gI W (60 + 2 * an A) 1 = p1) (y2 : gR W (60 + 2 * an A) 2 = x) (y3 : gR W (60 + 2 * an A) 3 = some (61 + 2 * an A)) (y4 : gI W (60 + 2 * an A) 4 = -1) (y6 : gI W (60 + 2 * an A) 6 = -1) (y7 : gI W (60 + 2 * an A) 7 = -1) (y8 : gI W (60 + 2 * an A) 8 = 0) (y9 : gI W (60 + 2 * an A) 9 = -1) (y10 : gI W (60 + 2 * an A) 10 = nI (an A)) (ys : ∀ f, f < 6 → gI W (61 + 2 * an A) f = -1) : CR W (thA A p1 p2 z) := by
  have h80 := hW.1.1
  obtain ⟨c1, c2, c3, c4, c5, c6, c7, c8, c9⟩ := hC
  refine ⟨RC_cong c1 (fun r k h1 h2 _ => w4 r k (by omega) (by omega)), ⟨by rw [w1]; show _ = 60 + 2 * (an A + 1); omega, w3⟩, by rw [w2 0 5 (by omega) (by omega), th_old A p1 p2 z (by omega)]; exact c3, ⟨by rw [w6 0 6 (by omega)]; exact c4.1, by rw [w6 0 7 (by omega)]; exact c4.2⟩, ?_, ⟨?_, ?_⟩, ?_, ?_, ?_⟩
  · intro i hi
    have hi : i < an A + 1 := hi
    by_cases e : i = an A
    · subst e
      unfold GT1
      rw [par_new]
      simp (disch := omega) only [th_new A p1 p2 z]
      refine ⟨w5, y0, y1, by rw [y2, hx], y3, y4, fun h => absurd rfl h, y6, y7, y8, y9, fun f hf => ?_⟩
      rw [ys f hf, th_news A p1 p2 z hf]
    · have hi : i < an A := by omega
      have q := c5 i hi
      unfold GT1 at q ⊢
      rw [par_old A p1 p2 z hi]
      simp (disch := omega) only [th_old A p1 p2 z, w2, w4]
      obtain ⟨q1, q2, q3, q4, q5, q6, q7, q8, q9, q10, q11, q12⟩ := q
      exact ⟨q1, q2, q3, q4, q5, q6, q7, q8, q9, q10, q11, fun f hf => by rw [th_said A p1 p2 z hi hf]; exact q12 f hf⟩
  · intro i hi
    have hi : i < an A + 1 := hi
    by_cases e : i = an A
    · subst e
      exact ⟨an A, by show an A < an A + 1; omega, y10⟩
    · obtain ⟨q, h1, h2⟩ := c6.1 i (by omega)
      exact ⟨q, by show q < an A + 1; omega, by rw [w2 _ _ (by omega) (by omega)]; exact h2⟩
  · have key : ∀ i, i < an A → (gI W (60 + 2 * i) 10 = nI (an A) ↔ aI (thA A p1 p2 z) 40 i = nI (an A)) := fun i hi => by
      obtain ⟨q, h1, h2⟩ := c6.1 i hi
      obtain ⟨q', h1', h2'⟩ := (hW.1.2 i hi).2.2.2.1
      rw [w2 _ _ (by omega) (by omega), h2, th_old A p1 p2 z (by omega), h2', nI_eq (by omega) (by omega), nI_eq (by omega) (by omega)]
      omega
    have hnew : aI (thA A p1 p2 z) 40 (an A) = nI (an A) := th_new A p1 p2 z (by omega) (by omega) (by omega)
    intro i j hi hj
    have hi : i < an A + 1 := hi
    have hj : j < an A + 1 := hj
    by_cases e : i = an A
    · by_cases e2 : j = an A
      · rw [e, e2]; exact ⟨fun _ => rfl, fun _ => rfl⟩
      · have := key j (by omega)
        rw [e, y10, hnew]
        exact ⟨fun h => (this.mp h.symm).symm, fun h => (this.mpr h.symm).symm⟩
    · by_cases e2 : j = an A
      · have := key i (by omega)
        rw [e2, y10, hnew]
        exact this
      · rw [w2 _ _ (by omega) (by omega), w2 _ _ (by omega) (by omega), th_old A p1 p2 z (by omega), th_old A p1 p2 z (by omega)]
        exact c6.2 i j (by omega) (by omega)
  · exact GY_cong c7 (fun r k _ _ => w2 r k (by omega) (by omega)) (fun r k _ _ => w6 r k (by omega)) (fun r k _ _ => th_old A p1 p2 z (by omega)) (fun _ => rfl)
  · exact GL_cong c8 rfl (fun r k _ _ => w2 r k (by omega) (by omega)) (fun r k _ _ => th_old A p1 p2 z (by omega))
  · have e1 : plc (thA A p1 p2 z) = plc A := by
      funext i
      unfold plc
      show (if i < an A + 1 then _ else _) = _
      by_cases e : i = an A
      · subst e
        rw [if_pos (by omega), if_neg (by omega), th_new A p1 p2 z (by omega) (by omega) (by omega)]
        rfl
      · rw [th_old A p1 p2 z (by omega)]
        by_cases h : i < an A
        · rw [if_pos h, if_pos (by omega)]
        · rw [if_neg h, if_neg (by omega)]
    have e2 : gol (thA A p1 p2 z) = gol A := by
      funext i
      unfold gol
      show (if i < an A + 1 then _ else _) = _
      by_cases e : i = an A
      · subst e
        rw [if_pos (by omega), if_neg (by omega), th_new A p1 p2 z (by omega) (by omega) (by omega)]
        rfl
      · rw [th_old A p1 p2 z (by omega)]
        by_cases h : i < an A
        · rw [if_pos h, if_pos (by omega)]
        · rw [if_neg h, if_neg (by omega)]
    unfold GS Lay at c9 ⊢
    simp (disch := omega) only [e1, e2, w2]
    exact c9
/-- the reference's cells with one thing more -/
def thM (w : Mm) (p1 p2 : Int32) (n : Nat) : Mm := sI (sI (sI (sI (sI (sI (rngI (sI (sI (sI (sI w 37 n p1) 38 n p2) 39 n (-1)) 40 n (nI n)) 41 (6 * n) 6 (-1)) 42 n (-1)) 44 n (-1)) 46 n (-1)) 47 n (-1)) 48 n (-1)) 33 7 (nI (n + 1))
theorem thM_old (w : Mm) (p1 p2 : Int32) {n r k : Nat} (h : r < 37 ∨ 48 < r ∨ r = 43 ∨ r = 45 ∨ (r ≠ 41 ∧ k ≠ n) ∨ (r = 41 ∧ ¬ (6 * n ≤ k ∧ k < 6 * n + 6))) (h2 : ¬ (r = 33 ∧ k = 7)) : gI (thM w p1 p2 n) r k = gI w r k := by
  unfold thM
  simp (disch := omega) only [gI_e, gL_e, gR_e, gI_n, gL_n, gR_n, gI_re, gI_rn, gI_nn, gL_nn, gR_nn, gI_sR, gI_sL, gR_sI, gR_sL, gL_sI, gL_sR, gR_rngI, gL_rngI, gI_rngL, gR_rngL]
theorem MR_thing {w : Mm} {A : Ab} (hM : MR w A) (hn : an A < 80) (p1 p2 : Int32) : MR (thM w p1 p2 (an A)) (thA A p1 p2 (gI w 43 (an A))) := by
  obtain ⟨c1, c2, c3, c4, c5, c6, c7, c8⟩ := hM
  have hI : ∀ r k, (r < 37 ∨ 48 < r ∨ (r ≠ 41 ∧ k ≠ an A)) → ¬ (r = 33 ∧ k = 7) → gI (thM w p1 p2 (an A)) r k = gI w r k := fun r k h1 h2 => by
    rw [thM_old _ _ _ (by omega) (by omega)]
  refine ⟨RM_cong c1 (fun _ => rfl), c2, by unfold thM; exact gI_e, by rw [hI 33 0 (by omega) (by omega), th_old A p1 p2 _ (by omega)]; exact c4, c5, ⟨fun i hi => ?_, fun i h1 h2 => ?_⟩, ?_, ?_⟩
  · have hi : i < an A + 1 := hi
    by_cases e : i = an A
    · subst e
      have q45 := c6.2 (an A) (Nat.le_refl _) hn
      unfold HT1
      simp (disch := omega) only [th_new A p1 p2]
      unfold thM
      simp (disch := omega) only [gI_e, gL_e, gR_e, gI_n, gL_n, gR_n, gI_re, gI_rn, gI_nn, gL_nn, gR_nn, gI_sR, gI_sL, gR_sI, gR_sL, gL_sI, gL_sR, gR_rngI, gL_rngI, gI_rngL, gR_rngL]
      refine ⟨rfl, rfl, rfl, rfl, rfl, rfl, rfl, q45, rfl, rfl, rfl, fun f hf => ?_⟩
      rw [th_news A p1 p2 _ hf]
      exact gI_re (by omega)
    · have hi : i < an A := by omega
      have q := c6.1 i hi
      unfold HT1 at q ⊢
      simp (disch := omega) only [th_old A p1 p2, hI]
      obtain ⟨q1, q2, q3, q4, q5, q6, q7, q8, q9, q10, q11, q12⟩ := q
      refine ⟨q1, q2, q3, q4, q5, q6, q7, q8, q9, q10, q11, fun f hf => ?_⟩
      rw [th_said A p1 p2 _ hi hf, thM_old _ _ _ (by omega) (by omega)]
      exact q12 f hf
  · have h1 : an A + 1 ≤ i := h1
    rw [hI 45 i (by omega) (by omega)]
    exact c6.2 i (by omega) h2
  · exact HY_cong c7 (fun r k _ _ => hI r k (by omega) (by omega)) (fun _ => rfl) (fun r k _ _ => th_old A p1 p2 _ (by omega)) (fun _ => rfl)
  · exact HL_cong c8 rfl (hI 33 22 (by omega) (by omega)) (fun r k _ _ => hI r k (by omega) (by omega)) (fun r k _ _ => th_old A p1 p2 _ (by omega))
theorem WD_thing {A : Ab} {r : Nat} (h : WD A r) (hr : r = 46 ∨ r = 47 ∨ r = 48) (p1 p2 z : Int32) : WD (thA A p1 p2 z) r := by
  have hn : aI (thA A p1 p2 z) r (an A) = -1 := by
    rw [th_new A p1 p2 z (by omega) (by omega) (by omega)]
    rcases hr with rfl | rfl | rfl <;> rfl
  intro i j hi hj hij e
  have hi : i < an A + 1 := hi
  have hj : j < an A + 1 := hj
  by_cases e1 : i = an A
  · rw [e1]; exact hn
  · by_cases e2 : j = an A
    · rw [e, e2]; exact hn
    · rw [th_old A p1 p2 z (by omega), th_old A p1 p2 z (by omega)] at e
      rw [th_old A p1 p2 z (by omega)]
      exact h i j (by omega) (by omega) hij e
theorem Wf_thing {A : Ab} (hW : Wf A) (hn : an A < 80) {p1 p2 : Int32} (z : Int32) (h1 : 0 ≤ p1.toInt ∧ p1.toInt ≤ 3) (h2 : -1 ≤ p2.toInt ∧ p2.toInt < (an A : Int)) : Wf (thA A p1 p2 z) := by
  obtain ⟨c1, c2, c3, c4, c5, c6⟩ := hW
  refine ⟨⟨by show an A + 1 ≤ 80; omega, fun i hi => ?_⟩, WD_thing c2 (by omega) p1 p2 z, WD_thing c3 (by omega) p1 p2 z, WD_thing c4 (by omega) p1 p2 z, WY_cong c5 (fun r k _ _ => th_old A p1 p2 z (by omega)), WL_cong c6 rfl (fun r k _ _ => th_old A p1 p2 z (by omega))⟩
  have hi : i < an A + 1 := hi
  by_cases e : i = an A
  · subst e
    unfold WT1
    simp (disch := omega) only [th_new A p1 p2 z]
    refine ⟨h1, h2, (by show -1 ≤ (-1 : Int32).toInt ∧ (-1 : Int32).toInt ≤ 999; decide), ⟨an A, Nat.le_refl _, rfl⟩, (by show -1 ≤ (-1 : Int32).toInt ∧ (-1 : Int32).toInt ≤ 100000; decide), fun h => absurd rfl h, (by show -1 ≤ (-1 : Int32).toInt ∧ (-1 : Int32).toInt ≤ 200000; decide), (by show -1 ≤ (-1 : Int32).toInt ∧ (-1 : Int32).toInt ≤ 9999; decide), (by show -1 ≤ (-1 : Int32).toInt ∧ (-1 : Int32).toInt < 40; decide), (by show -1 ≤ (-1 : Int32).toInt ∧ (-1 : Int32).toInt < 40; decide), fun f hf => ?_⟩
    rw [th_news A p1 p2 z hf]
    decide
  · have q := c1.2 i (by omega)
    unfold WT1 at q ⊢
    simp (disch := omega) only [th_old A p1 p2 z]
    obtain ⟨q1, q2, q3, q4, q5, q6, q7, q8, q9, q10, q12⟩ := q
    exact ⟨q1, q2, q3, q4, q5, q6, q7, q8, q9, q10, fun f hf => by rw [th_said A p1 p2 z (by omega) hf]; exact q12 f hf⟩
theorem keepC.thM {w : Mm} {p1 p2 : Int32} {n : Nat} : keepC w (thM w p1 p2 n) := ⟨rfl, fun r h => ⟨fun k => thM_old _ _ _ (by omega) (by omega), fun _ => rfl, fun _ => rfl⟩⟩
theorem M_thing {v : Mm} {A : Ab} (hW : Wf A) (h60 : 60 ≤ v.1) (hM : MR (m0 v) A) {p1 p2 : Int32} (h : (p1 = 0 ∧ p2 = -1) ∨ (¬ p1 = 0 ∧ (0 ≤ p1.toInt ∧ p1.toInt ≤ 3) ∧ ∃ j, j < an A ∧ p2 = nI j ∧ (aI A 37 j = p1 - 1 ∨ (p1 = 3 ∧ aI A 37 j = 1)))) : f_X8_thing 33 p1 p2 v = if an A = 80 then some (-1, sI (m0 v) 33 0 7) else some (nI (an A), thM (m0 v) p1 p2 (an A)) := by
  have h80 := hW.1.1
  rw [f_X8_thing, oO33 h60, gd_t]
  unfold m0 at hM ⊢
  generalize sI (sI v 33 1 0) 33 0 0 = w at *
  clear h60
  have hb := fun j hj => mt_some hM hW (i := j) hj
  obtain ⟨hRM, h60, h7, -, -, hT, -⟩ := hM
  have hz : (nI (an A) = 80) ↔ an A = 80 := by rw [show (80 : Int32) = nI 80 from rfl, nI_eq (by omega) (by omega)]
  have hthl := fun (k : Int32 → Mm → Option (Int32 × Mm)) (hn : an A < 80) => thl (v := sI (sI (sI (sI w 37 (an A) p1) 38 (an A) p2) 39 (an A) (-1)) 40 (an A) (nI (an A))) h60 (RM_cong hRM (fun _ => rfl)) hn (p1 := p1) (p2 := p2) (k := k)
  rcases h with ⟨a1, a2⟩ | ⟨a1, a2, j, hj, rfl, a3⟩
  · have b1 : ¬ p1 < 0 := by rw [a1]; decide
    have b2 : p1 ≤ 3 := by rw [a1]; decide
    have b3 : p1 ≤ 0 := by rw [a1]; decide
    by_cases hn : an A = 80
    · simp (disch := first | exact h60 | omega | with_unfolding_all exact h60) only [eq_false b1, eq_true b2, eq_true b3, eq_true a1, eq_true a2, h7, eq_true (hz.mpr hn), eq_true hn, ↓bb_e, ↓c_sI, ↓o_sI, ↓a_sI, ↓c_sL, ↓o_sL, ↓a_sL, ↓c_rI, ↓o_rI, ↓a_rI, ↓c_rL, ↓o_rL, ↓a_rL, ↓c_rngI, ↓o_rngI, ↓a_rngI, ↓c_rngL, ↓o_rngL, ↓a_rngL, ↓bd_s, ↓cs_s, ↓cs_n, ↓gd_t, ↓gB0, ↓gB1, ↓gOT, ↓gAS, ↓gOY, ↓gAY, ↓reduceIte, d10, nI_clamp, nI_1', i0eq, ↓gO33 h60, ↓gA34 h60, ↓gA35 h60, ↓gA36 h60, ↓gA37 h60, ↓gA38 h60, ↓gA39 h60, ↓gA40 h60, ↓gA41 h60, ↓gA42 h60, ↓gA43 h60, ↓gA44 h60, ↓gA45 h60, ↓gA46 h60, ↓gA47 h60, ↓gA48 h60, ↓gA49 h60, ↓gA50 h60, ↓gA51 h60, ↓gA52 h60, ↓gA53 h60, ↓gA54 h60, ↓gA55 h60, ↓gA56 h60, ↓gA57 h60, ↓gA58 h60, ↓gA59 h60, ↓cM_4 hRM, ↓cM_5 hRM, ↓cM_6 hRM, ↓cM_8 hRM, ↓cM_9 hRM, ↓cM_10 hRM, ↓cM_11 hRM, ↓cM_12 hRM, ↓cM_13 hRM, ↓cM_14 hRM, ↓cM_15 hRM, ↓cM_16 hRM, ↓cM_17 hRM, ↓cM_18 hRM, ↓cM_19 hRM, ↓cM_20 hRM, ↓cM_21 hRM, ↓cM_23 hRM, ↓cM_24 hRM, ↓cM_25 hRM, ↓cM_26 hRM, ↓cM_27 hRM, ↓cM_28 hRM, ↓cM_29 hRM, ↓cM_30 hRM, ↓cM_32 hRM, ↓bno8, ↓brf8]
    · have hn' : an A < 80 := by omega
      simp (disch := first | exact h60 | omega | with_unfolding_all exact h60) only [eq_false b1, eq_true b2, eq_true b3, eq_true a1, eq_true a2, h7, hz, hn, ↓hthl _ hn', gI_e, gL_e, gR_e, gI_n, gL_n, gR_n, gI_re, gI_rn, gI_nn, gL_nn, gR_nn, gI_sR, gI_sL, gR_sI, gR_sL, gL_sI, gL_sR, gR_rngI, gL_rngI, gI_rngL, gR_rngL, thM, ↓bb_e, ↓c_sI, ↓o_sI, ↓a_sI, ↓c_sL, ↓o_sL, ↓a_sL, ↓c_rI, ↓o_rI, ↓a_rI, ↓c_rL, ↓o_rL, ↓a_rL, ↓c_rngI, ↓o_rngI, ↓a_rngI, ↓c_rngL, ↓o_rngL, ↓a_rngL, ↓bd_s, ↓cs_s, ↓cs_n, ↓gd_t, ↓gB0, ↓gB1, ↓gOT, ↓gAS, ↓gOY, ↓gAY, ↓reduceIte, d10, nI_clamp, nI_1', i0eq, ↓gO33 h60, ↓gA34 h60, ↓gA35 h60, ↓gA36 h60, ↓gA37 h60, ↓gA38 h60, ↓gA39 h60, ↓gA40 h60, ↓gA41 h60, ↓gA42 h60, ↓gA43 h60, ↓gA44 h60, ↓gA45 h60, ↓gA46 h60, ↓gA47 h60, ↓gA48 h60, ↓gA49 h60, ↓gA50 h60, ↓gA51 h60, ↓gA52 h60, ↓gA53 h60, ↓gA54 h60, ↓gA55 h60, ↓gA56 h60, ↓gA57 h60, ↓gA58 h60, ↓gA59 h60, ↓cM_4 hRM, ↓cM_5 hRM, ↓cM_6 hRM, ↓cM_8 hRM, ↓cM_9 hRM, ↓cM_10 hRM, ↓cM_11 hRM, ↓cM_12 hRM, ↓cM_13 hRM, ↓cM_14 hRM, ↓cM_15 hRM, ↓cM_16 hRM, ↓cM_17 hRM, ↓cM_18 hRM, ↓cM_19 hRM, ↓cM_20 hRM, ↓cM_21 hRM, ↓cM_23 hRM, ↓cM_24 hRM, ↓cM_25 hRM, ↓cM_26 hRM, ↓cM_27 hRM, ↓cM_28 hRM, ↓cM_29 hRM, ↓cM_30 hRM, ↓cM_32 hRM, ↓bno8, ↓brf8]
  · have b1 : ¬ p1 < 0 := by rw [i_lt, li_0]; omega
    have b2 : p1 ≤ 3 := by rw [i_le, li_3]; omega
    have b4 : p1.toInt ≠ 0 := fun q => a1 (by rw [i_eq, q]; rfl)
    have b3 : ¬ p1 ≤ 0 := by rw [i_le, li_0]; omega
    obtain ⟨k1, -⟩ := hT.1 j hj
    have hbj := hb j hj
    clear hb
    by_cases hn : an A = 80
    · rcases a3 with a3 | ⟨a3, a4⟩
      · simp (disch := first | exact h60 | omega | with_unfolding_all exact h60) only [eq_false b1, eq_true b2, eq_false b3, eq_false a1, ↓bd_of hbj, k1, eq_true a3, h7, eq_true (hz.mpr hn), eq_true hn, ↓bb_e, ↓c_sI, ↓o_sI, ↓a_sI, ↓c_sL, ↓o_sL, ↓a_sL, ↓c_rI, ↓o_rI, ↓a_rI, ↓c_rL, ↓o_rL, ↓a_rL, ↓c_rngI, ↓o_rngI, ↓a_rngI, ↓c_rngL, ↓o_rngL, ↓a_rngL, ↓bd_s, ↓cs_s, ↓cs_n, ↓gd_t, ↓gB0, ↓gB1, ↓gOT, ↓gAS, ↓gOY, ↓gAY, ↓reduceIte, d10, nI_clamp, nI_1', i0eq, ↓gO33 h60, ↓gA34 h60, ↓gA35 h60, ↓gA36 h60, ↓gA37 h60, ↓gA38 h60, ↓gA39 h60, ↓gA40 h60, ↓gA41 h60, ↓gA42 h60, ↓gA43 h60, ↓gA44 h60, ↓gA45 h60, ↓gA46 h60, ↓gA47 h60, ↓gA48 h60, ↓gA49 h60, ↓gA50 h60, ↓gA51 h60, ↓gA52 h60, ↓gA53 h60, ↓gA54 h60, ↓gA55 h60, ↓gA56 h60, ↓gA57 h60, ↓gA58 h60, ↓gA59 h60, ↓cM_4 hRM, ↓cM_5 hRM, ↓cM_6 hRM, ↓cM_8 hRM, ↓cM_9 hRM, ↓cM_10 hRM, ↓cM_11 hRM, ↓cM_12 hRM, ↓cM_13 hRM, ↓cM_14 hRM, ↓cM_15 hRM, ↓cM_16 hRM, ↓cM_17 hRM, ↓cM_18 hRM, ↓cM_19 hRM, ↓cM_20 hRM, ↓cM_21 hRM, ↓cM_23 hRM, ↓cM_24 hRM, ↓cM_25 hRM, ↓cM_26 hRM, ↓cM_27 hRM, ↓cM_28 hRM, ↓cM_29 hRM, ↓cM_30 hRM, ↓cM_32 hRM, ↓bno8, ↓brf8]
      · by_cases a5 : aI A 37 j = p1 - 1
        · simp (disch := first | exact h60 | omega | with_unfolding_all exact h60) only [eq_false b1, eq_true b2, eq_false b3, eq_false a1, ↓bd_of hbj, k1, eq_true a5, h7, eq_true (hz.mpr hn), eq_true hn, ↓bb_e, ↓c_sI, ↓o_sI, ↓a_sI, ↓c_sL, ↓o_sL, ↓a_sL, ↓c_rI, ↓o_rI, ↓a_rI, ↓c_rL, ↓o_rL, ↓a_rL, ↓c_rngI, ↓o_rngI, ↓a_rngI, ↓c_rngL, ↓o_rngL, ↓a_rngL, ↓bd_s, ↓cs_s, ↓cs_n, ↓gd_t, ↓gB0, ↓gB1, ↓gOT, ↓gAS, ↓gOY, ↓gAY, ↓reduceIte, d10, nI_clamp, nI_1', i0eq, ↓gO33 h60, ↓gA34 h60, ↓gA35 h60, ↓gA36 h60, ↓gA37 h60, ↓gA38 h60, ↓gA39 h60, ↓gA40 h60, ↓gA41 h60, ↓gA42 h60, ↓gA43 h60, ↓gA44 h60, ↓gA45 h60, ↓gA46 h60, ↓gA47 h60, ↓gA48 h60, ↓gA49 h60, ↓gA50 h60, ↓gA51 h60, ↓gA52 h60, ↓gA53 h60, ↓gA54 h60, ↓gA55 h60, ↓gA56 h60, ↓gA57 h60, ↓gA58 h60, ↓gA59 h60, ↓cM_4 hRM, ↓cM_5 hRM, ↓cM_6 hRM, ↓cM_8 hRM, ↓cM_9 hRM, ↓cM_10 hRM, ↓cM_11 hRM, ↓cM_12 hRM, ↓cM_13 hRM, ↓cM_14 hRM, ↓cM_15 hRM, ↓cM_16 hRM, ↓cM_17 hRM, ↓cM_18 hRM, ↓cM_19 hRM, ↓cM_20 hRM, ↓cM_21 hRM, ↓cM_23 hRM, ↓cM_24 hRM, ↓cM_25 hRM, ↓cM_26 hRM, ↓cM_27 hRM, ↓cM_28 hRM, ↓cM_29 hRM, ↓cM_30 hRM, ↓cM_32 hRM, ↓bno8, ↓brf8]
        · simp (disch := first | exact h60 | omega | with_unfolding_all exact h60) only [eq_false b1, eq_true b2, eq_false b3, eq_false a1, ↓bd_of hbj, k1, eq_true a3, eq_true a4, eq_false a5, h7, eq_true (hz.mpr hn), eq_true hn, ↓bb_e, ↓c_sI, ↓o_sI, ↓a_sI, ↓c_sL, ↓o_sL, ↓a_sL, ↓c_rI, ↓o_rI, ↓a_rI, ↓c_rL, ↓o_rL, ↓a_rL, ↓c_rngI, ↓o_rngI, ↓a_rngI, ↓c_rngL, ↓o_rngL, ↓a_rngL, ↓bd_s, ↓cs_s, ↓cs_n, ↓gd_t, ↓gB0, ↓gB1, ↓gOT, ↓gAS, ↓gOY, ↓gAY, ↓reduceIte, d10, nI_clamp, nI_1', i0eq, ↓gO33 h60, ↓gA34 h60, ↓gA35 h60, ↓gA36 h60, ↓gA37 h60, ↓gA38 h60, ↓gA39 h60, ↓gA40 h60, ↓gA41 h60, ↓gA42 h60, ↓gA43 h60, ↓gA44 h60, ↓gA45 h60, ↓gA46 h60, ↓gA47 h60, ↓gA48 h60, ↓gA49 h60, ↓gA50 h60, ↓gA51 h60, ↓gA52 h60, ↓gA53 h60, ↓gA54 h60, ↓gA55 h60, ↓gA56 h60, ↓gA57 h60, ↓gA58 h60, ↓gA59 h60, ↓cM_4 hRM, ↓cM_5 hRM, ↓cM_6 hRM, ↓cM_8 hRM, ↓cM_9 hRM, ↓cM_10 hRM, ↓cM_11 hRM, ↓cM_12 hRM, ↓cM_13 hRM, ↓cM_14 hRM, ↓cM_15 hRM, ↓cM_16 hRM, ↓cM_17 hRM, ↓cM_18 hRM, ↓cM_19 hRM, ↓cM_20 hRM, ↓cM_21 hRM, ↓cM_23 hRM, ↓cM_24 hRM, ↓cM_25 hRM, ↓cM_26 hRM, ↓cM_27 hRM, ↓cM_28 hRM, ↓cM_29 hRM, ↓cM_30 hRM, ↓cM_32 hRM, ↓bno8, ↓brf8]
    · have hn' : an A < 80 := by omega
      rcases a3 with a3 | ⟨a3, a4⟩
      · simp (disch := first | exact h60 | omega | with_unfolding_all exact h60) only [eq_false b1, eq_true b2, eq_false b3, eq_false a1, ↓bd_of hbj, k1, eq_true a3, h7, hz, hn, ↓hthl _ hn', gI_e, gL_e, gR_e, gI_n, gL_n, gR_n, gI_re, gI_rn, gI_nn, gL_nn, gR_nn, gI_sR, gI_sL, gR_sI, gR_sL, gL_sI, gL_sR, gR_rngI, gL_rngI, gI_rngL, gR_rngL, thM, ↓bb_e, ↓c_sI, ↓o_sI, ↓a_sI, ↓c_sL, ↓o_sL, ↓a_sL, ↓c_rI, ↓o_rI, ↓a_rI, ↓c_rL, ↓o_rL, ↓a_rL, ↓c_rngI, ↓o_rngI, ↓a_rngI, ↓c_rngL, ↓o_rngL, ↓a_rngL, ↓bd_s, ↓cs_s, ↓cs_n, ↓gd_t, ↓gB0, ↓gB1, ↓gOT, ↓gAS, ↓gOY, ↓gAY, ↓reduceIte, d10, nI_clamp, nI_1', i0eq, ↓gO33 h60, ↓gA34 h60, ↓gA35 h60, ↓gA36 h60, ↓gA37 h60, ↓gA38 h60, ↓gA39 h60, ↓gA40 h60, ↓gA41 h60, ↓gA42 h60, ↓gA43 h60, ↓gA44 h60, ↓gA45 h60, ↓gA46 h60, ↓gA47 h60, ↓gA48 h60, ↓gA49 h60, ↓gA50 h60, ↓gA51 h60, ↓gA52 h60, ↓gA53 h60, ↓gA54 h60, ↓gA55 h60, ↓gA56 h60, ↓gA57 h60, ↓gA58 h60, ↓gA59 h60, ↓cM_4 hRM, ↓cM_5 hRM, ↓cM_6 hRM, ↓cM_8 hRM, ↓cM_9 hRM, ↓cM_10 hRM, ↓cM_11 hRM, ↓cM_12 hRM, ↓cM_13 hRM, ↓cM_14 hRM, ↓cM_15 hRM, ↓cM_16 hRM, ↓cM_17 hRM, ↓cM_18 hRM, ↓cM_19 hRM, ↓cM_20 hRM, ↓cM_21 hRM, ↓cM_23 hRM, ↓cM_24 hRM, ↓cM_25 hRM, ↓cM_26 hRM, ↓cM_27 hRM, ↓cM_28 hRM, ↓cM_29 hRM, ↓cM_30 hRM, ↓cM_32 hRM, ↓bno8, ↓brf8]
      · by_cases a5 : aI A 37 j = p1 - 1
        · simp (disch := first | exact h60 | omega | with_unfolding_all exact h60) only [eq_false b1, eq_true b2, eq_false b3, eq_false a1, ↓bd_of hbj, k1, eq_true a5, h7, hz, hn, ↓hthl _ hn', gI_e, gL_e, gR_e, gI_n, gL_n, gR_n, gI_re, gI_rn, gI_nn, gL_nn, gR_nn, gI_sR, gI_sL, gR_sI, gR_sL, gL_sI, gL_sR, gR_rngI, gL_rngI, gI_rngL, gR_rngL, thM, ↓bb_e, ↓c_sI, ↓o_sI, ↓a_sI, ↓c_sL, ↓o_sL, ↓a_sL, ↓c_rI, ↓o_rI, ↓a_rI, ↓c_rL, ↓o_rL, ↓a_rL, ↓c_rngI, ↓o_rngI, ↓a_rngI, ↓c_rngL, ↓o_rngL, ↓a_rngL, ↓bd_s, ↓cs_s, ↓cs_n, ↓gd_t, ↓gB0, ↓gB1, ↓gOT, ↓gAS, ↓gOY, ↓gAY, ↓reduceIte, d10, nI_clamp, nI_1', i0eq, ↓gO33 h60, ↓gA34 h60, ↓gA35 h60, ↓gA36 h60, ↓gA37 h60, ↓gA38 h60, ↓gA39 h60, ↓gA40 h60, ↓gA41 h60, ↓gA42 h60, ↓gA43 h60, ↓gA44 h60, ↓gA45 h60, ↓gA46 h60, ↓gA47 h60, ↓gA48 h60, ↓gA49 h60, ↓gA50 h60, ↓gA51 h60, ↓gA52 h60, ↓gA53 h60, ↓gA54 h60, ↓gA55 h60, ↓gA56 h60, ↓gA57 h60, ↓gA58 h60, ↓gA59 h60, ↓cM_4 hRM, ↓cM_5 hRM, ↓cM_6 hRM, ↓cM_8 hRM, ↓cM_9 hRM, ↓cM_10 hRM, ↓cM_11 hRM, ↓cM_12 hRM, ↓cM_13 hRM, ↓cM_14 hRM, ↓cM_15 hRM, ↓cM_16 hRM, ↓cM_17 hRM, ↓cM_18 hRM, ↓cM_19 hRM, ↓cM_20 hRM, ↓cM_21 hRM, ↓cM_23 hRM, ↓cM_24 hRM, ↓cM_25 hRM, ↓cM_26 hRM, ↓cM_27 hRM, ↓cM_28 hRM, ↓cM_29 hRM, ↓cM_30 hRM, ↓cM_32 hRM, ↓bno8, ↓brf8]
        · simp (disch := first | exact h60 | omega | with_unfolding_all exact h60) only [eq_false b1, eq_true b2, eq_false b3, eq_false a1, ↓bd_of hbj, k1, eq_true a3, eq_true a4, eq_false a5, h7, hz, hn, ↓hthl _ hn', gI_e, gL_e, gR_e, gI_n, gL_n, gR_n, gI_re, gI_rn, gI_nn, gL_nn, gR_nn, gI_sR, gI_sL, gR_sI, gR_sL, gL_sI, gL_sR, gR_rngI, gL_rngI, gI_rngL, gR_rngL, thM, ↓bb_e, ↓c_sI, ↓o_sI, ↓a_sI, ↓c_sL, ↓o_sL, ↓a_sL, ↓c_rI, ↓o_rI, ↓a_rI, ↓c_rL, ↓o_rL, ↓a_rL, ↓c_rngI, ↓o_rngI, ↓a_rngI, ↓c_rngL, ↓o_rngL, ↓a_rngL, ↓bd_s, ↓cs_s, ↓cs_n, ↓gd_t, ↓gB0, ↓gB1, ↓gOT, ↓gAS, ↓gOY, ↓gAY, ↓reduceIte, d10, nI_clamp, nI_1', i0eq, ↓gO33 h60, ↓gA34 h60, ↓gA35 h60, ↓gA36 h60, ↓gA37 h60, ↓gA38 h60, ↓gA39 h60, ↓gA40 h60, ↓gA41 h60, ↓gA42 h60, ↓gA43 h60, ↓gA44 h60, ↓gA45 h60, ↓gA46 h60, ↓gA47 h60, ↓gA48 h60, ↓gA49 h60, ↓gA50 h60, ↓gA51 h60, ↓gA52 h60, ↓gA53 h60, ↓gA54 h60, ↓gA55 h60, ↓gA56 h60, ↓gA57 h60, ↓gA58 h60, ↓gA59 h60, ↓cM_4 hRM, ↓cM_5 hRM, ↓cM_6 hRM, ↓cM_8 hRM, ↓cM_9 hRM, ↓cM_10 hRM, ↓cM_11 hRM, ↓cM_12 hRM, ↓cM_13 hRM, ↓cM_14 hRM, ↓cM_15 hRM, ↓cM_16 hRM, ↓cM_17 hRM, ↓cM_18 hRM, ↓cM_19 hRM, ↓cM_20 hRM, ↓cM_21 hRM, ↓cM_23 hRM, ↓cM_24 hRM, ↓cM_25 hRM, ↓cM_26 hRM, ↓cM_27 hRM, ↓cM_28 hRM, ↓cM_29 hRM, ↓cM_30 hRM, ↓cM_32 hRM, ↓bno8, ↓brf8]
theorem M_thingR {v : Mm} {A : Ab} (hW : Wf A) (h60 : 60 ≤ v.1) (hM : MR (m0 v) A) {p1 p2 c : Int32} (h : (¬ (0 ≤ p1.toInt ∧ p1.toInt ≤ 3) ∧ c = 5) ∨ (p1 = 0 ∧ ¬ p2 = -1 ∧ c = 2) ∨ (¬ p1 = 0 ∧ (0 ≤ p1.toInt ∧ p1.toInt ≤ 3) ∧ ¬ isT A p2 ∧ c = 2) ∨ (¬ p1 = 0 ∧ (0 ≤ p1.toInt ∧ p1.toInt ≤ 3) ∧ ∃ j, j < an A ∧ p2 = nI j ∧ ¬ (aI A 37 j = p1 - 1 ∨ (p1 = 3 ∧ aI A 37 j = 1)) ∧ c = 8)) : f_X8_thing 33 p1 p2 v = some (-1, sI (m0 v) 33 0 c) := by
  have h80 := hW.1.1
  rw [f_X8_thing, oO33 h60, gd_t]
  unfold m0 at hM ⊢
  generalize sI (sI v 33 1 0) 33 0 0 = w at *
  clear h60
  obtain ⟨hRM, h60, h7, -, -, hT, -⟩ := id hM
  rcases h with ⟨a1, rfl⟩ | ⟨a1, a2, rfl⟩ | ⟨a1, a2, a3, rfl⟩ | ⟨a1, a2, j, hj, rfl, a3, rfl⟩
  · by_cases b1 : p1 < 0
    · simp (disch := first | exact h60 | omega | with_unfolding_all exact h60) only [eq_true b1, ↓bb_e, ↓c_sI, ↓o_sI, ↓a_sI, ↓c_sL, ↓o_sL, ↓a_sL, ↓c_rI, ↓o_rI, ↓a_rI, ↓c_rL, ↓o_rL, ↓a_rL, ↓c_rngI, ↓o_rngI, ↓a_rngI, ↓c_rngL, ↓o_rngL, ↓a_rngL, ↓bd_s, ↓cs_s, ↓cs_n, ↓gd_t, ↓gB0, ↓gB1, ↓gOT, ↓gAS, ↓gOY, ↓gAY, ↓reduceIte, d10, nI_clamp, nI_1', i0eq, ↓gO33 h60, ↓gA34 h60, ↓gA35 h60, ↓gA36 h60, ↓gA37 h60, ↓gA38 h60, ↓gA39 h60, ↓gA40 h60, ↓gA41 h60, ↓gA42 h60, ↓gA43 h60, ↓gA44 h60, ↓gA45 h60, ↓gA46 h60, ↓gA47 h60, ↓gA48 h60, ↓gA49 h60, ↓gA50 h60, ↓gA51 h60, ↓gA52 h60, ↓gA53 h60, ↓gA54 h60, ↓gA55 h60, ↓gA56 h60, ↓gA57 h60, ↓gA58 h60, ↓gA59 h60, ↓cM_4 hRM, ↓cM_5 hRM, ↓cM_6 hRM, ↓cM_8 hRM, ↓cM_9 hRM, ↓cM_10 hRM, ↓cM_11 hRM, ↓cM_12 hRM, ↓cM_13 hRM, ↓cM_14 hRM, ↓cM_15 hRM, ↓cM_16 hRM, ↓cM_17 hRM, ↓cM_18 hRM, ↓cM_19 hRM, ↓cM_20 hRM, ↓cM_21 hRM, ↓cM_23 hRM, ↓cM_24 hRM, ↓cM_25 hRM, ↓cM_26 hRM, ↓cM_27 hRM, ↓cM_28 hRM, ↓cM_29 hRM, ↓cM_30 hRM, ↓cM_32 hRM, ↓bno8, ↓brf8]
    · have b2 : ¬ p1 ≤ 3 := by rw [i_lt, li_0] at b1; rw [i_le, li_3]; omega
      simp (disch := first | exact h60 | omega | with_unfolding_all exact h60) only [eq_false b1, eq_false b2, ↓bb_e, ↓c_sI, ↓o_sI, ↓a_sI, ↓c_sL, ↓o_sL, ↓a_sL, ↓c_rI, ↓o_rI, ↓a_rI, ↓c_rL, ↓o_rL, ↓a_rL, ↓c_rngI, ↓o_rngI, ↓a_rngI, ↓c_rngL, ↓o_rngL, ↓a_rngL, ↓bd_s, ↓cs_s, ↓cs_n, ↓gd_t, ↓gB0, ↓gB1, ↓gOT, ↓gAS, ↓gOY, ↓gAY, ↓reduceIte, d10, nI_clamp, nI_1', i0eq, ↓gO33 h60, ↓gA34 h60, ↓gA35 h60, ↓gA36 h60, ↓gA37 h60, ↓gA38 h60, ↓gA39 h60, ↓gA40 h60, ↓gA41 h60, ↓gA42 h60, ↓gA43 h60, ↓gA44 h60, ↓gA45 h60, ↓gA46 h60, ↓gA47 h60, ↓gA48 h60, ↓gA49 h60, ↓gA50 h60, ↓gA51 h60, ↓gA52 h60, ↓gA53 h60, ↓gA54 h60, ↓gA55 h60, ↓gA56 h60, ↓gA57 h60, ↓gA58 h60, ↓gA59 h60, ↓cM_4 hRM, ↓cM_5 hRM, ↓cM_6 hRM, ↓cM_8 hRM, ↓cM_9 hRM, ↓cM_10 hRM, ↓cM_11 hRM, ↓cM_12 hRM, ↓cM_13 hRM, ↓cM_14 hRM, ↓cM_15 hRM, ↓cM_16 hRM, ↓cM_17 hRM, ↓cM_18 hRM, ↓cM_19 hRM, ↓cM_20 hRM, ↓cM_21 hRM, ↓cM_23 hRM, ↓cM_24 hRM, ↓cM_25 hRM, ↓cM_26 hRM, ↓cM_27 hRM, ↓cM_28 hRM, ↓cM_29 hRM, ↓cM_30 hRM, ↓cM_32 hRM, ↓bno8, ↓brf8]
  · have b1 : ¬ p1 < 0 := by rw [a1]; decide
    have b2 : p1 ≤ 3 := by rw [a1]; decide
    simp (disch := first | exact h60 | omega | with_unfolding_all exact h60) only [eq_false b1, eq_true b2, eq_true a1, eq_false a2, ↓bb_e, ↓c_sI, ↓o_sI, ↓a_sI, ↓c_sL, ↓o_sL, ↓a_sL, ↓c_rI, ↓o_rI, ↓a_rI, ↓c_rL, ↓o_rL, ↓a_rL, ↓c_rngI, ↓o_rngI, ↓a_rngI, ↓c_rngL, ↓o_rngL, ↓a_rngL, ↓bd_s, ↓cs_s, ↓cs_n, ↓gd_t, ↓gB0, ↓gB1, ↓gOT, ↓gAS, ↓gOY, ↓gAY, ↓reduceIte, d10, nI_clamp, nI_1', i0eq, ↓gO33 h60, ↓gA34 h60, ↓gA35 h60, ↓gA36 h60, ↓gA37 h60, ↓gA38 h60, ↓gA39 h60, ↓gA40 h60, ↓gA41 h60, ↓gA42 h60, ↓gA43 h60, ↓gA44 h60, ↓gA45 h60, ↓gA46 h60, ↓gA47 h60, ↓gA48 h60, ↓gA49 h60, ↓gA50 h60, ↓gA51 h60, ↓gA52 h60, ↓gA53 h60, ↓gA54 h60, ↓gA55 h60, ↓gA56 h60, ↓gA57 h60, ↓gA58 h60, ↓gA59 h60, ↓cM_4 hRM, ↓cM_5 hRM, ↓cM_6 hRM, ↓cM_8 hRM, ↓cM_9 hRM, ↓cM_10 hRM, ↓cM_11 hRM, ↓cM_12 hRM, ↓cM_13 hRM, ↓cM_14 hRM, ↓cM_15 hRM, ↓cM_16 hRM, ↓cM_17 hRM, ↓cM_18 hRM, ↓cM_19 hRM, ↓cM_20 hRM, ↓cM_21 hRM, ↓cM_23 hRM, ↓cM_24 hRM, ↓cM_25 hRM, ↓cM_26 hRM, ↓cM_27 hRM, ↓cM_28 hRM, ↓cM_29 hRM, ↓cM_30 hRM, ↓cM_32 hRM, ↓bno8, ↓brf8]
  · have b1 : ¬ p1 < 0 := by rw [i_lt, li_0]; omega
    have b2 : p1 ≤ 3 := by rw [i_le, li_3]; omega
    simp (disch := first | exact h60 | omega | with_unfolding_all exact h60) only [eq_false b1, eq_true b2, eq_false a1, ↓bd_of (mt_none hM hW a3), ↓bb_e, ↓c_sI, ↓o_sI, ↓a_sI, ↓c_sL, ↓o_sL, ↓a_sL, ↓c_rI, ↓o_rI, ↓a_rI, ↓c_rL, ↓o_rL, ↓a_rL, ↓c_rngI, ↓o_rngI, ↓a_rngI, ↓c_rngL, ↓o_rngL, ↓a_rngL, ↓bd_s, ↓cs_s, ↓cs_n, ↓gd_t, ↓gB0, ↓gB1, ↓gOT, ↓gAS, ↓gOY, ↓gAY, ↓reduceIte, d10, nI_clamp, nI_1', i0eq, ↓gO33 h60, ↓gA34 h60, ↓gA35 h60, ↓gA36 h60, ↓gA37 h60, ↓gA38 h60, ↓gA39 h60, ↓gA40 h60, ↓gA41 h60, ↓gA42 h60, ↓gA43 h60, ↓gA44 h60, ↓gA45 h60, ↓gA46 h60, ↓gA47 h60, ↓gA48 h60, ↓gA49 h60, ↓gA50 h60, ↓gA51 h60, ↓gA52 h60, ↓gA53 h60, ↓gA54 h60, ↓gA55 h60, ↓gA56 h60, ↓gA57 h60, ↓gA58 h60, ↓gA59 h60, ↓cM_4 hRM, ↓cM_5 hRM, ↓cM_6 hRM, ↓cM_8 hRM, ↓cM_9 hRM, ↓cM_10 hRM, ↓cM_11 hRM, ↓cM_12 hRM, ↓cM_13 hRM, ↓cM_14 hRM, ↓cM_15 hRM, ↓cM_16 hRM, ↓cM_17 hRM, ↓cM_18 hRM, ↓cM_19 hRM, ↓cM_20 hRM, ↓cM_21 hRM, ↓cM_23 hRM, ↓cM_24 hRM, ↓cM_25 hRM, ↓cM_26 hRM, ↓cM_27 hRM, ↓cM_28 hRM, ↓cM_29 hRM, ↓cM_30 hRM, ↓cM_32 hRM, ↓bno8, ↓brf8]
  · have b1 : ¬ p1 < 0 := by rw [i_lt, li_0]; omega
    have b2 : p1 ≤ 3 := by rw [i_le, li_3]; omega
    have b4 : p1.toInt ≠ 0 := fun q => a1 (by rw [i_eq, q]; rfl)
    have b3 : ¬ p1 ≤ 0 := by rw [i_le, li_0]; omega
    obtain ⟨k1, -⟩ := hT.1 j hj
    have a5 : ¬ aI A 37 j = p1 - 1 := fun q => a3 (Or.inl q)
    by_cases a6 : p1 = 3
    · have a7 : ¬ aI A 37 j = 1 := fun q => a3 (Or.inr ⟨a6, q⟩)
      simp (disch := first | exact h60 | omega | with_unfolding_all exact h60) only [eq_false b1, eq_true b2, eq_false b3, eq_false a1, ↓bd_of (mt_some hM hW hj), k1, eq_false a5, eq_true a6, eq_false a7, ↓bb_e, ↓c_sI, ↓o_sI, ↓a_sI, ↓c_sL, ↓o_sL, ↓a_sL, ↓c_rI, ↓o_rI, ↓a_rI, ↓c_rL, ↓o_rL, ↓a_rL, ↓c_rngI, ↓o_rngI, ↓a_rngI, ↓c_rngL, ↓o_rngL, ↓a_rngL, ↓bd_s, ↓cs_s, ↓cs_n, ↓gd_t, ↓gB0, ↓gB1, ↓gOT, ↓gAS, ↓gOY, ↓gAY, ↓reduceIte, d10, nI_clamp, nI_1', i0eq, ↓gO33 h60, ↓gA34 h60, ↓gA35 h60, ↓gA36 h60, ↓gA37 h60, ↓gA38 h60, ↓gA39 h60, ↓gA40 h60, ↓gA41 h60, ↓gA42 h60, ↓gA43 h60, ↓gA44 h60, ↓gA45 h60, ↓gA46 h60, ↓gA47 h60, ↓gA48 h60, ↓gA49 h60, ↓gA50 h60, ↓gA51 h60, ↓gA52 h60, ↓gA53 h60, ↓gA54 h60, ↓gA55 h60, ↓gA56 h60, ↓gA57 h60, ↓gA58 h60, ↓gA59 h60, ↓cM_4 hRM, ↓cM_5 hRM, ↓cM_6 hRM, ↓cM_8 hRM, ↓cM_9 hRM, ↓cM_10 hRM, ↓cM_11 hRM, ↓cM_12 hRM, ↓cM_13 hRM, ↓cM_14 hRM, ↓cM_15 hRM, ↓cM_16 hRM, ↓cM_17 hRM, ↓cM_18 hRM, ↓cM_19 hRM, ↓cM_20 hRM, ↓cM_21 hRM, ↓cM_23 hRM, ↓cM_24 hRM, ↓cM_25 hRM, ↓cM_26 hRM, ↓cM_27 hRM, ↓cM_28 hRM, ↓cM_29 hRM, ↓cM_30 hRM, ↓cM_32 hRM, ↓bno8, ↓brf8]
    · simp (disch := first | exact h60 | omega | with_unfolding_all exact h60) only [eq_false b1, eq_true b2, eq_false b3, eq_false a1, ↓bd_of (mt_some hM hW hj), k1, eq_false a5, eq_false a6, ↓bb_e, ↓c_sI, ↓o_sI, ↓a_sI, ↓c_sL, ↓o_sL, ↓a_sL, ↓c_rI, ↓o_rI, ↓a_rI, ↓c_rL, ↓o_rL, ↓a_rL, ↓c_rngI, ↓o_rngI, ↓a_rngI, ↓c_rngL, ↓o_rngL, ↓a_rngL, ↓bd_s, ↓cs_s, ↓cs_n, ↓gd_t, ↓gB0, ↓gB1, ↓gOT, ↓gAS, ↓gOY, ↓gAY, ↓reduceIte, d10, nI_clamp, nI_1', i0eq, ↓gO33 h60, ↓gA34 h60, ↓gA35 h60, ↓gA36 h60, ↓gA37 h60, ↓gA38 h60, ↓gA39 h60, ↓gA40 h60, ↓gA41 h60, ↓gA42 h60, ↓gA43 h60, ↓gA44 h60, ↓gA45 h60, ↓gA46 h60, ↓gA47 h60, ↓gA48 h60, ↓gA49 h60, ↓gA50 h60, ↓gA51 h60, ↓gA52 h60, ↓gA53 h60, ↓gA54 h60, ↓gA55 h60, ↓gA56 h60, ↓gA57 h60, ↓gA58 h60, ↓gA59 h60, ↓cM_4 hRM, ↓cM_5 hRM, ↓cM_6 hRM, ↓cM_8 hRM, ↓cM_9 hRM, ↓cM_10 hRM, ↓cM_11 hRM, ↓cM_12 hRM, ↓cM_13 hRM, ↓cM_14 hRM, ↓cM_15 hRM, ↓cM_16 hRM, ↓cM_17 hRM, ↓cM_18 hRM, ↓cM_19 hRM, ↓cM_20 hRM, ↓cM_21 hRM, ↓cM_23 hRM, ↓cM_24 hRM, ↓cM_25 hRM, ↓cM_26 hRM, ↓cM_27 hRM, ↓cM_28 hRM, ↓cM_29 hRM, ↓cM_30 hRM, ↓cM_32 hRM, ↓bno8, ↓brf8]
theorem C_thing {u W : Mm} {A : Ab} (hW : Wf A) (hC : CR u A) {p1 p2 : Int32} (h : (p1 = 0 ∧ p2 = -1) ∨ (¬ p1 = 0 ∧ (0 ≤ p1.toInt ∧ p1.toInt ≤ 3) ∧ ∃ j, j < an A ∧ p2 = nI j ∧ (aI A 37 j = p1 - 1 ∨ (p1 = 3 ∧ aI A 37 j = 1)))) (h60' : 60 ≤ W.1) (hadd : an A < 80 → f_X0_add 2 p1 (pC (if p2 = -1 then none else some p2.toNatClampNeg)) u = some (nI (an A), W)) : f_X7_thing 0 p1 p2 u = if an A = 80 then some (-1, sI u 0 5 7) else some (nI (an A), sI W 0 5 0) := by
  have h80 := hW.1.1
  obtain ⟨hRC, hN, -, -, hT, -⟩ := id hC
  have hn1 := hN.1
  have h60 : 60 ≤ u.1 := by omega
  have h7 := hN.2
  have hz : (nI (an A) < 80) ↔ an A < 80 := by rw [show (80 : Int32) = nI 80 from rfl, nI_ltI (by omega) (by omega)]
  rcases h with ⟨a1, a2⟩ | ⟨a1, a2, j, hj, rfl, a3⟩
  · have hw := wi_t (p := p1) (a := 0) (b := 3) u (by rw [a1]; decide)
    have ha := at_none hC hW (p := p2) (fun q => by have := q.1; rw [a2] at this; exact absurd this (by decide))
    rw [if_pos a2] at hadd
    by_cases hn : an A = 80
    · have hz' : ¬ nI (an A) < 80 := fun q => by have := hz.mp q; omega
      simp (disch := first | exact h60 | omega | with_unfolding_all exact h60) only [f_X7_thing, ↓bd_of hw, ↓bd_of ha, eq_true a1, eq_true a2, h7, eq_false hz', eq_true hn, ↓bb_e, ↓c_sI, ↓o_sI, ↓a_sI, ↓c_sL, ↓o_sL, ↓a_sL, ↓c_rI, ↓o_rI, ↓a_rI, ↓c_rL, ↓o_rL, ↓a_rL, ↓c_rngI, ↓o_rngI, ↓a_rngI, ↓c_rngL, ↓o_rngL, ↓a_rngL, ↓bd_s, ↓cs_s, ↓cs_n, ↓gd_t, ↓gB0, ↓gB1, ↓gOT, ↓gAS, ↓gOY, ↓gAY, ↓reduceIte, d10, nI_clamp, nI_1', i0eq, ↓gO0 h60, ↓gO2 h60, ↓gO6 h60, ↓gO10 h60, ↓gO11 h60, ↓gO14 h60, ↓gO21 h60, ↓gA1 h60, ↓gA3 h60, ↓gA4 h60, ↓gA5 h60, ↓gA7 h60, ↓gA8 h60, ↓gA9 h60, ↓gA12 h60, ↓gA13 h60, ↓gA15 h60, ↓gA16 h60, ↓gA17 h60, ↓gA18 h60, ↓gA19 h60, ↓gA20 h60, ↓gA22 h60, ↓gA23 h60, ↓gA24 h60, ↓cC_0_0 hRC, ↓cC_0_1 hRC, ↓cC_0_2 hRC, ↓cC_0_3 hRC, ↓cC_0_4 hRC, ↓cC_2_0 hRC, ↓cC_2_2 hRC, ↓cC_2_3 hRC, ↓cC_6_0 hRC, ↓cC_6_1 hRC, ↓cC_6_2 hRC, ↓cC_10_0 hRC, ↓cC_10_1 hRC, ↓cC_10_2 hRC, ↓cC_10_3 hRC, ↓cC_10_4 hRC, ↓cC_10_5 hRC, ↓cC_11_0 hRC, ↓cC_11_1 hRC, ↓cC_14_0 hRC, ↓cC_14_1 hRC, ↓cC_21_0 hRC, ↓cC_21_1 hRC, ↓cC_21_2 hRC, ↓bdn7, ↓brf7, ↓bgr7, ↓ban7]
    · have hn' : an A < 80 := by omega
      have hadd : f_X0_add 2 p1 none u = some (nI (an A), W) := hadd hn'
      simp (disch := first | exact h60 | omega | with_unfolding_all exact h60) only [f_X7_thing, ↓bd_of hw, ↓bd_of ha, ↓bd_of hadd, eq_true a1, eq_true a2, h7, eq_true (hz.mpr hn'), eq_false hn, ↓gO0 h60', ↓ban7 h60', ↓bb_e, ↓c_sI, ↓o_sI, ↓a_sI, ↓c_sL, ↓o_sL, ↓a_sL, ↓c_rI, ↓o_rI, ↓a_rI, ↓c_rL, ↓o_rL, ↓a_rL, ↓c_rngI, ↓o_rngI, ↓a_rngI, ↓c_rngL, ↓o_rngL, ↓a_rngL, ↓bd_s, ↓cs_s, ↓cs_n, ↓gd_t, ↓gB0, ↓gB1, ↓gOT, ↓gAS, ↓gOY, ↓gAY, ↓reduceIte, d10, nI_clamp, nI_1', i0eq, ↓gO0 h60, ↓gO2 h60, ↓gO6 h60, ↓gO10 h60, ↓gO11 h60, ↓gO14 h60, ↓gO21 h60, ↓gA1 h60, ↓gA3 h60, ↓gA4 h60, ↓gA5 h60, ↓gA7 h60, ↓gA8 h60, ↓gA9 h60, ↓gA12 h60, ↓gA13 h60, ↓gA15 h60, ↓gA16 h60, ↓gA17 h60, ↓gA18 h60, ↓gA19 h60, ↓gA20 h60, ↓gA22 h60, ↓gA23 h60, ↓gA24 h60, ↓cC_0_0 hRC, ↓cC_0_1 hRC, ↓cC_0_2 hRC, ↓cC_0_3 hRC, ↓cC_0_4 hRC, ↓cC_2_0 hRC, ↓cC_2_2 hRC, ↓cC_2_3 hRC, ↓cC_6_0 hRC, ↓cC_6_1 hRC, ↓cC_6_2 hRC, ↓cC_10_0 hRC, ↓cC_10_1 hRC, ↓cC_10_2 hRC, ↓cC_10_3 hRC, ↓cC_10_4 hRC, ↓cC_10_5 hRC, ↓cC_11_0 hRC, ↓cC_11_1 hRC, ↓cC_14_0 hRC, ↓cC_14_1 hRC, ↓cC_21_0 hRC, ↓cC_21_1 hRC, ↓cC_21_2 hRC, ↓bdn7, ↓brf7, ↓bgr7, ↓ban7]
  · have hw := wi_t (p := p1) (a := 0) (b := 3) u (by rw [li_0, li_3]; exact a2)
    have ha := at_some hC hW hj
    have hm : f_X7_mayBeIn p1 (aI A 37 j) u = some 1 := by
      rw [may_t]
      rcases a3 with a3 | ⟨a3, a4⟩ <;> simp [*, b2i]
    have hne : ¬ nI j = -1 := fun q => by have := congrArg Int32.toInt q; rw [nI_toInt (by omega)] at this; exact absurd this (by rw [li_m1]; omega)
    rw [if_neg hne, nI_clamp (by omega)] at hadd
    obtain ⟨-, -, t3, -⟩ := hT j hj
    by_cases hn : an A = 80
    · have hz' : ¬ nI (an A) < 80 := fun q => by have := hz.mp q; omega
      simp (disch := first | exact h60 | omega | with_unfolding_all exact h60) only [f_X7_thing, ↓bd_of hw, ↓bd_of ha, eq_false a1, t3, ↓bd_of hm, h7, eq_false hz', eq_true hn, ↓bb_e, ↓c_sI, ↓o_sI, ↓a_sI, ↓c_sL, ↓o_sL, ↓a_sL, ↓c_rI, ↓o_rI, ↓a_rI, ↓c_rL, ↓o_rL, ↓a_rL, ↓c_rngI, ↓o_rngI, ↓a_rngI, ↓c_rngL, ↓o_rngL, ↓a_rngL, ↓bd_s, ↓cs_s, ↓cs_n, ↓gd_t, ↓gB0, ↓gB1, ↓gOT, ↓gAS, ↓gOY, ↓gAY, ↓reduceIte, d10, nI_clamp, nI_1', i0eq, ↓gO0 h60, ↓gO2 h60, ↓gO6 h60, ↓gO10 h60, ↓gO11 h60, ↓gO14 h60, ↓gO21 h60, ↓gA1 h60, ↓gA3 h60, ↓gA4 h60, ↓gA5 h60, ↓gA7 h60, ↓gA8 h60, ↓gA9 h60, ↓gA12 h60, ↓gA13 h60, ↓gA15 h60, ↓gA16 h60, ↓gA17 h60, ↓gA18 h60, ↓gA19 h60, ↓gA20 h60, ↓gA22 h60, ↓gA23 h60, ↓gA24 h60, ↓cC_0_0 hRC, ↓cC_0_1 hRC, ↓cC_0_2 hRC, ↓cC_0_3 hRC, ↓cC_0_4 hRC, ↓cC_2_0 hRC, ↓cC_2_2 hRC, ↓cC_2_3 hRC, ↓cC_6_0 hRC, ↓cC_6_1 hRC, ↓cC_6_2 hRC, ↓cC_10_0 hRC, ↓cC_10_1 hRC, ↓cC_10_2 hRC, ↓cC_10_3 hRC, ↓cC_10_4 hRC, ↓cC_10_5 hRC, ↓cC_11_0 hRC, ↓cC_11_1 hRC, ↓cC_14_0 hRC, ↓cC_14_1 hRC, ↓cC_21_0 hRC, ↓cC_21_1 hRC, ↓cC_21_2 hRC, ↓bdn7, ↓brf7, ↓bgr7, ↓ban7]
    · have hn' : an A < 80 := by omega
      have hadd : f_X0_add 2 p1 (some (60 + 2 * j)) u = some (nI (an A), W) := hadd hn'
      simp (disch := first | exact h60 | omega | with_unfolding_all exact h60) only [f_X7_thing, ↓bd_of hw, ↓bd_of ha, ↓bd_of hadd, eq_false a1, t3, ↓bd_of hm, h7, eq_true (hz.mpr hn'), eq_false hn, ↓gO0 h60', ↓ban7 h60', ↓bb_e, ↓c_sI, ↓o_sI, ↓a_sI, ↓c_sL, ↓o_sL, ↓a_sL, ↓c_rI, ↓o_rI, ↓a_rI, ↓c_rL, ↓o_rL, ↓a_rL, ↓c_rngI, ↓o_rngI, ↓a_rngI, ↓c_rngL, ↓o_rngL, ↓a_rngL, ↓bd_s, ↓cs_s, ↓cs_n, ↓gd_t, ↓gB0, ↓gB1, ↓gOT, ↓gAS, ↓gOY, ↓gAY, ↓reduceIte, d10, nI_clamp, nI_1', i0eq, ↓gO0 h60, ↓gO2 h60, ↓gO6 h60, ↓gO10 h60, ↓gO11 h60, ↓gO14 h60, ↓gO21 h60, ↓gA1 h60, ↓gA3 h60, ↓gA4 h60, ↓gA5 h60, ↓gA7 h60, ↓gA8 h60, ↓gA9 h60, ↓gA12 h60, ↓gA13 h60, ↓gA15 h60, ↓gA16 h60, ↓gA17 h60, ↓gA18 h60, ↓gA19 h60, ↓gA20 h60, ↓gA22 h60, ↓gA23 h60, ↓gA24 h60, ↓cC_0_0 hRC, ↓cC_0_1 hRC, ↓cC_0_2 hRC, ↓cC_0_3 hRC, ↓cC_0_4 hRC, ↓cC_2_0 hRC, ↓cC_2_2 hRC, ↓cC_2_3 hRC, ↓cC_6_0 hRC, ↓cC_6_1 hRC, ↓cC_6_2 hRC, ↓cC_10_0 hRC, ↓cC_10_1 hRC, ↓cC_10_2 hRC, ↓cC_10_3 hRC, ↓cC_10_4 hRC, ↓cC_10_5 hRC, ↓cC_11_0 hRC, ↓cC_11_1 hRC, ↓cC_14_0 hRC, ↓cC_14_1 hRC, ↓cC_21_0 hRC, ↓cC_21_1 hRC, ↓cC_21_2 hRC, ↓bdn7, ↓brf7, ↓bgr7, ↓ban7]
theorem C_thingR {u : Mm} {A : Ab} (hW : Wf A) (hC : CR u A) {p1 p2 c : Int32} (h : (¬ (0 ≤ p1.toInt ∧ p1.toInt ≤ 3) ∧ c = 5) ∨ (p1 = 0 ∧ ¬ p2 = -1 ∧ c = 2) ∨ (¬ p1 = 0 ∧ (0 ≤ p1.toInt ∧ p1.toInt ≤ 3) ∧ ¬ isT A p2 ∧ c = 2) ∨ (¬ p1 = 0 ∧ (0 ≤ p1.toInt ∧ p1.toInt ≤ 3) ∧ ∃ j, j < an A ∧ p2 = nI j ∧ ¬ (aI A 37 j = p1 - 1 ∨ (p1 = 3 ∧ aI A 37 j = 1)) ∧ c = 8)) : f_X7_thing 0 p1 p2 u = some (-1, sI u 0 5 c) := by
  have h80 := hW.1.1
  obtain ⟨hRC, hN, -, -, hT, -⟩ := id hC
  have hn1 := hN.1
  have h60 : 60 ≤ u.1 := by omega
  rcases h with ⟨a1, rfl⟩ | ⟨a1, a2, rfl⟩ | ⟨a1, a2, a3, rfl⟩ | ⟨a1, a2, j, hj, rfl, a3, rfl⟩
  · have hw := wi_f (p := p1) (a := 0) (b := 3) u (by rw [li_0, li_3]; exact a1)
    simp (disch := first | exact h60 | omega | with_unfolding_all exact h60) only [f_X7_thing, ↓bd_of hw, ↓bb_e, ↓c_sI, ↓o_sI, ↓a_sI, ↓c_sL, ↓o_sL, ↓a_sL, ↓c_rI, ↓o_rI, ↓a_rI, ↓c_rL, ↓o_rL, ↓a_rL, ↓c_rngI, ↓o_rngI, ↓a_rngI, ↓c_rngL, ↓o_rngL, ↓a_rngL, ↓bd_s, ↓cs_s, ↓cs_n, ↓gd_t, ↓gB0, ↓gB1, ↓gOT, ↓gAS, ↓gOY, ↓gAY, ↓reduceIte, d10, nI_clamp, nI_1', i0eq, ↓gO0 h60, ↓gO2 h60, ↓gO6 h60, ↓gO10 h60, ↓gO11 h60, ↓gO14 h60, ↓gO21 h60, ↓gA1 h60, ↓gA3 h60, ↓gA4 h60, ↓gA5 h60, ↓gA7 h60, ↓gA8 h60, ↓gA9 h60, ↓gA12 h60, ↓gA13 h60, ↓gA15 h60, ↓gA16 h60, ↓gA17 h60, ↓gA18 h60, ↓gA19 h60, ↓gA20 h60, ↓gA22 h60, ↓gA23 h60, ↓gA24 h60, ↓cC_0_0 hRC, ↓cC_0_1 hRC, ↓cC_0_2 hRC, ↓cC_0_3 hRC, ↓cC_0_4 hRC, ↓cC_2_0 hRC, ↓cC_2_2 hRC, ↓cC_2_3 hRC, ↓cC_6_0 hRC, ↓cC_6_1 hRC, ↓cC_6_2 hRC, ↓cC_10_0 hRC, ↓cC_10_1 hRC, ↓cC_10_2 hRC, ↓cC_10_3 hRC, ↓cC_10_4 hRC, ↓cC_10_5 hRC, ↓cC_11_0 hRC, ↓cC_11_1 hRC, ↓cC_14_0 hRC, ↓cC_14_1 hRC, ↓cC_21_0 hRC, ↓cC_21_1 hRC, ↓cC_21_2 hRC, ↓bdn7, ↓brf7, ↓bgr7, ↓ban7]
  · have hw := wi_t (p := p1) (a := 0) (b := 3) u (by rw [a1]; decide)
    by_cases hq : isT A p2
    · obtain ⟨j, hj, rfl⟩ := isT_ex hq
      simp (disch := first | exact h60 | omega | with_unfolding_all exact h60) only [f_X7_thing, ↓bd_of hw, ↓bd_of (at_some hC hW hj), eq_true a1, eq_false a2, ↓bb_e, ↓c_sI, ↓o_sI, ↓a_sI, ↓c_sL, ↓o_sL, ↓a_sL, ↓c_rI, ↓o_rI, ↓a_rI, ↓c_rL, ↓o_rL, ↓a_rL, ↓c_rngI, ↓o_rngI, ↓a_rngI, ↓c_rngL, ↓o_rngL, ↓a_rngL, ↓bd_s, ↓cs_s, ↓cs_n, ↓gd_t, ↓gB0, ↓gB1, ↓gOT, ↓gAS, ↓gOY, ↓gAY, ↓reduceIte, d10, nI_clamp, nI_1', i0eq, ↓gO0 h60, ↓gO2 h60, ↓gO6 h60, ↓gO10 h60, ↓gO11 h60, ↓gO14 h60, ↓gO21 h60, ↓gA1 h60, ↓gA3 h60, ↓gA4 h60, ↓gA5 h60, ↓gA7 h60, ↓gA8 h60, ↓gA9 h60, ↓gA12 h60, ↓gA13 h60, ↓gA15 h60, ↓gA16 h60, ↓gA17 h60, ↓gA18 h60, ↓gA19 h60, ↓gA20 h60, ↓gA22 h60, ↓gA23 h60, ↓gA24 h60, ↓cC_0_0 hRC, ↓cC_0_1 hRC, ↓cC_0_2 hRC, ↓cC_0_3 hRC, ↓cC_0_4 hRC, ↓cC_2_0 hRC, ↓cC_2_2 hRC, ↓cC_2_3 hRC, ↓cC_6_0 hRC, ↓cC_6_1 hRC, ↓cC_6_2 hRC, ↓cC_10_0 hRC, ↓cC_10_1 hRC, ↓cC_10_2 hRC, ↓cC_10_3 hRC, ↓cC_10_4 hRC, ↓cC_10_5 hRC, ↓cC_11_0 hRC, ↓cC_11_1 hRC, ↓cC_14_0 hRC, ↓cC_14_1 hRC, ↓cC_21_0 hRC, ↓cC_21_1 hRC, ↓cC_21_2 hRC, ↓bdn7, ↓brf7, ↓bgr7, ↓ban7]
    · simp (disch := first | exact h60 | omega | with_unfolding_all exact h60) only [f_X7_thing, ↓bd_of hw, ↓bd_of (at_none hC hW hq), eq_true a1, eq_false a2, ↓bb_e, ↓c_sI, ↓o_sI, ↓a_sI, ↓c_sL, ↓o_sL, ↓a_sL, ↓c_rI, ↓o_rI, ↓a_rI, ↓c_rL, ↓o_rL, ↓a_rL, ↓c_rngI, ↓o_rngI, ↓a_rngI, ↓c_rngL, ↓o_rngL, ↓a_rngL, ↓bd_s, ↓cs_s, ↓cs_n, ↓gd_t, ↓gB0, ↓gB1, ↓gOT, ↓gAS, ↓gOY, ↓gAY, ↓reduceIte, d10, nI_clamp, nI_1', i0eq, ↓gO0 h60, ↓gO2 h60, ↓gO6 h60, ↓gO10 h60, ↓gO11 h60, ↓gO14 h60, ↓gO21 h60, ↓gA1 h60, ↓gA3 h60, ↓gA4 h60, ↓gA5 h60, ↓gA7 h60, ↓gA8 h60, ↓gA9 h60, ↓gA12 h60, ↓gA13 h60, ↓gA15 h60, ↓gA16 h60, ↓gA17 h60, ↓gA18 h60, ↓gA19 h60, ↓gA20 h60, ↓gA22 h60, ↓gA23 h60, ↓gA24 h60, ↓cC_0_0 hRC, ↓cC_0_1 hRC, ↓cC_0_2 hRC, ↓cC_0_3 hRC, ↓cC_0_4 hRC, ↓cC_2_0 hRC, ↓cC_2_2 hRC, ↓cC_2_3 hRC, ↓cC_6_0 hRC, ↓cC_6_1 hRC, ↓cC_6_2 hRC, ↓cC_10_0 hRC, ↓cC_10_1 hRC, ↓cC_10_2 hRC, ↓cC_10_3 hRC, ↓cC_10_4 hRC, ↓cC_10_5 hRC, ↓cC_11_0 hRC, ↓cC_11_1 hRC, ↓cC_14_0 hRC, ↓cC_14_1 hRC, ↓cC_21_0 hRC, ↓cC_21_1 hRC, ↓cC_21_2 hRC, ↓bdn7, ↓brf7, ↓bgr7, ↓ban7]
  · have hw := wi_t (p := p1) (a := 0) (b := 3) u (by rw [li_0, li_3]; exact a2)
    simp (disch := first | exact h60 | omega | with_unfolding_all exact h60) only [f_X7_thing, ↓bd_of hw, ↓bd_of (at_none hC hW a3), eq_false a1, ↓bb_e, ↓c_sI, ↓o_sI, ↓a_sI, ↓c_sL, ↓o_sL, ↓a_sL, ↓c_rI, ↓o_rI, ↓a_rI, ↓c_rL, ↓o_rL, ↓a_rL, ↓c_rngI, ↓o_rngI, ↓a_rngI, ↓c_rngL, ↓o_rngL, ↓a_rngL, ↓bd_s, ↓cs_s, ↓cs_n, ↓gd_t, ↓gB0, ↓gB1, ↓gOT, ↓gAS, ↓gOY, ↓gAY, ↓reduceIte, d10, nI_clamp, nI_1', i0eq, ↓gO0 h60, ↓gO2 h60, ↓gO6 h60, ↓gO10 h60, ↓gO11 h60, ↓gO14 h60, ↓gO21 h60, ↓gA1 h60, ↓gA3 h60, ↓gA4 h60, ↓gA5 h60, ↓gA7 h60, ↓gA8 h60, ↓gA9 h60, ↓gA12 h60, ↓gA13 h60, ↓gA15 h60, ↓gA16 h60, ↓gA17 h60, ↓gA18 h60, ↓gA19 h60, ↓gA20 h60, ↓gA22 h60, ↓gA23 h60, ↓gA24 h60, ↓cC_0_0 hRC, ↓cC_0_1 hRC, ↓cC_0_2 hRC, ↓cC_0_3 hRC, ↓cC_0_4 hRC, ↓cC_2_0 hRC, ↓cC_2_2 hRC, ↓cC_2_3 hRC, ↓cC_6_0 hRC, ↓cC_6_1 hRC, ↓cC_6_2 hRC, ↓cC_10_0 hRC, ↓cC_10_1 hRC, ↓cC_10_2 hRC, ↓cC_10_3 hRC, ↓cC_10_4 hRC, ↓cC_10_5 hRC, ↓cC_11_0 hRC, ↓cC_11_1 hRC, ↓cC_14_0 hRC, ↓cC_14_1 hRC, ↓cC_21_0 hRC, ↓cC_21_1 hRC, ↓cC_21_2 hRC, ↓bdn7, ↓brf7, ↓bgr7, ↓ban7]
  · have hw := wi_t (p := p1) (a := 0) (b := 3) u (by rw [li_0, li_3]; exact a2)
    have hm : f_X7_mayBeIn p1 (aI A 37 j) u = some 0 := by
      rw [may_t]
      by_cases b1 : aI A 37 j = p1 - 1
      · exact absurd (Or.inl b1) a3
      · by_cases b2 : p1 = 3
        · by_cases b3 : aI A 37 j = 1
          · exact absurd (Or.inr ⟨b2, b3⟩) a3
          · simp [b1, b3, b2i]
        · simp [b1, b2, b2i]
    obtain ⟨-, -, t3, -⟩ := hT j hj
    simp (disch := first | exact h60 | omega | with_unfolding_all exact h60) only [f_X7_thing, ↓bd_of hw, ↓bd_of (at_some hC hW hj), eq_false a1, t3, ↓bd_of hm, ↓bb_e, ↓c_sI, ↓o_sI, ↓a_sI, ↓c_sL, ↓o_sL, ↓a_sL, ↓c_rI, ↓o_rI, ↓a_rI, ↓c_rL, ↓o_rL, ↓a_rL, ↓c_rngI, ↓o_rngI, ↓a_rngI, ↓c_rngL, ↓o_rngL, ↓a_rngL, ↓bd_s, ↓cs_s, ↓cs_n, ↓gd_t, ↓gB0, ↓gB1, ↓gOT, ↓gAS, ↓gOY, ↓gAY, ↓reduceIte, d10, nI_clamp, nI_1', i0eq, ↓gO0 h60, ↓gO2 h60, ↓gO6 h60, ↓gO10 h60, ↓gO11 h60, ↓gO14 h60, ↓gO21 h60, ↓gA1 h60, ↓gA3 h60, ↓gA4 h60, ↓gA5 h60, ↓gA7 h60, ↓gA8 h60, ↓gA9 h60, ↓gA12 h60, ↓gA13 h60, ↓gA15 h60, ↓gA16 h60, ↓gA17 h60, ↓gA18 h60, ↓gA19 h60, ↓gA20 h60, ↓gA22 h60, ↓gA23 h60, ↓gA24 h60, ↓cC_0_0 hRC, ↓cC_0_1 hRC, ↓cC_0_2 hRC, ↓cC_0_3 hRC, ↓cC_0_4 hRC, ↓cC_2_0 hRC, ↓cC_2_2 hRC, ↓cC_2_3 hRC, ↓cC_6_0 hRC, ↓cC_6_1 hRC, ↓cC_6_2 hRC, ↓cC_10_0 hRC, ↓cC_10_1 hRC, ↓cC_10_2 hRC, ↓cC_10_3 hRC, ↓cC_10_4 hRC, ↓cC_10_5 hRC, ↓cC_11_0 hRC, ↓cC_11_1 hRC, ↓cC_14_0 hRC, ↓cC_14_1 hRC, ↓cC_21_0 hRC, ↓cC_21_1 hRC, ↓cC_21_2 hRC, ↓bdn7, ↓brf7, ↓bgr7, ↓ban7]
-- THING
theorem P_thing {u : Mm} (hI : Inv u) (p1 p2 : Int32) : Pq (f_X7_thing 0 p1 p2) (f_X8_thing 33 p1 p2) u := by
  obtain ⟨A, hW, hC, hM⟩ := hI
  obtain ⟨hRC, hN, hS, hF, hT, hPc, hY, hLg, hSh⟩ := id hC
  obtain ⟨hRM, h60, h7, hMs, hMf, hMt, hMy, hMl⟩ := id hM
  have h80 : an A ≤ 80 := hW.1.1
  have hn := hN.1
  have h37 : ∀ k, aI (st A 0) 37 k = aI A 37 k := fun k => aI_st (by omega)
  have refuse : ∀ c : Int32, ((¬ (0 ≤ p1.toInt ∧ p1.toInt ≤ 3) ∧ c = 5) ∨ (p1 = 0 ∧ ¬ p2 = -1 ∧ c = 2) ∨ (¬ p1 = 0 ∧ (0 ≤ p1.toInt ∧ p1.toInt ≤ 3) ∧ ¬ isT A p2 ∧ c = 2) ∨ (¬ p1 = 0 ∧ (0 ≤ p1.toInt ∧ p1.toInt ≤ 3) ∧ ∃ j, j < an A ∧ p2 = nI j ∧ ¬ (aI A 37 j = p1 - 1 ∨ (p1 = 3 ∧ aI A 37 j = 1)) ∧ c = 8)) → Pq (f_X7_thing 0 p1 p2) (f_X8_thing 33 p1 p2) u := fun c h => by
    refine leaf_st (A := A) (-1) c 0 hW hC hM (C_thingR hW hC h) (M_thingR (v := sI u 0 5 c) (Wf_st 0 hW) h60 (MR_k hM c) ?_)
    simp only [h37]
    exact h
  have grant : ((p1 = 0 ∧ p2 = -1) ∨ (¬ p1 = 0 ∧ (0 ≤ p1.toInt ∧ p1.toInt ≤ 3) ∧ ∃ j, j < an A ∧ p2 = nI j ∧ (aI A 37 j = p1 - 1 ∨ (p1 = 3 ∧ aI A 37 j = 1)))) → Pq (f_X7_thing 0 p1 p2) (f_X8_thing 33 p1 p2) u := fun h => by
    have h' : ((p1 = 0 ∧ p2 = -1) ∨ (¬ p1 = 0 ∧ (0 ≤ p1.toInt ∧ p1.toInt ≤ 3) ∧ ∃ j, j < an (st A 0) ∧ p2 = nI j ∧ (aI (st A 0) 37 j = p1 - 1 ∨ (p1 = 3 ∧ aI (st A 0) 37 j = 1)))) := by
      simp only [h37]
      exact h
    by_cases hn8 : an A = 80
    · have c7 := C_thing (W := u) hW hC h h60 (fun q => by omega)
      rw [if_pos hn8] at c7
      have m7 := M_thing (v := sI u 0 5 7) (Wf_st 0 hW) h60 (MR_k hM 7) h'
      rw [if_pos (show an (st A 0) = 80 from hn8)] at m7
      exact leaf_st (A := A) (-1) 7 0 hW hC hM c7 m7
    · obtain ⟨W, x1, x2, x3, x4, x5, x6, x7, x8, x9, x10, x11, x12, x13, x14, x15, x16, x17, x18⟩ := add_t hRC hn hN.2 (show an A < 80 by omega) p1 (pC (if p2 = -1 then none else some p2.toNatClampNeg))
      have c7 := C_thing (W := W) hW hC h (by omega) (fun _ => x1)
      rw [if_neg hn8] at c7
      have kM : keepM u W := ⟨by omega, fun r h1 h2 => ⟨fun k => x3 r k (by omega) (by omega), fun k => x7 r k (by omega), fun k => x5 r k (by omega) (by omega)⟩⟩
      have hM1 : MR (sI W 0 5 0) A := hM.keep (kM.sI (by omega))
      have m7 := M_thing (v := sI W 0 5 0) (Wf_st 0 hW) (by show 60 ≤ W.1; omega) (MR_m0 hM1) h'
      rw [if_neg (show ¬ an (st A 0) = 80 from hn8)] at m7
      have hr : (0 ≤ p1.toInt ∧ p1.toInt ≤ 3) ∧ -1 ≤ p2.toInt ∧ p2.toInt < (an A : Int) := by
        rcases h with ⟨a1, a2⟩ | ⟨a1, a2, j, hj, rfl, a3⟩
        · rw [a1, a2, li_0, li_m1]; omega
        · rw [nI_toInt (by omega)]; omega
      refine leaf_ok (u1 := W) (v := thM (m0 (sI W 0 5 0)) p1 p2 (an A)) (A' := thA A p1 p2 (gI (m0 (sI W 0 5 0)) 43 (an A))) (nI (an A)) c7 m7 (Wf_thing hW (by omega) _ hr.1 hr.2) (CR_thing hC hW p1 p2 _ rfl x2 x3 x4 x5 x6 x7 x8 x9 x10 x11 x12 x13 x14 x15 x16 x17 x18) ?_ (((keepC.rf.sI (by omega)).sI (by omega)).trans keepC.thM)
      rw [← th_st]
      exact MR_thing (MR_m0 hM1) (show an A < 80 by omega) p1 p2
  by_cases h1 : 0 ≤ p1.toInt ∧ p1.toInt ≤ 3
  · by_cases h2 : p1 = 0
    · by_cases h3 : p2 = -1
      · exact grant (Or.inl ⟨h2, h3⟩)
      · exact refuse 2 (Or.inr (Or.inl ⟨h2, h3, rfl⟩))
    · by_cases h3 : isT A p2
      · obtain ⟨j, hj, e⟩ := isT_ex h3
        by_cases h4 : aI A 37 j = p1 - 1 ∨ (p1 = 3 ∧ aI A 37 j = 1)
        · exact grant (Or.inr ⟨h2, h1, j, hj, e, h4⟩)
        · exact refuse 8 (Or.inr (Or.inr (Or.inr ⟨h2, h1, j, hj, e, h4, rfl⟩)))
      · exact refuse 2 (Or.inr (Or.inr (Or.inl ⟨h2, h1, h3, rfl⟩)))
  · exact refuse 5 (Or.inl ⟨h1, rfl⟩)
